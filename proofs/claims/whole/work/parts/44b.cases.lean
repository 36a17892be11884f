def gL_0 (σ : x_S) (a1 a2 : Int32) : Option x_S := (Option.bind (fL_seek σ a1) fun r1 => (Option.bind (fX7_seek (r1.2 11) a1) fun r3 => x_let (x_sh r1.2 11 r3.2) fun τ5 => (Option.bind (fX7_thrown (τ5 11) ) fun r7 => (if r7 = r1.1 then (if r1.1 = 0 then (if (lg_cmp (τ5 12 48 (Int32.toNatClampNeg (0 : Int32))).toInt64 (r3.1).toInt64) = 0 then some τ5 else none) else some τ5) else none))))
set_option maxHeartbeats 4000000 in
set_option maxRecDepth 100000 in
theorem wL_0 {p : Program} {l : Launch} {e : Env} {s : State} {m : MethodId} {below : List Frame} {meth : Method} {c : Code} {H : Heap} {locs : List Loc} {cells slots : Nat} {Q : State → Prop} {X : x_T} {σ : x_S} {b L : Nat} {xs : Nat → Int32} {ls : Array Slot} {i a1 a2 : Int32} {r : x_S} (FF : xw_F p l s m meth c b L xs X) (hi1 : x_in (i + (1 : Int32)) L) (hi2 : x_in (i + (2 : Int32)) L) (he1 : xs (i + (1 : Int32)).toNatClampNeg = a1) (he2 : xs (i + (2 : Int32)).toNatClampNeg = a2) (hf0 : cells ≤ room_1.cells ∧ slots ≤ room_1.slots) (hf1 : cells + 1 ≤ room_1.cells ∧ slots + 6 ≤ room_1.slots) (h : gL_0 σ a1 a2 = some r) (hI : x_I X σ s H locs) (hl : lv_has ls 9 (xw_lv X b i)) (kk : ∀ (H1 : Heap) (locs1 : List Loc) (ls1 : Array Slot), x_I X r s H1 locs1 → lv_has ls1 9 (xw_lv X b i) → W p l e room_1 s m #[Value.ref b] below meth c H1 locs1 (cells + 1) (slots + 6) Q (F0 m 2520 ls1 [])) : W p l e room_1 s m #[Value.ref b] below meth c H locs cells slots Q (F0 m 284 ls []) := by
  have F := FF.1
  have Z := FF.2.2.1
  have hx := F.1
  have hb := F.2.1
  have hml := F.2.2.1
  have hown := F.2.2.2.1
  have hts := F.2.2.2.2.1
  unfold gL_0 at h
  refine lv_aload_n hx hb dL_law_284 rfl (lv_at hl 1 rfl) ?_
  refine lv_aload_n hx hb dL_law_285 rfl (lv_at hl 0 rfl) ?_
  refine lv_iload hx hb dL_law_286 (lv_at hl 4 rfl) ?_
  refine lv_iconst (v := 1) hx hb dL_law_288 (by decide) ?_
  refine lv_iadd hx hb dL_law_289 ?_
  refine xw_sld FF hI hi1 he1 dL_law_290 ?_
  refine lv_aload_n hx hb dL_law_291 rfl (lv_at hl 3 rfl) ?_
  obtain ⟨r1, h2, h⟩ := x_bnd h
  refine xw_aci hI (xw_run (rest := []) F Z hI (mL_seek l FF.2.1 X _ σ a1 r1 h2) gw_L_132 hd_L_seek ⟨by decide, by decide⟩ ⟨rfl, rfl⟩ rfl hl.1 rfl (Nat.le_of_ble_eq_true rfl) dL_law_292 hf1) (fun H locs hI => ?_)
  refine lv_istore (lv' := [(5, .int r1.1), (0, .ref b), (1, .ref (X.2.2 10 32)), (2, .ref (X.2.2 11 40)), (3, .ref (X.2.2 12 48)), (4, .int i)]) hx hb dL_law_295 hl (by decide) rfl (fun ls hl => ?_)
  refine lv_aload_n hx hb dL_law_297 rfl (lv_at hl 3 rfl) ?_
  refine lv_aload_n hx hb dL_law_298 rfl (lv_at hl 1 rfl) ?_
  refine lv_iload hx hb dL_law_299 (lv_at hl 5 rfl) ?_
  refine lv_iconst (v := 1) hx hb dL_law_301 (by decide) ?_
  refine lv_iadd hx hb dL_law_302 ?_
  refine xw_sld FF hI hi1 he1 dL_law_303 ?_
  obtain ⟨r3, h4, h⟩ := x_bnd h
  have hI := x_toH 11 hI
  refine x_aci hI (x_runV (rest := []) F hI (mX7_seek l X r1.2 _ (r1.2 11) a1 r3 h4) g_L_137 ⟨rfl, hd_X7_seek⟩ ⟨by decide, by decide⟩ ⟨rfl, rfl⟩ (x_inO (by decide)) rfl rfl rfl rfl hl.1 rfl (Nat.le_of_ble_eq_true rfl) dL_law_304 hf1) (fun H locs hI => ?_)
  obtain ⟨τ5, e6⟩ : ∃ z : x_S, z = (x_sh r1.2 11 r3.2) := ⟨_, rfl⟩
  rw [← e6] at hI
  have h := x_let_at h e6
  refine lv_istore (lv' := [(6, .int r3.1), (5, .int r1.1), (0, .ref b), (1, .ref (X.2.2 10 32)), (2, .ref (X.2.2 11 40)), (3, .ref (X.2.2 12 48)), (4, .int i)]) hx hb dL_law_307 hl (by decide) rfl (fun ls hl => ?_)
  refine lv_aload_n hx hb dL_law_309 rfl (lv_at hl 4 rfl) ?_
  obtain ⟨r7, h8, h⟩ := x_bnd h
  have hI := x_toH 11 hI
  refine x_aci hI (x_runV (rest := []) F hI (mX7_thrown l X τ5 _ (τ5 11)  r7 h8) g_L_138 ⟨rfl, hd_X7_thrown⟩ ⟨by decide, by decide⟩ ⟨rfl, rfl⟩ (x_inO (by decide)) rfl rfl rfl rfl hl.1 rfl (Nat.le_of_ble_eq_true rfl) dL_law_310 hf1) (fun H locs hI => ?_)
  rw [x_sh_self] at hI
  refine lv_iload hx hb dL_law_313 (lv_at hl 1 rfl) ?_
  refine lv_icmp_eq (tgt := 320) hx hb dL_law_315 (by decide) (fun c9 => ?_) (fun c9 => ?_)
  · have h := x_ift h c9
    refine lv_iload hx hb dL_law_320 (lv_at hl 1 rfl) ?_
    refine lv_if_ne (tgt := 337) hx hb dL_law_322 (by decide) (fun c10 => ?_) (fun c10 => ?_)
    · have h := x_iff h c10
      refine lv_goto (tgt := 2520) hx hb dL_law_337 (by decide) ?_
      rw [x_some h] at kk
      exact W.widen (by omega) (by omega) (kk H locs ls hI (lv_sub hl [2, 3, 4, 5, 6] rfl))
    · have h := x_ift h c10
      refine lv_aload_n hx hb dL_law_325 rfl (lv_at hl 5 rfl) ?_
      refine lv_iconst (v := 0) hx hb dL_law_326 (by decide) ?_
      refine x_lald F hI (by decide) dL_law_327 ?_
      refine lv_iload hx hb dL_law_328 (lv_at hl 0 rfl) ?_
      refine lv_i2l hx hb dL_law_330 rfl ?_
      refine W.lcmp hx hb dL_law_331 ?_
      refine lv_if_eq (tgt := 337) hx hb dL_law_332 (by decide) (fun c11 => ?_) (fun c11 => ?_)
      · have h := x_ift h c11
        refine lv_goto (tgt := 2520) hx hb dL_law_337 (by decide) ?_
        rw [x_some h] at kk
        exact W.widen (by omega) (by omega) (kk H locs ls hI (lv_sub hl [2, 3, 4, 5, 6] rfl))
      · have h := x_iff h c11
        refine lv_iconst (v := 0) hx hb dL_law_335 (by decide) ?_
        cases h
  · have h := x_iff h c9
    refine lv_iconst (v := 0) hx hb dL_law_318 (by decide) ?_
    cases h
def gL_1 (σ : x_S) (a1 a2 : Int32) : Option x_S := (Option.bind (fL_leave σ a1) fun r1 => (Option.bind (fX7_leave (r1.2 11) a1) fun r3 => x_let (x_sh r1.2 11 r3.2) fun τ5 => (Option.bind (fX7_thrown (τ5 11) ) fun r7 => (if r7 = r1.1 then (if r1.1 = 0 then (if (lg_cmp (τ5 12 48 (Int32.toNatClampNeg (0 : Int32))).toInt64 (r3.1).toInt64) = 0 then some τ5 else none) else some τ5) else none))))
set_option maxHeartbeats 4000000 in
set_option maxRecDepth 100000 in
theorem wL_1 {p : Program} {l : Launch} {e : Env} {s : State} {m : MethodId} {below : List Frame} {meth : Method} {c : Code} {H : Heap} {locs : List Loc} {cells slots : Nat} {Q : State → Prop} {X : x_T} {σ : x_S} {b L : Nat} {xs : Nat → Int32} {ls : Array Slot} {i a1 a2 : Int32} {r : x_S} (FF : xw_F p l s m meth c b L xs X) (hi1 : x_in (i + (1 : Int32)) L) (hi2 : x_in (i + (2 : Int32)) L) (he1 : xs (i + (1 : Int32)).toNatClampNeg = a1) (he2 : xs (i + (2 : Int32)).toNatClampNeg = a2) (hf0 : cells ≤ room_1.cells ∧ slots ≤ room_1.slots) (hf1 : cells + 1 ≤ room_1.cells ∧ slots + 6 ≤ room_1.slots) (h : gL_1 σ a1 a2 = some r) (hI : x_I X σ s H locs) (hl : lv_has ls 9 (xw_lv X b i)) (kk : ∀ (H1 : Heap) (locs1 : List Loc) (ls1 : Array Slot), x_I X r s H1 locs1 → lv_has ls1 9 (xw_lv X b i) → W p l e room_1 s m #[Value.ref b] below meth c H1 locs1 (cells + 1) (slots + 6) Q (F0 m 2520 ls1 [])) : W p l e room_1 s m #[Value.ref b] below meth c H locs cells slots Q (F0 m 340 ls []) := by
  have F := FF.1
  have Z := FF.2.2.1
  have hx := F.1
  have hb := F.2.1
  have hml := F.2.2.1
  have hown := F.2.2.2.1
  have hts := F.2.2.2.2.1
  unfold gL_1 at h
  refine lv_aload_n hx hb dL_law_340 rfl (lv_at hl 1 rfl) ?_
  refine lv_aload_n hx hb dL_law_341 rfl (lv_at hl 0 rfl) ?_
  refine lv_iload hx hb dL_law_342 (lv_at hl 4 rfl) ?_
  refine lv_iconst (v := 1) hx hb dL_law_344 (by decide) ?_
  refine lv_iadd hx hb dL_law_345 ?_
  refine xw_sld FF hI hi1 he1 dL_law_346 ?_
  refine lv_aload_n hx hb dL_law_347 rfl (lv_at hl 3 rfl) ?_
  obtain ⟨r1, h2, h⟩ := x_bnd h
  refine xw_aci hI (xw_run (rest := []) F Z hI (mL_leave l FF.2.1 X _ σ a1 r1 h2) gw_L_141 hd_L_leave ⟨by decide, by decide⟩ ⟨rfl, rfl⟩ rfl hl.1 rfl (Nat.le_of_ble_eq_true rfl) dL_law_348 hf1) (fun H locs hI => ?_)
  refine lv_istore (lv' := [(5, .int r1.1), (0, .ref b), (1, .ref (X.2.2 10 32)), (2, .ref (X.2.2 11 40)), (3, .ref (X.2.2 12 48)), (4, .int i)]) hx hb dL_law_351 hl (by decide) rfl (fun ls hl => ?_)
  refine lv_aload_n hx hb dL_law_353 rfl (lv_at hl 3 rfl) ?_
  refine lv_aload_n hx hb dL_law_354 rfl (lv_at hl 1 rfl) ?_
  refine lv_iload hx hb dL_law_355 (lv_at hl 5 rfl) ?_
  refine lv_iconst (v := 1) hx hb dL_law_357 (by decide) ?_
  refine lv_iadd hx hb dL_law_358 ?_
  refine xw_sld FF hI hi1 he1 dL_law_359 ?_
  obtain ⟨r3, h4, h⟩ := x_bnd h
  have hI := x_toH 11 hI
  refine x_aci hI (x_runV (rest := []) F hI (mX7_leave l X r1.2 _ (r1.2 11) a1 r3 h4) g_L_143 ⟨rfl, hd_X7_leave⟩ ⟨by decide, by decide⟩ ⟨rfl, rfl⟩ (x_inO (by decide)) rfl rfl rfl rfl hl.1 rfl (Nat.le_of_ble_eq_true rfl) dL_law_360 hf1) (fun H locs hI => ?_)
  obtain ⟨τ5, e6⟩ : ∃ z : x_S, z = (x_sh r1.2 11 r3.2) := ⟨_, rfl⟩
  rw [← e6] at hI
  have h := x_let_at h e6
  refine lv_istore (lv' := [(6, .int r3.1), (5, .int r1.1), (0, .ref b), (1, .ref (X.2.2 10 32)), (2, .ref (X.2.2 11 40)), (3, .ref (X.2.2 12 48)), (4, .int i)]) hx hb dL_law_363 hl (by decide) rfl (fun ls hl => ?_)
  refine lv_aload_n hx hb dL_law_365 rfl (lv_at hl 4 rfl) ?_
  obtain ⟨r7, h8, h⟩ := x_bnd h
  have hI := x_toH 11 hI
  refine x_aci hI (x_runV (rest := []) F hI (mX7_thrown l X τ5 _ (τ5 11)  r7 h8) g_L_138 ⟨rfl, hd_X7_thrown⟩ ⟨by decide, by decide⟩ ⟨rfl, rfl⟩ (x_inO (by decide)) rfl rfl rfl rfl hl.1 rfl (Nat.le_of_ble_eq_true rfl) dL_law_366 hf1) (fun H locs hI => ?_)
  rw [x_sh_self] at hI
  refine lv_iload hx hb dL_law_369 (lv_at hl 1 rfl) ?_
  refine lv_icmp_eq (tgt := 376) hx hb dL_law_371 (by decide) (fun c9 => ?_) (fun c9 => ?_)
  · have h := x_ift h c9
    refine lv_iload hx hb dL_law_376 (lv_at hl 1 rfl) ?_
    refine lv_if_ne (tgt := 393) hx hb dL_law_378 (by decide) (fun c10 => ?_) (fun c10 => ?_)
    · have h := x_iff h c10
      refine lv_goto (tgt := 2520) hx hb dL_law_393 (by decide) ?_
      rw [x_some h] at kk
      exact W.widen (by omega) (by omega) (kk H locs ls hI (lv_sub hl [2, 3, 4, 5, 6] rfl))
    · have h := x_ift h c10
      refine lv_aload_n hx hb dL_law_381 rfl (lv_at hl 5 rfl) ?_
      refine lv_iconst (v := 0) hx hb dL_law_382 (by decide) ?_
      refine x_lald F hI (by decide) dL_law_383 ?_
      refine lv_iload hx hb dL_law_384 (lv_at hl 0 rfl) ?_
      refine lv_i2l hx hb dL_law_386 rfl ?_
      refine W.lcmp hx hb dL_law_387 ?_
      refine lv_if_eq (tgt := 393) hx hb dL_law_388 (by decide) (fun c11 => ?_) (fun c11 => ?_)
      · have h := x_ift h c11
        refine lv_goto (tgt := 2520) hx hb dL_law_393 (by decide) ?_
        rw [x_some h] at kk
        exact W.widen (by omega) (by omega) (kk H locs ls hI (lv_sub hl [2, 3, 4, 5, 6] rfl))
      · have h := x_iff h c11
        refine lv_iconst (v := 0) hx hb dL_law_391 (by decide) ?_
        cases h
  · have h := x_iff h c9
    refine lv_iconst (v := 0) hx hb dL_law_374 (by decide) ?_
    cases h
def gL_2 (σ : x_S) (a1 a2 : Int32) : Option x_S := (Option.bind (fL_giveUp σ a1) fun r1 => (Option.bind (fX7_giveUp (r1.2 11) a1) fun r3 => x_let (x_sh r1.2 11 r3.2) fun τ5 => (Option.bind (fX7_thrown (τ5 11) ) fun r7 => (if r7 = r1.1 then (if r1.1 = 0 then (if (lg_cmp (τ5 12 48 (Int32.toNatClampNeg (0 : Int32))).toInt64 (r3.1).toInt64) = 0 then some τ5 else none) else some τ5) else none))))
set_option maxHeartbeats 4000000 in
set_option maxRecDepth 100000 in
theorem wL_2 {p : Program} {l : Launch} {e : Env} {s : State} {m : MethodId} {below : List Frame} {meth : Method} {c : Code} {H : Heap} {locs : List Loc} {cells slots : Nat} {Q : State → Prop} {X : x_T} {σ : x_S} {b L : Nat} {xs : Nat → Int32} {ls : Array Slot} {i a1 a2 : Int32} {r : x_S} (FF : xw_F p l s m meth c b L xs X) (hi1 : x_in (i + (1 : Int32)) L) (hi2 : x_in (i + (2 : Int32)) L) (he1 : xs (i + (1 : Int32)).toNatClampNeg = a1) (he2 : xs (i + (2 : Int32)).toNatClampNeg = a2) (hf0 : cells ≤ room_1.cells ∧ slots ≤ room_1.slots) (hf1 : cells + 1 ≤ room_1.cells ∧ slots + 6 ≤ room_1.slots) (h : gL_2 σ a1 a2 = some r) (hI : x_I X σ s H locs) (hl : lv_has ls 9 (xw_lv X b i)) (kk : ∀ (H1 : Heap) (locs1 : List Loc) (ls1 : Array Slot), x_I X r s H1 locs1 → lv_has ls1 9 (xw_lv X b i) → W p l e room_1 s m #[Value.ref b] below meth c H1 locs1 (cells + 1) (slots + 6) Q (F0 m 2520 ls1 [])) : W p l e room_1 s m #[Value.ref b] below meth c H locs cells slots Q (F0 m 396 ls []) := by
  have F := FF.1
  have Z := FF.2.2.1
  have hx := F.1
  have hb := F.2.1
  have hml := F.2.2.1
  have hown := F.2.2.2.1
  have hts := F.2.2.2.2.1
  unfold gL_2 at h
  refine lv_aload_n hx hb dL_law_396 rfl (lv_at hl 1 rfl) ?_
  refine lv_aload_n hx hb dL_law_397 rfl (lv_at hl 0 rfl) ?_
  refine lv_iload hx hb dL_law_398 (lv_at hl 4 rfl) ?_
  refine lv_iconst (v := 1) hx hb dL_law_400 (by decide) ?_
  refine lv_iadd hx hb dL_law_401 ?_
  refine xw_sld FF hI hi1 he1 dL_law_402 ?_
  refine lv_aload_n hx hb dL_law_403 rfl (lv_at hl 3 rfl) ?_
  obtain ⟨r1, h2, h⟩ := x_bnd h
  refine xw_aci hI (xw_run (rest := []) F Z hI (mL_giveUp l FF.2.1 X _ σ a1 r1 h2) gw_L_144 hd_L_giveUp ⟨by decide, by decide⟩ ⟨rfl, rfl⟩ rfl hl.1 rfl (Nat.le_of_ble_eq_true rfl) dL_law_404 hf1) (fun H locs hI => ?_)
  refine lv_istore (lv' := [(5, .int r1.1), (0, .ref b), (1, .ref (X.2.2 10 32)), (2, .ref (X.2.2 11 40)), (3, .ref (X.2.2 12 48)), (4, .int i)]) hx hb dL_law_407 hl (by decide) rfl (fun ls hl => ?_)
  refine lv_aload_n hx hb dL_law_409 rfl (lv_at hl 3 rfl) ?_
  refine lv_aload_n hx hb dL_law_410 rfl (lv_at hl 1 rfl) ?_
  refine lv_iload hx hb dL_law_411 (lv_at hl 5 rfl) ?_
  refine lv_iconst (v := 1) hx hb dL_law_413 (by decide) ?_
  refine lv_iadd hx hb dL_law_414 ?_
  refine xw_sld FF hI hi1 he1 dL_law_415 ?_
  obtain ⟨r3, h4, h⟩ := x_bnd h
  have hI := x_toH 11 hI
  refine x_aci hI (x_runV (rest := []) F hI (mX7_giveUp l X r1.2 _ (r1.2 11) a1 r3 h4) g_L_146 ⟨rfl, hd_X7_giveUp⟩ ⟨by decide, by decide⟩ ⟨rfl, rfl⟩ (x_inO (by decide)) rfl rfl rfl rfl hl.1 rfl (Nat.le_of_ble_eq_true rfl) dL_law_416 hf1) (fun H locs hI => ?_)
  obtain ⟨τ5, e6⟩ : ∃ z : x_S, z = (x_sh r1.2 11 r3.2) := ⟨_, rfl⟩
  rw [← e6] at hI
  have h := x_let_at h e6
  refine lv_istore (lv' := [(6, .int r3.1), (5, .int r1.1), (0, .ref b), (1, .ref (X.2.2 10 32)), (2, .ref (X.2.2 11 40)), (3, .ref (X.2.2 12 48)), (4, .int i)]) hx hb dL_law_419 hl (by decide) rfl (fun ls hl => ?_)
  refine lv_aload_n hx hb dL_law_421 rfl (lv_at hl 4 rfl) ?_
  obtain ⟨r7, h8, h⟩ := x_bnd h
  have hI := x_toH 11 hI
  refine x_aci hI (x_runV (rest := []) F hI (mX7_thrown l X τ5 _ (τ5 11)  r7 h8) g_L_138 ⟨rfl, hd_X7_thrown⟩ ⟨by decide, by decide⟩ ⟨rfl, rfl⟩ (x_inO (by decide)) rfl rfl rfl rfl hl.1 rfl (Nat.le_of_ble_eq_true rfl) dL_law_422 hf1) (fun H locs hI => ?_)
  rw [x_sh_self] at hI
  refine lv_iload hx hb dL_law_425 (lv_at hl 1 rfl) ?_
  refine lv_icmp_eq (tgt := 432) hx hb dL_law_427 (by decide) (fun c9 => ?_) (fun c9 => ?_)
  · have h := x_ift h c9
    refine lv_iload hx hb dL_law_432 (lv_at hl 1 rfl) ?_
    refine lv_if_ne (tgt := 449) hx hb dL_law_434 (by decide) (fun c10 => ?_) (fun c10 => ?_)
    · have h := x_iff h c10
      refine lv_goto (tgt := 2520) hx hb dL_law_449 (by decide) ?_
      rw [x_some h] at kk
      exact W.widen (by omega) (by omega) (kk H locs ls hI (lv_sub hl [2, 3, 4, 5, 6] rfl))
    · have h := x_ift h c10
      refine lv_aload_n hx hb dL_law_437 rfl (lv_at hl 5 rfl) ?_
      refine lv_iconst (v := 0) hx hb dL_law_438 (by decide) ?_
      refine x_lald F hI (by decide) dL_law_439 ?_
      refine lv_iload hx hb dL_law_440 (lv_at hl 0 rfl) ?_
      refine lv_i2l hx hb dL_law_442 rfl ?_
      refine W.lcmp hx hb dL_law_443 ?_
      refine lv_if_eq (tgt := 449) hx hb dL_law_444 (by decide) (fun c11 => ?_) (fun c11 => ?_)
      · have h := x_ift h c11
        refine lv_goto (tgt := 2520) hx hb dL_law_449 (by decide) ?_
        rw [x_some h] at kk
        exact W.widen (by omega) (by omega) (kk H locs ls hI (lv_sub hl [2, 3, 4, 5, 6] rfl))
      · have h := x_iff h c11
        refine lv_iconst (v := 0) hx hb dL_law_447 (by decide) ?_
        cases h
  · have h := x_iff h c9
    refine lv_iconst (v := 0) hx hb dL_law_430 (by decide) ?_
    cases h
def gL_3 (σ : x_S) (a1 a2 : Int32) : Option x_S := (Option.bind (fL_renew σ a1) fun r1 => (Option.bind (fX7_renew (r1.2 11) a1) fun r3 => x_let (x_sh r1.2 11 r3.2) fun τ5 => (Option.bind (fX7_thrown (τ5 11) ) fun r7 => (if r7 = r1.1 then (if r1.1 = 0 then (if (lg_cmp (τ5 12 48 (Int32.toNatClampNeg (0 : Int32))).toInt64 (r3.1).toInt64) = 0 then some τ5 else none) else some τ5) else none))))
set_option maxHeartbeats 4000000 in
set_option maxRecDepth 100000 in
theorem wL_3 {p : Program} {l : Launch} {e : Env} {s : State} {m : MethodId} {below : List Frame} {meth : Method} {c : Code} {H : Heap} {locs : List Loc} {cells slots : Nat} {Q : State → Prop} {X : x_T} {σ : x_S} {b L : Nat} {xs : Nat → Int32} {ls : Array Slot} {i a1 a2 : Int32} {r : x_S} (FF : xw_F p l s m meth c b L xs X) (hi1 : x_in (i + (1 : Int32)) L) (hi2 : x_in (i + (2 : Int32)) L) (he1 : xs (i + (1 : Int32)).toNatClampNeg = a1) (he2 : xs (i + (2 : Int32)).toNatClampNeg = a2) (hf0 : cells ≤ room_1.cells ∧ slots ≤ room_1.slots) (hf1 : cells + 1 ≤ room_1.cells ∧ slots + 6 ≤ room_1.slots) (h : gL_3 σ a1 a2 = some r) (hI : x_I X σ s H locs) (hl : lv_has ls 9 (xw_lv X b i)) (kk : ∀ (H1 : Heap) (locs1 : List Loc) (ls1 : Array Slot), x_I X r s H1 locs1 → lv_has ls1 9 (xw_lv X b i) → W p l e room_1 s m #[Value.ref b] below meth c H1 locs1 (cells + 1) (slots + 6) Q (F0 m 2520 ls1 [])) : W p l e room_1 s m #[Value.ref b] below meth c H locs cells slots Q (F0 m 452 ls []) := by
  have F := FF.1
  have Z := FF.2.2.1
  have hx := F.1
  have hb := F.2.1
  have hml := F.2.2.1
  have hown := F.2.2.2.1
  have hts := F.2.2.2.2.1
  unfold gL_3 at h
  refine lv_aload_n hx hb dL_law_452 rfl (lv_at hl 1 rfl) ?_
  refine lv_aload_n hx hb dL_law_453 rfl (lv_at hl 0 rfl) ?_
  refine lv_iload hx hb dL_law_454 (lv_at hl 4 rfl) ?_
  refine lv_iconst (v := 1) hx hb dL_law_456 (by decide) ?_
  refine lv_iadd hx hb dL_law_457 ?_
  refine xw_sld FF hI hi1 he1 dL_law_458 ?_
  refine lv_aload_n hx hb dL_law_459 rfl (lv_at hl 3 rfl) ?_
  obtain ⟨r1, h2, h⟩ := x_bnd h
  refine xw_aci hI (xw_run (rest := []) F Z hI (mL_renew l FF.2.1 X _ σ a1 r1 h2) gw_L_147 hd_L_renew ⟨by decide, by decide⟩ ⟨rfl, rfl⟩ rfl hl.1 rfl (Nat.le_of_ble_eq_true rfl) dL_law_460 hf1) (fun H locs hI => ?_)
  refine lv_istore (lv' := [(5, .int r1.1), (0, .ref b), (1, .ref (X.2.2 10 32)), (2, .ref (X.2.2 11 40)), (3, .ref (X.2.2 12 48)), (4, .int i)]) hx hb dL_law_463 hl (by decide) rfl (fun ls hl => ?_)
  refine lv_aload_n hx hb dL_law_465 rfl (lv_at hl 3 rfl) ?_
  refine lv_aload_n hx hb dL_law_466 rfl (lv_at hl 1 rfl) ?_
  refine lv_iload hx hb dL_law_467 (lv_at hl 5 rfl) ?_
  refine lv_iconst (v := 1) hx hb dL_law_469 (by decide) ?_
  refine lv_iadd hx hb dL_law_470 ?_
  refine xw_sld FF hI hi1 he1 dL_law_471 ?_
  obtain ⟨r3, h4, h⟩ := x_bnd h
  have hI := x_toH 11 hI
  refine x_aci hI (x_runV (rest := []) F hI (mX7_renew l X r1.2 _ (r1.2 11) a1 r3 h4) g_L_149 ⟨rfl, hd_X7_renew⟩ ⟨by decide, by decide⟩ ⟨rfl, rfl⟩ (x_inO (by decide)) rfl rfl rfl rfl hl.1 rfl (Nat.le_of_ble_eq_true rfl) dL_law_472 hf1) (fun H locs hI => ?_)
  obtain ⟨τ5, e6⟩ : ∃ z : x_S, z = (x_sh r1.2 11 r3.2) := ⟨_, rfl⟩
  rw [← e6] at hI
  have h := x_let_at h e6
  refine lv_istore (lv' := [(6, .int r3.1), (5, .int r1.1), (0, .ref b), (1, .ref (X.2.2 10 32)), (2, .ref (X.2.2 11 40)), (3, .ref (X.2.2 12 48)), (4, .int i)]) hx hb dL_law_475 hl (by decide) rfl (fun ls hl => ?_)
  refine lv_aload_n hx hb dL_law_477 rfl (lv_at hl 4 rfl) ?_
  obtain ⟨r7, h8, h⟩ := x_bnd h
  have hI := x_toH 11 hI
  refine x_aci hI (x_runV (rest := []) F hI (mX7_thrown l X τ5 _ (τ5 11)  r7 h8) g_L_138 ⟨rfl, hd_X7_thrown⟩ ⟨by decide, by decide⟩ ⟨rfl, rfl⟩ (x_inO (by decide)) rfl rfl rfl rfl hl.1 rfl (Nat.le_of_ble_eq_true rfl) dL_law_478 hf1) (fun H locs hI => ?_)
  rw [x_sh_self] at hI
  refine lv_iload hx hb dL_law_481 (lv_at hl 1 rfl) ?_
  refine lv_icmp_eq (tgt := 488) hx hb dL_law_483 (by decide) (fun c9 => ?_) (fun c9 => ?_)
  · have h := x_ift h c9
    refine lv_iload hx hb dL_law_488 (lv_at hl 1 rfl) ?_
    refine lv_if_ne (tgt := 505) hx hb dL_law_490 (by decide) (fun c10 => ?_) (fun c10 => ?_)
    · have h := x_iff h c10
      refine lv_goto (tgt := 2520) hx hb dL_law_505 (by decide) ?_
      rw [x_some h] at kk
      exact W.widen (by omega) (by omega) (kk H locs ls hI (lv_sub hl [2, 3, 4, 5, 6] rfl))
    · have h := x_ift h c10
      refine lv_aload_n hx hb dL_law_493 rfl (lv_at hl 5 rfl) ?_
      refine lv_iconst (v := 0) hx hb dL_law_494 (by decide) ?_
      refine x_lald F hI (by decide) dL_law_495 ?_
      refine lv_iload hx hb dL_law_496 (lv_at hl 0 rfl) ?_
      refine lv_i2l hx hb dL_law_498 rfl ?_
      refine W.lcmp hx hb dL_law_499 ?_
      refine lv_if_eq (tgt := 505) hx hb dL_law_500 (by decide) (fun c11 => ?_) (fun c11 => ?_)
      · have h := x_ift h c11
        refine lv_goto (tgt := 2520) hx hb dL_law_505 (by decide) ?_
        rw [x_some h] at kk
        exact W.widen (by omega) (by omega) (kk H locs ls hI (lv_sub hl [2, 3, 4, 5, 6] rfl))
      · have h := x_iff h c11
        refine lv_iconst (v := 0) hx hb dL_law_503 (by decide) ?_
        cases h
  · have h := x_iff h c9
    refine lv_iconst (v := 0) hx hb dL_law_486 (by decide) ?_
    cases h
def gL_4 (σ : x_S) (a1 a2 : Int32) : Option x_S := (Option.bind (fL_reserve σ a1 a2) fun r1 => (Option.bind (fX7_reserve (r1.2 11) a1 a2) fun r3 => x_let (x_sh r1.2 11 r3) fun τ5 => (Option.bind (fX7_thrown (τ5 11) ) fun r7 => (if r7 = r1.1 then some τ5 else none))))
set_option maxHeartbeats 4000000 in
set_option maxRecDepth 100000 in
theorem wL_4 {p : Program} {l : Launch} {e : Env} {s : State} {m : MethodId} {below : List Frame} {meth : Method} {c : Code} {H : Heap} {locs : List Loc} {cells slots : Nat} {Q : State → Prop} {X : x_T} {σ : x_S} {b L : Nat} {xs : Nat → Int32} {ls : Array Slot} {i a1 a2 : Int32} {r : x_S} (FF : xw_F p l s m meth c b L xs X) (hi1 : x_in (i + (1 : Int32)) L) (hi2 : x_in (i + (2 : Int32)) L) (he1 : xs (i + (1 : Int32)).toNatClampNeg = a1) (he2 : xs (i + (2 : Int32)).toNatClampNeg = a2) (hf0 : cells ≤ room_1.cells ∧ slots ≤ room_1.slots) (hf1 : cells + 1 ≤ room_1.cells ∧ slots + 6 ≤ room_1.slots) (h : gL_4 σ a1 a2 = some r) (hI : x_I X σ s H locs) (hl : lv_has ls 9 (xw_lv X b i)) (kk : ∀ (H1 : Heap) (locs1 : List Loc) (ls1 : Array Slot), x_I X r s H1 locs1 → lv_has ls1 9 (xw_lv X b i) → W p l e room_1 s m #[Value.ref b] below meth c H1 locs1 (cells + 1) (slots + 6) Q (F0 m 2520 ls1 [])) : W p l e room_1 s m #[Value.ref b] below meth c H locs cells slots Q (F0 m 508 ls []) := by
  have F := FF.1
  have Z := FF.2.2.1
  have hx := F.1
  have hb := F.2.1
  have hml := F.2.2.1
  have hown := F.2.2.2.1
  have hts := F.2.2.2.2.1
  unfold gL_4 at h
  refine lv_aload_n hx hb dL_law_508 rfl (lv_at hl 1 rfl) ?_
  refine lv_aload_n hx hb dL_law_509 rfl (lv_at hl 0 rfl) ?_
  refine lv_iload hx hb dL_law_510 (lv_at hl 4 rfl) ?_
  refine lv_iconst (v := 1) hx hb dL_law_512 (by decide) ?_
  refine lv_iadd hx hb dL_law_513 ?_
  refine xw_sld FF hI hi1 he1 dL_law_514 ?_
  refine lv_aload_n hx hb dL_law_515 rfl (lv_at hl 0 rfl) ?_
  refine lv_iload hx hb dL_law_516 (lv_at hl 4 rfl) ?_
  refine lv_iconst (v := 2) hx hb dL_law_518 (by decide) ?_
  refine lv_iadd hx hb dL_law_519 ?_
  refine xw_sld FF hI hi2 he2 dL_law_520 ?_
  obtain ⟨r1, h2, h⟩ := x_bnd h
  refine xw_aci hI (xw_run (rest := []) F Z hI (mL_reserve l FF.2.1 X _ σ a1 a2 r1 h2) gw_L_150 hd_L_reserve ⟨by decide, by decide⟩ ⟨rfl, rfl⟩ rfl hl.1 rfl (Nat.le_of_ble_eq_true rfl) dL_law_521 hf1) (fun H locs hI => ?_)
  refine lv_istore (lv' := [(5, .int r1.1), (0, .ref b), (1, .ref (X.2.2 10 32)), (2, .ref (X.2.2 11 40)), (3, .ref (X.2.2 12 48)), (4, .int i)]) hx hb dL_law_524 hl (by decide) rfl (fun ls hl => ?_)
  refine lv_aload_n hx hb dL_law_526 rfl (lv_at hl 3 rfl) ?_
  refine lv_aload_n hx hb dL_law_527 rfl (lv_at hl 1 rfl) ?_
  refine lv_iload hx hb dL_law_528 (lv_at hl 5 rfl) ?_
  refine lv_iconst (v := 1) hx hb dL_law_530 (by decide) ?_
  refine lv_iadd hx hb dL_law_531 ?_
  refine xw_sld FF hI hi1 he1 dL_law_532 ?_
  refine lv_aload_n hx hb dL_law_533 rfl (lv_at hl 1 rfl) ?_
  refine lv_iload hx hb dL_law_534 (lv_at hl 5 rfl) ?_
  refine lv_iconst (v := 2) hx hb dL_law_536 (by decide) ?_
  refine lv_iadd hx hb dL_law_537 ?_
  refine xw_sld FF hI hi2 he2 dL_law_538 ?_
  obtain ⟨r3, h4, h⟩ := x_bnd h
  have hI := x_toH 11 hI
  refine x_acv hI (x_runV (rest := []) F hI (mX7_reserve l X r1.2 _ (r1.2 11) a1 a2 r3 h4) g_L_153 ⟨rfl, hd_X7_reserve⟩ ⟨by decide, by decide⟩ ⟨rfl, rfl⟩ (x_inO (by decide)) rfl rfl rfl rfl hl.1 rfl (Nat.le_of_ble_eq_true rfl) dL_law_539 hf1) (fun H locs hI => ?_)
  obtain ⟨τ5, e6⟩ : ∃ z : x_S, z = (x_sh r1.2 11 r3) := ⟨_, rfl⟩
  rw [← e6] at hI
  have h := x_let_at h e6
  refine lv_aload_n hx hb dL_law_542 rfl (lv_at hl 3 rfl) ?_
  obtain ⟨r7, h8, h⟩ := x_bnd h
  have hI := x_toH 11 hI
  refine x_aci hI (x_runV (rest := []) F hI (mX7_thrown l X τ5 _ (τ5 11)  r7 h8) g_L_138 ⟨rfl, hd_X7_thrown⟩ ⟨by decide, by decide⟩ ⟨rfl, rfl⟩ (x_inO (by decide)) rfl rfl rfl rfl hl.1 rfl (Nat.le_of_ble_eq_true rfl) dL_law_543 hf1) (fun H locs hI => ?_)
  rw [x_sh_self] at hI
  refine lv_iload hx hb dL_law_546 (lv_at hl 0 rfl) ?_
  refine lv_icmp_eq (tgt := 553) hx hb dL_law_548 (by decide) (fun c9 => ?_) (fun c9 => ?_)
  · have h := x_ift h c9
    refine lv_goto (tgt := 2520) hx hb dL_law_553 (by decide) ?_
    rw [x_some h] at kk
    exact W.widen (by omega) (by omega) (kk H locs ls hI (lv_sub hl [1, 2, 3, 4, 5] rfl))
  · have h := x_iff h c9
    refine lv_iconst (v := 0) hx hb dL_law_551 (by decide) ?_
    cases h
def gL_5 (σ : x_S) (a1 a2 : Int32) : Option x_S := (Option.bind (fL_unreserve σ a1) fun r1 => (Option.bind (fX7_unreserve (r1.2 11) a1) fun r3 => x_let (x_sh r1.2 11 r3.2) fun τ5 => (Option.bind (fX7_thrown (τ5 11) ) fun r7 => (if r7 = r1.1 then (if r1.1 = 0 then (if (lg_cmp (τ5 12 48 (Int32.toNatClampNeg (0 : Int32))).toInt64 (r3.1).toInt64) = 0 then some τ5 else none) else some τ5) else none))))
set_option maxHeartbeats 4000000 in
set_option maxRecDepth 100000 in
theorem wL_5 {p : Program} {l : Launch} {e : Env} {s : State} {m : MethodId} {below : List Frame} {meth : Method} {c : Code} {H : Heap} {locs : List Loc} {cells slots : Nat} {Q : State → Prop} {X : x_T} {σ : x_S} {b L : Nat} {xs : Nat → Int32} {ls : Array Slot} {i a1 a2 : Int32} {r : x_S} (FF : xw_F p l s m meth c b L xs X) (hi1 : x_in (i + (1 : Int32)) L) (hi2 : x_in (i + (2 : Int32)) L) (he1 : xs (i + (1 : Int32)).toNatClampNeg = a1) (he2 : xs (i + (2 : Int32)).toNatClampNeg = a2) (hf0 : cells ≤ room_1.cells ∧ slots ≤ room_1.slots) (hf1 : cells + 1 ≤ room_1.cells ∧ slots + 6 ≤ room_1.slots) (h : gL_5 σ a1 a2 = some r) (hI : x_I X σ s H locs) (hl : lv_has ls 9 (xw_lv X b i)) (kk : ∀ (H1 : Heap) (locs1 : List Loc) (ls1 : Array Slot), x_I X r s H1 locs1 → lv_has ls1 9 (xw_lv X b i) → W p l e room_1 s m #[Value.ref b] below meth c H1 locs1 (cells + 1) (slots + 6) Q (F0 m 2520 ls1 [])) : W p l e room_1 s m #[Value.ref b] below meth c H locs cells slots Q (F0 m 556 ls []) := by
  have F := FF.1
  have Z := FF.2.2.1
  have hx := F.1
  have hb := F.2.1
  have hml := F.2.2.1
  have hown := F.2.2.2.1
  have hts := F.2.2.2.2.1
  unfold gL_5 at h
  refine lv_aload_n hx hb dL_law_556 rfl (lv_at hl 1 rfl) ?_
  refine lv_aload_n hx hb dL_law_557 rfl (lv_at hl 0 rfl) ?_
  refine lv_iload hx hb dL_law_558 (lv_at hl 4 rfl) ?_
  refine lv_iconst (v := 1) hx hb dL_law_560 (by decide) ?_
  refine lv_iadd hx hb dL_law_561 ?_
  refine xw_sld FF hI hi1 he1 dL_law_562 ?_
  refine lv_aload_n hx hb dL_law_563 rfl (lv_at hl 3 rfl) ?_
  obtain ⟨r1, h2, h⟩ := x_bnd h
  refine xw_aci hI (xw_run (rest := []) F Z hI (mL_unreserve l FF.2.1 X _ σ a1 r1 h2) gw_L_154 hd_L_unreserve ⟨by decide, by decide⟩ ⟨rfl, rfl⟩ rfl hl.1 rfl (Nat.le_of_ble_eq_true rfl) dL_law_564 hf1) (fun H locs hI => ?_)
  refine lv_istore (lv' := [(5, .int r1.1), (0, .ref b), (1, .ref (X.2.2 10 32)), (2, .ref (X.2.2 11 40)), (3, .ref (X.2.2 12 48)), (4, .int i)]) hx hb dL_law_567 hl (by decide) rfl (fun ls hl => ?_)
  refine lv_aload_n hx hb dL_law_569 rfl (lv_at hl 3 rfl) ?_
  refine lv_aload_n hx hb dL_law_570 rfl (lv_at hl 1 rfl) ?_
  refine lv_iload hx hb dL_law_571 (lv_at hl 5 rfl) ?_
  refine lv_iconst (v := 1) hx hb dL_law_573 (by decide) ?_
  refine lv_iadd hx hb dL_law_574 ?_
  refine xw_sld FF hI hi1 he1 dL_law_575 ?_
  obtain ⟨r3, h4, h⟩ := x_bnd h
  have hI := x_toH 11 hI
  refine x_aci hI (x_runV (rest := []) F hI (mX7_unreserve l X r1.2 _ (r1.2 11) a1 r3 h4) g_L_156 ⟨rfl, hd_X7_unreserve⟩ ⟨by decide, by decide⟩ ⟨rfl, rfl⟩ (x_inO (by decide)) rfl rfl rfl rfl hl.1 rfl (Nat.le_of_ble_eq_true rfl) dL_law_576 hf1) (fun H locs hI => ?_)
  obtain ⟨τ5, e6⟩ : ∃ z : x_S, z = (x_sh r1.2 11 r3.2) := ⟨_, rfl⟩
  rw [← e6] at hI
  have h := x_let_at h e6
  refine lv_istore (lv' := [(6, .int r3.1), (5, .int r1.1), (0, .ref b), (1, .ref (X.2.2 10 32)), (2, .ref (X.2.2 11 40)), (3, .ref (X.2.2 12 48)), (4, .int i)]) hx hb dL_law_579 hl (by decide) rfl (fun ls hl => ?_)
  refine lv_aload_n hx hb dL_law_581 rfl (lv_at hl 4 rfl) ?_
  obtain ⟨r7, h8, h⟩ := x_bnd h
  have hI := x_toH 11 hI
  refine x_aci hI (x_runV (rest := []) F hI (mX7_thrown l X τ5 _ (τ5 11)  r7 h8) g_L_138 ⟨rfl, hd_X7_thrown⟩ ⟨by decide, by decide⟩ ⟨rfl, rfl⟩ (x_inO (by decide)) rfl rfl rfl rfl hl.1 rfl (Nat.le_of_ble_eq_true rfl) dL_law_582 hf1) (fun H locs hI => ?_)
  rw [x_sh_self] at hI
  refine lv_iload hx hb dL_law_585 (lv_at hl 1 rfl) ?_
  refine lv_icmp_eq (tgt := 592) hx hb dL_law_587 (by decide) (fun c9 => ?_) (fun c9 => ?_)
  · have h := x_ift h c9
    refine lv_iload hx hb dL_law_592 (lv_at hl 1 rfl) ?_
    refine lv_if_ne (tgt := 609) hx hb dL_law_594 (by decide) (fun c10 => ?_) (fun c10 => ?_)
    · have h := x_iff h c10
      refine lv_goto (tgt := 2520) hx hb dL_law_609 (by decide) ?_
      rw [x_some h] at kk
      exact W.widen (by omega) (by omega) (kk H locs ls hI (lv_sub hl [2, 3, 4, 5, 6] rfl))
    · have h := x_ift h c10
      refine lv_aload_n hx hb dL_law_597 rfl (lv_at hl 5 rfl) ?_
      refine lv_iconst (v := 0) hx hb dL_law_598 (by decide) ?_
      refine x_lald F hI (by decide) dL_law_599 ?_
      refine lv_iload hx hb dL_law_600 (lv_at hl 0 rfl) ?_
      refine lv_i2l hx hb dL_law_602 rfl ?_
      refine W.lcmp hx hb dL_law_603 ?_
      refine lv_if_eq (tgt := 609) hx hb dL_law_604 (by decide) (fun c11 => ?_) (fun c11 => ?_)
      · have h := x_ift h c11
        refine lv_goto (tgt := 2520) hx hb dL_law_609 (by decide) ?_
        rw [x_some h] at kk
        exact W.widen (by omega) (by omega) (kk H locs ls hI (lv_sub hl [2, 3, 4, 5, 6] rfl))
      · have h := x_iff h c11
        refine lv_iconst (v := 0) hx hb dL_law_607 (by decide) ?_
        cases h
  · have h := x_iff h c9
    refine lv_iconst (v := 0) hx hb dL_law_590 (by decide) ?_
    cases h
def gL_6 (σ : x_S) (a1 a2 : Int32) : Option x_S := (Option.bind (fL_turnGhost σ a1) fun r1 => (Option.bind (fX7_turnGhost (r1.2 11) a1) fun r3 => x_let (x_sh r1.2 11 r3.2) fun τ5 => (Option.bind (fX7_thrown (τ5 11) ) fun r7 => (if r7 = r1.1 then (if r1.1 = 0 then (if r3.1 = 0 then (if (lg_cmp (τ5 12 48 (Int32.toNatClampNeg (0 : Int32))).toInt64 (0 : Int64)) = 0 then some τ5 else none) else (if (lg_cmp (τ5 12 48 (Int32.toNatClampNeg (0 : Int32))).toInt64 (1 : Int64)) = 0 then some τ5 else none)) else some τ5) else none))))
set_option maxHeartbeats 4000000 in
set_option maxRecDepth 100000 in
theorem wL_6 {p : Program} {l : Launch} {e : Env} {s : State} {m : MethodId} {below : List Frame} {meth : Method} {c : Code} {H : Heap} {locs : List Loc} {cells slots : Nat} {Q : State → Prop} {X : x_T} {σ : x_S} {b L : Nat} {xs : Nat → Int32} {ls : Array Slot} {i a1 a2 : Int32} {r : x_S} (FF : xw_F p l s m meth c b L xs X) (hi1 : x_in (i + (1 : Int32)) L) (hi2 : x_in (i + (2 : Int32)) L) (he1 : xs (i + (1 : Int32)).toNatClampNeg = a1) (he2 : xs (i + (2 : Int32)).toNatClampNeg = a2) (hf0 : cells ≤ room_1.cells ∧ slots ≤ room_1.slots) (hf1 : cells + 1 ≤ room_1.cells ∧ slots + 6 ≤ room_1.slots) (h : gL_6 σ a1 a2 = some r) (hI : x_I X σ s H locs) (hl : lv_has ls 9 (xw_lv X b i)) (kk : ∀ (H1 : Heap) (locs1 : List Loc) (ls1 : Array Slot), x_I X r s H1 locs1 → lv_has ls1 9 (xw_lv X b i) → W p l e room_1 s m #[Value.ref b] below meth c H1 locs1 (cells + 1) (slots + 6) Q (F0 m 2520 ls1 [])) : W p l e room_1 s m #[Value.ref b] below meth c H locs cells slots Q (F0 m 612 ls []) := by
  have F := FF.1
  have Z := FF.2.2.1
  have hx := F.1
  have hb := F.2.1
  have hml := F.2.2.1
  have hown := F.2.2.2.1
  have hts := F.2.2.2.2.1
  unfold gL_6 at h
  refine lv_aload_n hx hb dL_law_612 rfl (lv_at hl 1 rfl) ?_
  refine lv_aload_n hx hb dL_law_613 rfl (lv_at hl 0 rfl) ?_
  refine lv_iload hx hb dL_law_614 (lv_at hl 4 rfl) ?_
  refine lv_iconst (v := 1) hx hb dL_law_616 (by decide) ?_
  refine lv_iadd hx hb dL_law_617 ?_
  refine xw_sld FF hI hi1 he1 dL_law_618 ?_
  refine lv_aload_n hx hb dL_law_619 rfl (lv_at hl 3 rfl) ?_
  obtain ⟨r1, h2, h⟩ := x_bnd h
  refine xw_aci hI (xw_run (rest := []) F Z hI (mL_turnGhost l FF.2.1 X _ σ a1 r1 h2) gw_L_157 hd_L_turnGhost ⟨by decide, by decide⟩ ⟨rfl, rfl⟩ rfl hl.1 rfl (Nat.le_of_ble_eq_true rfl) dL_law_620 hf1) (fun H locs hI => ?_)
  refine lv_istore (lv' := [(5, .int r1.1), (0, .ref b), (1, .ref (X.2.2 10 32)), (2, .ref (X.2.2 11 40)), (3, .ref (X.2.2 12 48)), (4, .int i)]) hx hb dL_law_623 hl (by decide) rfl (fun ls hl => ?_)
  refine lv_aload_n hx hb dL_law_625 rfl (lv_at hl 3 rfl) ?_
  refine lv_aload_n hx hb dL_law_626 rfl (lv_at hl 1 rfl) ?_
  refine lv_iload hx hb dL_law_627 (lv_at hl 5 rfl) ?_
  refine lv_iconst (v := 1) hx hb dL_law_629 (by decide) ?_
  refine lv_iadd hx hb dL_law_630 ?_
  refine xw_sld FF hI hi1 he1 dL_law_631 ?_
  obtain ⟨r3, h4, h⟩ := x_bnd h
  have hI := x_toH 11 hI
  refine x_aci hI (x_runV (rest := []) F hI (mX7_turnGhost l X r1.2 _ (r1.2 11) a1 r3 h4) g_L_159 ⟨rfl, hd_X7_turnGhost⟩ ⟨by decide, by decide⟩ ⟨rfl, rfl⟩ (x_inO (by decide)) rfl rfl rfl rfl hl.1 rfl (Nat.le_of_ble_eq_true rfl) dL_law_632 hf1) (fun H locs hI => ?_)
  obtain ⟨τ5, e6⟩ : ∃ z : x_S, z = (x_sh r1.2 11 r3.2) := ⟨_, rfl⟩
  rw [← e6] at hI
  have h := x_let_at h e6
  refine lv_istore (lv' := [(6, .int r3.1), (5, .int r1.1), (0, .ref b), (1, .ref (X.2.2 10 32)), (2, .ref (X.2.2 11 40)), (3, .ref (X.2.2 12 48)), (4, .int i)]) hx hb dL_law_635 hl (by decide) rfl (fun ls hl => ?_)
  refine lv_aload_n hx hb dL_law_637 rfl (lv_at hl 4 rfl) ?_
  obtain ⟨r7, h8, h⟩ := x_bnd h
  have hI := x_toH 11 hI
  refine x_aci hI (x_runV (rest := []) F hI (mX7_thrown l X τ5 _ (τ5 11)  r7 h8) g_L_138 ⟨rfl, hd_X7_thrown⟩ ⟨by decide, by decide⟩ ⟨rfl, rfl⟩ (x_inO (by decide)) rfl rfl rfl rfl hl.1 rfl (Nat.le_of_ble_eq_true rfl) dL_law_638 hf1) (fun H locs hI => ?_)
  rw [x_sh_self] at hI
  refine lv_iload hx hb dL_law_641 (lv_at hl 1 rfl) ?_
  refine lv_icmp_eq (tgt := 648) hx hb dL_law_643 (by decide) (fun c9 => ?_) (fun c9 => ?_)
  · have h := x_ift h c9
    refine lv_iload hx hb dL_law_648 (lv_at hl 1 rfl) ?_
    refine lv_if_ne (tgt := 672) hx hb dL_law_650 (by decide) (fun c10 => ?_) (fun c10 => ?_)
    · have h := x_iff h c10
      refine lv_goto (tgt := 2520) hx hb dL_law_672 (by decide) ?_
      rw [x_some h] at kk
      exact W.widen (by omega) (by omega) (kk H locs ls hI (lv_sub hl [2, 3, 4, 5, 6] rfl))
    · have h := x_ift h c10
      refine lv_aload_n hx hb dL_law_653 rfl (lv_at hl 5 rfl) ?_
      refine lv_iconst (v := 0) hx hb dL_law_654 (by decide) ?_
      refine x_lald F hI (by decide) dL_law_655 ?_
      refine lv_iload hx hb dL_law_656 (lv_at hl 0 rfl) ?_
      refine lv_if_eq (tgt := 665) hx hb dL_law_658 (by decide) (fun c11 => ?_) (fun c11 => ?_)
      · have h := x_ift h c11
        refine lv_lconst (v := 0) hx hb dL_law_665 (by decide) ?_
        refine W.lcmp hx hb dL_law_666 ?_
        refine lv_if_eq (tgt := 672) hx hb dL_law_667 (by decide) (fun c12 => ?_) (fun c12 => ?_)
        · have h := x_ift h c12
          refine lv_goto (tgt := 2520) hx hb dL_law_672 (by decide) ?_
          rw [x_some h] at kk
          exact W.widen (by omega) (by omega) (kk H locs ls hI (lv_sub hl [2, 3, 4, 5, 6] rfl))
        · have h := x_iff h c12
          refine lv_iconst (v := 0) hx hb dL_law_670 (by decide) ?_
          cases h
      · have h := x_iff h c11
        refine lv_lconst (v := 1) hx hb dL_law_661 (by decide) ?_
        refine lv_goto (tgt := 666) hx hb dL_law_662 (by decide) ?_
        refine W.lcmp hx hb dL_law_666 ?_
        refine lv_if_eq (tgt := 672) hx hb dL_law_667 (by decide) (fun c13 => ?_) (fun c13 => ?_)
        · have h := x_ift h c13
          refine lv_goto (tgt := 2520) hx hb dL_law_672 (by decide) ?_
          rw [x_some h] at kk
          exact W.widen (by omega) (by omega) (kk H locs ls hI (lv_sub hl [2, 3, 4, 5, 6] rfl))
        · have h := x_iff h c13
          refine lv_iconst (v := 0) hx hb dL_law_670 (by decide) ?_
          cases h
  · have h := x_iff h c9
    refine lv_iconst (v := 0) hx hb dL_law_646 (by decide) ?_
    cases h
def gL_7 (σ : x_S) (a1 a2 : Int32) : Option x_S := (Option.bind (fL_changeLease σ a1) fun r1 => (Option.bind (fX7_changeLease (r1.2 11) a1) fun r3 => x_let (x_sh r1.2 11 r3.2) fun τ5 => (Option.bind (fX7_thrown (τ5 11) ) fun r7 => (if r7 = r1.1 then (if r1.1 = 0 then (if (lg_cmp (τ5 12 48 (Int32.toNatClampNeg (0 : Int32))).toInt64 (r3.1).toInt64) = 0 then some τ5 else none) else some τ5) else none))))
set_option maxHeartbeats 4000000 in
set_option maxRecDepth 100000 in
theorem wL_7 {p : Program} {l : Launch} {e : Env} {s : State} {m : MethodId} {below : List Frame} {meth : Method} {c : Code} {H : Heap} {locs : List Loc} {cells slots : Nat} {Q : State → Prop} {X : x_T} {σ : x_S} {b L : Nat} {xs : Nat → Int32} {ls : Array Slot} {i a1 a2 : Int32} {r : x_S} (FF : xw_F p l s m meth c b L xs X) (hi1 : x_in (i + (1 : Int32)) L) (hi2 : x_in (i + (2 : Int32)) L) (he1 : xs (i + (1 : Int32)).toNatClampNeg = a1) (he2 : xs (i + (2 : Int32)).toNatClampNeg = a2) (hf0 : cells ≤ room_1.cells ∧ slots ≤ room_1.slots) (hf1 : cells + 1 ≤ room_1.cells ∧ slots + 6 ≤ room_1.slots) (h : gL_7 σ a1 a2 = some r) (hI : x_I X σ s H locs) (hl : lv_has ls 9 (xw_lv X b i)) (kk : ∀ (H1 : Heap) (locs1 : List Loc) (ls1 : Array Slot), x_I X r s H1 locs1 → lv_has ls1 9 (xw_lv X b i) → W p l e room_1 s m #[Value.ref b] below meth c H1 locs1 (cells + 1) (slots + 6) Q (F0 m 2520 ls1 [])) : W p l e room_1 s m #[Value.ref b] below meth c H locs cells slots Q (F0 m 675 ls []) := by
  have F := FF.1
  have Z := FF.2.2.1
  have hx := F.1
  have hb := F.2.1
  have hml := F.2.2.1
  have hown := F.2.2.2.1
  have hts := F.2.2.2.2.1
  unfold gL_7 at h
  refine lv_aload_n hx hb dL_law_675 rfl (lv_at hl 1 rfl) ?_
  refine lv_aload_n hx hb dL_law_676 rfl (lv_at hl 0 rfl) ?_
  refine lv_iload hx hb dL_law_677 (lv_at hl 4 rfl) ?_
  refine lv_iconst (v := 1) hx hb dL_law_679 (by decide) ?_
  refine lv_iadd hx hb dL_law_680 ?_
  refine xw_sld FF hI hi1 he1 dL_law_681 ?_
  refine lv_aload_n hx hb dL_law_682 rfl (lv_at hl 3 rfl) ?_
  obtain ⟨r1, h2, h⟩ := x_bnd h
  refine xw_aci hI (xw_run (rest := []) F Z hI (mL_changeLease l FF.2.1 X _ σ a1 r1 h2) gw_L_160 hd_L_changeLease ⟨by decide, by decide⟩ ⟨rfl, rfl⟩ rfl hl.1 rfl (Nat.le_of_ble_eq_true rfl) dL_law_683 hf1) (fun H locs hI => ?_)
  refine lv_istore (lv' := [(5, .int r1.1), (0, .ref b), (1, .ref (X.2.2 10 32)), (2, .ref (X.2.2 11 40)), (3, .ref (X.2.2 12 48)), (4, .int i)]) hx hb dL_law_686 hl (by decide) rfl (fun ls hl => ?_)
  refine lv_aload_n hx hb dL_law_688 rfl (lv_at hl 3 rfl) ?_
  refine lv_aload_n hx hb dL_law_689 rfl (lv_at hl 1 rfl) ?_
  refine lv_iload hx hb dL_law_690 (lv_at hl 5 rfl) ?_
  refine lv_iconst (v := 1) hx hb dL_law_692 (by decide) ?_
  refine lv_iadd hx hb dL_law_693 ?_
  refine xw_sld FF hI hi1 he1 dL_law_694 ?_
  obtain ⟨r3, h4, h⟩ := x_bnd h
  have hI := x_toH 11 hI
  refine x_aci hI (x_runV (rest := []) F hI (mX7_changeLease l X r1.2 _ (r1.2 11) a1 r3 h4) g_L_162 ⟨rfl, hd_X7_changeLease⟩ ⟨by decide, by decide⟩ ⟨rfl, rfl⟩ (x_inO (by decide)) rfl rfl rfl rfl hl.1 rfl (Nat.le_of_ble_eq_true rfl) dL_law_695 hf1) (fun H locs hI => ?_)
  obtain ⟨τ5, e6⟩ : ∃ z : x_S, z = (x_sh r1.2 11 r3.2) := ⟨_, rfl⟩
  rw [← e6] at hI
  have h := x_let_at h e6
  refine lv_istore (lv' := [(6, .int r3.1), (5, .int r1.1), (0, .ref b), (1, .ref (X.2.2 10 32)), (2, .ref (X.2.2 11 40)), (3, .ref (X.2.2 12 48)), (4, .int i)]) hx hb dL_law_698 hl (by decide) rfl (fun ls hl => ?_)
  refine lv_aload_n hx hb dL_law_700 rfl (lv_at hl 4 rfl) ?_
  obtain ⟨r7, h8, h⟩ := x_bnd h
  have hI := x_toH 11 hI
  refine x_aci hI (x_runV (rest := []) F hI (mX7_thrown l X τ5 _ (τ5 11)  r7 h8) g_L_138 ⟨rfl, hd_X7_thrown⟩ ⟨by decide, by decide⟩ ⟨rfl, rfl⟩ (x_inO (by decide)) rfl rfl rfl rfl hl.1 rfl (Nat.le_of_ble_eq_true rfl) dL_law_701 hf1) (fun H locs hI => ?_)
  rw [x_sh_self] at hI
  refine lv_iload hx hb dL_law_704 (lv_at hl 1 rfl) ?_
  refine lv_icmp_eq (tgt := 711) hx hb dL_law_706 (by decide) (fun c9 => ?_) (fun c9 => ?_)
  · have h := x_ift h c9
    refine lv_iload hx hb dL_law_711 (lv_at hl 1 rfl) ?_
    refine lv_if_ne (tgt := 728) hx hb dL_law_713 (by decide) (fun c10 => ?_) (fun c10 => ?_)
    · have h := x_iff h c10
      refine lv_goto (tgt := 2520) hx hb dL_law_728 (by decide) ?_
      rw [x_some h] at kk
      exact W.widen (by omega) (by omega) (kk H locs ls hI (lv_sub hl [2, 3, 4, 5, 6] rfl))
    · have h := x_ift h c10
      refine lv_aload_n hx hb dL_law_716 rfl (lv_at hl 5 rfl) ?_
      refine lv_iconst (v := 0) hx hb dL_law_717 (by decide) ?_
      refine x_lald F hI (by decide) dL_law_718 ?_
      refine lv_iload hx hb dL_law_719 (lv_at hl 0 rfl) ?_
      refine lv_i2l hx hb dL_law_721 rfl ?_
      refine W.lcmp hx hb dL_law_722 ?_
      refine lv_if_eq (tgt := 728) hx hb dL_law_723 (by decide) (fun c11 => ?_) (fun c11 => ?_)
      · have h := x_ift h c11
        refine lv_goto (tgt := 2520) hx hb dL_law_728 (by decide) ?_
        rw [x_some h] at kk
        exact W.widen (by omega) (by omega) (kk H locs ls hI (lv_sub hl [2, 3, 4, 5, 6] rfl))
      · have h := x_iff h c11
        refine lv_iconst (v := 0) hx hb dL_law_726 (by decide) ?_
        cases h
  · have h := x_iff h c9
    refine lv_iconst (v := 0) hx hb dL_law_709 (by decide) ?_
    cases h
def gL_8 (σ : x_S) (a1 a2 : Int32) : Option x_S := (Option.bind (fL_changeHold σ a1) fun r1 => (Option.bind (fX7_changeHold (r1.2 11) a1) fun r3 => x_let (x_sh r1.2 11 r3.2) fun τ5 => (Option.bind (fX7_thrown (τ5 11) ) fun r7 => (if r7 = r1.1 then (if r1.1 = 0 then (if (lg_cmp (τ5 12 48 (Int32.toNatClampNeg (0 : Int32))).toInt64 (r3.1).toInt64) = 0 then some τ5 else none) else some τ5) else none))))
set_option maxHeartbeats 4000000 in
set_option maxRecDepth 100000 in
theorem wL_8 {p : Program} {l : Launch} {e : Env} {s : State} {m : MethodId} {below : List Frame} {meth : Method} {c : Code} {H : Heap} {locs : List Loc} {cells slots : Nat} {Q : State → Prop} {X : x_T} {σ : x_S} {b L : Nat} {xs : Nat → Int32} {ls : Array Slot} {i a1 a2 : Int32} {r : x_S} (FF : xw_F p l s m meth c b L xs X) (hi1 : x_in (i + (1 : Int32)) L) (hi2 : x_in (i + (2 : Int32)) L) (he1 : xs (i + (1 : Int32)).toNatClampNeg = a1) (he2 : xs (i + (2 : Int32)).toNatClampNeg = a2) (hf0 : cells ≤ room_1.cells ∧ slots ≤ room_1.slots) (hf1 : cells + 1 ≤ room_1.cells ∧ slots + 6 ≤ room_1.slots) (h : gL_8 σ a1 a2 = some r) (hI : x_I X σ s H locs) (hl : lv_has ls 9 (xw_lv X b i)) (kk : ∀ (H1 : Heap) (locs1 : List Loc) (ls1 : Array Slot), x_I X r s H1 locs1 → lv_has ls1 9 (xw_lv X b i) → W p l e room_1 s m #[Value.ref b] below meth c H1 locs1 (cells + 1) (slots + 6) Q (F0 m 2520 ls1 [])) : W p l e room_1 s m #[Value.ref b] below meth c H locs cells slots Q (F0 m 731 ls []) := by
  have F := FF.1
  have Z := FF.2.2.1
  have hx := F.1
  have hb := F.2.1
  have hml := F.2.2.1
  have hown := F.2.2.2.1
  have hts := F.2.2.2.2.1
  unfold gL_8 at h
  refine lv_aload_n hx hb dL_law_731 rfl (lv_at hl 1 rfl) ?_
  refine lv_aload_n hx hb dL_law_732 rfl (lv_at hl 0 rfl) ?_
  refine lv_iload hx hb dL_law_733 (lv_at hl 4 rfl) ?_
  refine lv_iconst (v := 1) hx hb dL_law_735 (by decide) ?_
  refine lv_iadd hx hb dL_law_736 ?_
  refine xw_sld FF hI hi1 he1 dL_law_737 ?_
  refine lv_aload_n hx hb dL_law_738 rfl (lv_at hl 3 rfl) ?_
  obtain ⟨r1, h2, h⟩ := x_bnd h
  refine xw_aci hI (xw_run (rest := []) F Z hI (mL_changeHold l FF.2.1 X _ σ a1 r1 h2) gw_L_163 hd_L_changeHold ⟨by decide, by decide⟩ ⟨rfl, rfl⟩ rfl hl.1 rfl (Nat.le_of_ble_eq_true rfl) dL_law_739 hf1) (fun H locs hI => ?_)
  refine lv_istore (lv' := [(5, .int r1.1), (0, .ref b), (1, .ref (X.2.2 10 32)), (2, .ref (X.2.2 11 40)), (3, .ref (X.2.2 12 48)), (4, .int i)]) hx hb dL_law_742 hl (by decide) rfl (fun ls hl => ?_)
  refine lv_aload_n hx hb dL_law_744 rfl (lv_at hl 3 rfl) ?_
  refine lv_aload_n hx hb dL_law_745 rfl (lv_at hl 1 rfl) ?_
  refine lv_iload hx hb dL_law_746 (lv_at hl 5 rfl) ?_
  refine lv_iconst (v := 1) hx hb dL_law_748 (by decide) ?_
  refine lv_iadd hx hb dL_law_749 ?_
  refine xw_sld FF hI hi1 he1 dL_law_750 ?_
  obtain ⟨r3, h4, h⟩ := x_bnd h
  have hI := x_toH 11 hI
  refine x_aci hI (x_runV (rest := []) F hI (mX7_changeHold l X r1.2 _ (r1.2 11) a1 r3 h4) g_L_165 ⟨rfl, hd_X7_changeHold⟩ ⟨by decide, by decide⟩ ⟨rfl, rfl⟩ (x_inO (by decide)) rfl rfl rfl rfl hl.1 rfl (Nat.le_of_ble_eq_true rfl) dL_law_751 hf1) (fun H locs hI => ?_)
  obtain ⟨τ5, e6⟩ : ∃ z : x_S, z = (x_sh r1.2 11 r3.2) := ⟨_, rfl⟩
  rw [← e6] at hI
  have h := x_let_at h e6
  refine lv_istore (lv' := [(6, .int r3.1), (5, .int r1.1), (0, .ref b), (1, .ref (X.2.2 10 32)), (2, .ref (X.2.2 11 40)), (3, .ref (X.2.2 12 48)), (4, .int i)]) hx hb dL_law_754 hl (by decide) rfl (fun ls hl => ?_)
  refine lv_aload_n hx hb dL_law_756 rfl (lv_at hl 4 rfl) ?_
  obtain ⟨r7, h8, h⟩ := x_bnd h
  have hI := x_toH 11 hI
  refine x_aci hI (x_runV (rest := []) F hI (mX7_thrown l X τ5 _ (τ5 11)  r7 h8) g_L_138 ⟨rfl, hd_X7_thrown⟩ ⟨by decide, by decide⟩ ⟨rfl, rfl⟩ (x_inO (by decide)) rfl rfl rfl rfl hl.1 rfl (Nat.le_of_ble_eq_true rfl) dL_law_757 hf1) (fun H locs hI => ?_)
  rw [x_sh_self] at hI
  refine lv_iload hx hb dL_law_760 (lv_at hl 1 rfl) ?_
  refine lv_icmp_eq (tgt := 767) hx hb dL_law_762 (by decide) (fun c9 => ?_) (fun c9 => ?_)
  · have h := x_ift h c9
    refine lv_iload hx hb dL_law_767 (lv_at hl 1 rfl) ?_
    refine lv_if_ne (tgt := 784) hx hb dL_law_769 (by decide) (fun c10 => ?_) (fun c10 => ?_)
    · have h := x_iff h c10
      refine lv_goto (tgt := 2520) hx hb dL_law_784 (by decide) ?_
      rw [x_some h] at kk
      exact W.widen (by omega) (by omega) (kk H locs ls hI (lv_sub hl [2, 3, 4, 5, 6] rfl))
    · have h := x_ift h c10
      refine lv_aload_n hx hb dL_law_772 rfl (lv_at hl 5 rfl) ?_
      refine lv_iconst (v := 0) hx hb dL_law_773 (by decide) ?_
      refine x_lald F hI (by decide) dL_law_774 ?_
      refine lv_iload hx hb dL_law_775 (lv_at hl 0 rfl) ?_
      refine lv_i2l hx hb dL_law_777 rfl ?_
      refine W.lcmp hx hb dL_law_778 ?_
      refine lv_if_eq (tgt := 784) hx hb dL_law_779 (by decide) (fun c11 => ?_) (fun c11 => ?_)
      · have h := x_ift h c11
        refine lv_goto (tgt := 2520) hx hb dL_law_784 (by decide) ?_
        rw [x_some h] at kk
        exact W.widen (by omega) (by omega) (kk H locs ls hI (lv_sub hl [2, 3, 4, 5, 6] rfl))
      · have h := x_iff h c11
        refine lv_iconst (v := 0) hx hb dL_law_782 (by decide) ?_
        cases h
  · have h := x_iff h c9
    refine lv_iconst (v := 0) hx hb dL_law_765 (by decide) ?_
    cases h
def gL_9 (σ : x_S) (a1 a2 : Int32) : Option x_S := (Option.bind (fL_changeShut σ a1) fun r1 => (Option.bind (fX7_changeShut (r1.2 11) a1) fun r3 => x_let (x_sh r1.2 11 r3.2) fun τ5 => (Option.bind (fX7_thrown (τ5 11) ) fun r7 => (if r7 = r1.1 then (if r1.1 = 0 then (if (lg_cmp (τ5 12 48 (Int32.toNatClampNeg (0 : Int32))).toInt64 (r3.1).toInt64) = 0 then some τ5 else none) else some τ5) else none))))
set_option maxHeartbeats 4000000 in
set_option maxRecDepth 100000 in
theorem wL_9 {p : Program} {l : Launch} {e : Env} {s : State} {m : MethodId} {below : List Frame} {meth : Method} {c : Code} {H : Heap} {locs : List Loc} {cells slots : Nat} {Q : State → Prop} {X : x_T} {σ : x_S} {b L : Nat} {xs : Nat → Int32} {ls : Array Slot} {i a1 a2 : Int32} {r : x_S} (FF : xw_F p l s m meth c b L xs X) (hi1 : x_in (i + (1 : Int32)) L) (hi2 : x_in (i + (2 : Int32)) L) (he1 : xs (i + (1 : Int32)).toNatClampNeg = a1) (he2 : xs (i + (2 : Int32)).toNatClampNeg = a2) (hf0 : cells ≤ room_1.cells ∧ slots ≤ room_1.slots) (hf1 : cells + 1 ≤ room_1.cells ∧ slots + 6 ≤ room_1.slots) (h : gL_9 σ a1 a2 = some r) (hI : x_I X σ s H locs) (hl : lv_has ls 9 (xw_lv X b i)) (kk : ∀ (H1 : Heap) (locs1 : List Loc) (ls1 : Array Slot), x_I X r s H1 locs1 → lv_has ls1 9 (xw_lv X b i) → W p l e room_1 s m #[Value.ref b] below meth c H1 locs1 (cells + 1) (slots + 6) Q (F0 m 2520 ls1 [])) : W p l e room_1 s m #[Value.ref b] below meth c H locs cells slots Q (F0 m 787 ls []) := by
  have F := FF.1
  have Z := FF.2.2.1
  have hx := F.1
  have hb := F.2.1
  have hml := F.2.2.1
  have hown := F.2.2.2.1
  have hts := F.2.2.2.2.1
  unfold gL_9 at h
  refine lv_aload_n hx hb dL_law_787 rfl (lv_at hl 1 rfl) ?_
  refine lv_aload_n hx hb dL_law_788 rfl (lv_at hl 0 rfl) ?_
  refine lv_iload hx hb dL_law_789 (lv_at hl 4 rfl) ?_
  refine lv_iconst (v := 1) hx hb dL_law_791 (by decide) ?_
  refine lv_iadd hx hb dL_law_792 ?_
  refine xw_sld FF hI hi1 he1 dL_law_793 ?_
  refine lv_aload_n hx hb dL_law_794 rfl (lv_at hl 3 rfl) ?_
  obtain ⟨r1, h2, h⟩ := x_bnd h
  refine xw_aci hI (xw_run (rest := []) F Z hI (mL_changeShut l FF.2.1 X _ σ a1 r1 h2) gw_L_166 hd_L_changeShut ⟨by decide, by decide⟩ ⟨rfl, rfl⟩ rfl hl.1 rfl (Nat.le_of_ble_eq_true rfl) dL_law_795 hf1) (fun H locs hI => ?_)
  refine lv_istore (lv' := [(5, .int r1.1), (0, .ref b), (1, .ref (X.2.2 10 32)), (2, .ref (X.2.2 11 40)), (3, .ref (X.2.2 12 48)), (4, .int i)]) hx hb dL_law_798 hl (by decide) rfl (fun ls hl => ?_)
  refine lv_aload_n hx hb dL_law_800 rfl (lv_at hl 3 rfl) ?_
  refine lv_aload_n hx hb dL_law_801 rfl (lv_at hl 1 rfl) ?_
  refine lv_iload hx hb dL_law_802 (lv_at hl 5 rfl) ?_
  refine lv_iconst (v := 1) hx hb dL_law_804 (by decide) ?_
  refine lv_iadd hx hb dL_law_805 ?_
  refine xw_sld FF hI hi1 he1 dL_law_806 ?_
  obtain ⟨r3, h4, h⟩ := x_bnd h
  have hI := x_toH 11 hI
  refine x_aci hI (x_runV (rest := []) F hI (mX7_changeShut l X r1.2 _ (r1.2 11) a1 r3 h4) g_L_168 ⟨rfl, hd_X7_changeShut⟩ ⟨by decide, by decide⟩ ⟨rfl, rfl⟩ (x_inO (by decide)) rfl rfl rfl rfl hl.1 rfl (Nat.le_of_ble_eq_true rfl) dL_law_807 hf1) (fun H locs hI => ?_)
  obtain ⟨τ5, e6⟩ : ∃ z : x_S, z = (x_sh r1.2 11 r3.2) := ⟨_, rfl⟩
  rw [← e6] at hI
  have h := x_let_at h e6
  refine lv_istore (lv' := [(6, .int r3.1), (5, .int r1.1), (0, .ref b), (1, .ref (X.2.2 10 32)), (2, .ref (X.2.2 11 40)), (3, .ref (X.2.2 12 48)), (4, .int i)]) hx hb dL_law_810 hl (by decide) rfl (fun ls hl => ?_)
  refine lv_aload_n hx hb dL_law_812 rfl (lv_at hl 4 rfl) ?_
  obtain ⟨r7, h8, h⟩ := x_bnd h
  have hI := x_toH 11 hI
  refine x_aci hI (x_runV (rest := []) F hI (mX7_thrown l X τ5 _ (τ5 11)  r7 h8) g_L_138 ⟨rfl, hd_X7_thrown⟩ ⟨by decide, by decide⟩ ⟨rfl, rfl⟩ (x_inO (by decide)) rfl rfl rfl rfl hl.1 rfl (Nat.le_of_ble_eq_true rfl) dL_law_813 hf1) (fun H locs hI => ?_)
  rw [x_sh_self] at hI
  refine lv_iload hx hb dL_law_816 (lv_at hl 1 rfl) ?_
  refine lv_icmp_eq (tgt := 823) hx hb dL_law_818 (by decide) (fun c9 => ?_) (fun c9 => ?_)
  · have h := x_ift h c9
    refine lv_iload hx hb dL_law_823 (lv_at hl 1 rfl) ?_
    refine lv_if_ne (tgt := 840) hx hb dL_law_825 (by decide) (fun c10 => ?_) (fun c10 => ?_)
    · have h := x_iff h c10
      refine lv_goto (tgt := 2520) hx hb dL_law_840 (by decide) ?_
      rw [x_some h] at kk
      exact W.widen (by omega) (by omega) (kk H locs ls hI (lv_sub hl [2, 3, 4, 5, 6] rfl))
    · have h := x_ift h c10
      refine lv_aload_n hx hb dL_law_828 rfl (lv_at hl 5 rfl) ?_
      refine lv_iconst (v := 0) hx hb dL_law_829 (by decide) ?_
      refine x_lald F hI (by decide) dL_law_830 ?_
      refine lv_iload hx hb dL_law_831 (lv_at hl 0 rfl) ?_
      refine lv_i2l hx hb dL_law_833 rfl ?_
      refine W.lcmp hx hb dL_law_834 ?_
      refine lv_if_eq (tgt := 840) hx hb dL_law_835 (by decide) (fun c11 => ?_) (fun c11 => ?_)
      · have h := x_ift h c11
        refine lv_goto (tgt := 2520) hx hb dL_law_840 (by decide) ?_
        rw [x_some h] at kk
        exact W.widen (by omega) (by omega) (kk H locs ls hI (lv_sub hl [2, 3, 4, 5, 6] rfl))
      · have h := x_iff h c11
        refine lv_iconst (v := 0) hx hb dL_law_838 (by decide) ?_
        cases h
  · have h := x_iff h c9
    refine lv_iconst (v := 0) hx hb dL_law_821 (by decide) ?_
    cases h
def gL_10 (σ : x_S) (a1 a2 : Int32) : Option x_S := (Option.bind (fL_deliver σ a1) fun r1 => (Option.bind (fX7_deliver (r1.2 11) a1) fun r3 => x_let (x_sh r1.2 11 r3.2) fun τ5 => (Option.bind (fX7_thrown (τ5 11) ) fun r7 => (if r7 = r1.1 then (if r1.1 = 0 then (if (lg_cmp (τ5 12 48 (Int32.toNatClampNeg (0 : Int32))).toInt64 (r3.1).toInt64) = 0 then some τ5 else none) else some τ5) else none))))
set_option maxHeartbeats 4000000 in
set_option maxRecDepth 100000 in
theorem wL_10 {p : Program} {l : Launch} {e : Env} {s : State} {m : MethodId} {below : List Frame} {meth : Method} {c : Code} {H : Heap} {locs : List Loc} {cells slots : Nat} {Q : State → Prop} {X : x_T} {σ : x_S} {b L : Nat} {xs : Nat → Int32} {ls : Array Slot} {i a1 a2 : Int32} {r : x_S} (FF : xw_F p l s m meth c b L xs X) (hi1 : x_in (i + (1 : Int32)) L) (hi2 : x_in (i + (2 : Int32)) L) (he1 : xs (i + (1 : Int32)).toNatClampNeg = a1) (he2 : xs (i + (2 : Int32)).toNatClampNeg = a2) (hf0 : cells ≤ room_1.cells ∧ slots ≤ room_1.slots) (hf1 : cells + 1 ≤ room_1.cells ∧ slots + 6 ≤ room_1.slots) (h : gL_10 σ a1 a2 = some r) (hI : x_I X σ s H locs) (hl : lv_has ls 9 (xw_lv X b i)) (kk : ∀ (H1 : Heap) (locs1 : List Loc) (ls1 : Array Slot), x_I X r s H1 locs1 → lv_has ls1 9 (xw_lv X b i) → W p l e room_1 s m #[Value.ref b] below meth c H1 locs1 (cells + 1) (slots + 6) Q (F0 m 2520 ls1 [])) : W p l e room_1 s m #[Value.ref b] below meth c H locs cells slots Q (F0 m 843 ls []) := by
  have F := FF.1
  have Z := FF.2.2.1
  have hx := F.1
  have hb := F.2.1
  have hml := F.2.2.1
  have hown := F.2.2.2.1
  have hts := F.2.2.2.2.1
  unfold gL_10 at h
  refine lv_aload_n hx hb dL_law_843 rfl (lv_at hl 1 rfl) ?_
  refine lv_aload_n hx hb dL_law_844 rfl (lv_at hl 0 rfl) ?_
  refine lv_iload hx hb dL_law_845 (lv_at hl 4 rfl) ?_
  refine lv_iconst (v := 1) hx hb dL_law_847 (by decide) ?_
  refine lv_iadd hx hb dL_law_848 ?_
  refine xw_sld FF hI hi1 he1 dL_law_849 ?_
  refine lv_aload_n hx hb dL_law_850 rfl (lv_at hl 3 rfl) ?_
  obtain ⟨r1, h2, h⟩ := x_bnd h
  refine xw_aci hI (xw_run (rest := []) F Z hI (mL_deliver l FF.2.1 X _ σ a1 r1 h2) gw_L_169 hd_L_deliver ⟨by decide, by decide⟩ ⟨rfl, rfl⟩ rfl hl.1 rfl (Nat.le_of_ble_eq_true rfl) dL_law_851 hf1) (fun H locs hI => ?_)
  refine lv_istore (lv' := [(5, .int r1.1), (0, .ref b), (1, .ref (X.2.2 10 32)), (2, .ref (X.2.2 11 40)), (3, .ref (X.2.2 12 48)), (4, .int i)]) hx hb dL_law_854 hl (by decide) rfl (fun ls hl => ?_)
  refine lv_aload_n hx hb dL_law_856 rfl (lv_at hl 3 rfl) ?_
  refine lv_aload_n hx hb dL_law_857 rfl (lv_at hl 1 rfl) ?_
  refine lv_iload hx hb dL_law_858 (lv_at hl 5 rfl) ?_
  refine lv_iconst (v := 1) hx hb dL_law_860 (by decide) ?_
  refine lv_iadd hx hb dL_law_861 ?_
  refine xw_sld FF hI hi1 he1 dL_law_862 ?_
  obtain ⟨r3, h4, h⟩ := x_bnd h
  have hI := x_toH 11 hI
  refine x_aci hI (x_runV (rest := []) F hI (mX7_deliver l X r1.2 _ (r1.2 11) a1 r3 h4) g_L_171 ⟨rfl, hd_X7_deliver⟩ ⟨by decide, by decide⟩ ⟨rfl, rfl⟩ (x_inO (by decide)) rfl rfl rfl rfl hl.1 rfl (Nat.le_of_ble_eq_true rfl) dL_law_863 hf1) (fun H locs hI => ?_)
  obtain ⟨τ5, e6⟩ : ∃ z : x_S, z = (x_sh r1.2 11 r3.2) := ⟨_, rfl⟩
  rw [← e6] at hI
  have h := x_let_at h e6
  refine lv_istore (lv' := [(6, .int r3.1), (5, .int r1.1), (0, .ref b), (1, .ref (X.2.2 10 32)), (2, .ref (X.2.2 11 40)), (3, .ref (X.2.2 12 48)), (4, .int i)]) hx hb dL_law_866 hl (by decide) rfl (fun ls hl => ?_)
  refine lv_aload_n hx hb dL_law_868 rfl (lv_at hl 4 rfl) ?_
  obtain ⟨r7, h8, h⟩ := x_bnd h
  have hI := x_toH 11 hI
  refine x_aci hI (x_runV (rest := []) F hI (mX7_thrown l X τ5 _ (τ5 11)  r7 h8) g_L_138 ⟨rfl, hd_X7_thrown⟩ ⟨by decide, by decide⟩ ⟨rfl, rfl⟩ (x_inO (by decide)) rfl rfl rfl rfl hl.1 rfl (Nat.le_of_ble_eq_true rfl) dL_law_869 hf1) (fun H locs hI => ?_)
  rw [x_sh_self] at hI
  refine lv_iload hx hb dL_law_872 (lv_at hl 1 rfl) ?_
  refine lv_icmp_eq (tgt := 879) hx hb dL_law_874 (by decide) (fun c9 => ?_) (fun c9 => ?_)
  · have h := x_ift h c9
    refine lv_iload hx hb dL_law_879 (lv_at hl 1 rfl) ?_
    refine lv_if_ne (tgt := 896) hx hb dL_law_881 (by decide) (fun c10 => ?_) (fun c10 => ?_)
    · have h := x_iff h c10
      refine lv_goto (tgt := 2520) hx hb dL_law_896 (by decide) ?_
      rw [x_some h] at kk
      exact W.widen (by omega) (by omega) (kk H locs ls hI (lv_sub hl [2, 3, 4, 5, 6] rfl))
    · have h := x_ift h c10
      refine lv_aload_n hx hb dL_law_884 rfl (lv_at hl 5 rfl) ?_
      refine lv_iconst (v := 0) hx hb dL_law_885 (by decide) ?_
      refine x_lald F hI (by decide) dL_law_886 ?_
      refine lv_iload hx hb dL_law_887 (lv_at hl 0 rfl) ?_
      refine lv_i2l hx hb dL_law_889 rfl ?_
      refine W.lcmp hx hb dL_law_890 ?_
      refine lv_if_eq (tgt := 896) hx hb dL_law_891 (by decide) (fun c11 => ?_) (fun c11 => ?_)
      · have h := x_ift h c11
        refine lv_goto (tgt := 2520) hx hb dL_law_896 (by decide) ?_
        rw [x_some h] at kk
        exact W.widen (by omega) (by omega) (kk H locs ls hI (lv_sub hl [2, 3, 4, 5, 6] rfl))
      · have h := x_iff h c11
        refine lv_iconst (v := 0) hx hb dL_law_894 (by decide) ?_
        cases h
  · have h := x_iff h c9
    refine lv_iconst (v := 0) hx hb dL_law_877 (by decide) ?_
    cases h
def gL_11 (σ : x_S) (a1 a2 : Int32) : Option x_S := (Option.bind (fL_lose σ a1) fun r1 => (Option.bind (fX7_lose (r1.2 11) a1) fun r3 => x_let (x_sh r1.2 11 r3.2) fun τ5 => (Option.bind (fX7_thrown (τ5 11) ) fun r7 => (if r7 = r1.1 then (if r1.1 = 0 then (if (lg_cmp (τ5 12 48 (Int32.toNatClampNeg (0 : Int32))).toInt64 (r3.1).toInt64) = 0 then some τ5 else none) else some τ5) else none))))
set_option maxHeartbeats 4000000 in
set_option maxRecDepth 100000 in
theorem wL_11 {p : Program} {l : Launch} {e : Env} {s : State} {m : MethodId} {below : List Frame} {meth : Method} {c : Code} {H : Heap} {locs : List Loc} {cells slots : Nat} {Q : State → Prop} {X : x_T} {σ : x_S} {b L : Nat} {xs : Nat → Int32} {ls : Array Slot} {i a1 a2 : Int32} {r : x_S} (FF : xw_F p l s m meth c b L xs X) (hi1 : x_in (i + (1 : Int32)) L) (hi2 : x_in (i + (2 : Int32)) L) (he1 : xs (i + (1 : Int32)).toNatClampNeg = a1) (he2 : xs (i + (2 : Int32)).toNatClampNeg = a2) (hf0 : cells ≤ room_1.cells ∧ slots ≤ room_1.slots) (hf1 : cells + 1 ≤ room_1.cells ∧ slots + 6 ≤ room_1.slots) (h : gL_11 σ a1 a2 = some r) (hI : x_I X σ s H locs) (hl : lv_has ls 9 (xw_lv X b i)) (kk : ∀ (H1 : Heap) (locs1 : List Loc) (ls1 : Array Slot), x_I X r s H1 locs1 → lv_has ls1 9 (xw_lv X b i) → W p l e room_1 s m #[Value.ref b] below meth c H1 locs1 (cells + 1) (slots + 6) Q (F0 m 2520 ls1 [])) : W p l e room_1 s m #[Value.ref b] below meth c H locs cells slots Q (F0 m 899 ls []) := by
  have F := FF.1
  have Z := FF.2.2.1
  have hx := F.1
  have hb := F.2.1
  have hml := F.2.2.1
  have hown := F.2.2.2.1
  have hts := F.2.2.2.2.1
  unfold gL_11 at h
  refine lv_aload_n hx hb dL_law_899 rfl (lv_at hl 1 rfl) ?_
  refine lv_aload_n hx hb dL_law_900 rfl (lv_at hl 0 rfl) ?_
  refine lv_iload hx hb dL_law_901 (lv_at hl 4 rfl) ?_
  refine lv_iconst (v := 1) hx hb dL_law_903 (by decide) ?_
  refine lv_iadd hx hb dL_law_904 ?_
  refine xw_sld FF hI hi1 he1 dL_law_905 ?_
  refine lv_aload_n hx hb dL_law_906 rfl (lv_at hl 3 rfl) ?_
  obtain ⟨r1, h2, h⟩ := x_bnd h
  refine xw_aci hI (xw_run (rest := []) F Z hI (mL_lose l FF.2.1 X _ σ a1 r1 h2) gw_L_172 hd_L_lose ⟨by decide, by decide⟩ ⟨rfl, rfl⟩ rfl hl.1 rfl (Nat.le_of_ble_eq_true rfl) dL_law_907 hf1) (fun H locs hI => ?_)
  refine lv_istore (lv' := [(5, .int r1.1), (0, .ref b), (1, .ref (X.2.2 10 32)), (2, .ref (X.2.2 11 40)), (3, .ref (X.2.2 12 48)), (4, .int i)]) hx hb dL_law_910 hl (by decide) rfl (fun ls hl => ?_)
  refine lv_aload_n hx hb dL_law_912 rfl (lv_at hl 3 rfl) ?_
  refine lv_aload_n hx hb dL_law_913 rfl (lv_at hl 1 rfl) ?_
  refine lv_iload hx hb dL_law_914 (lv_at hl 5 rfl) ?_
  refine lv_iconst (v := 1) hx hb dL_law_916 (by decide) ?_
  refine lv_iadd hx hb dL_law_917 ?_
  refine xw_sld FF hI hi1 he1 dL_law_918 ?_
  obtain ⟨r3, h4, h⟩ := x_bnd h
  have hI := x_toH 11 hI
  refine x_aci hI (x_runV (rest := []) F hI (mX7_lose l X r1.2 _ (r1.2 11) a1 r3 h4) g_L_174 ⟨rfl, hd_X7_lose⟩ ⟨by decide, by decide⟩ ⟨rfl, rfl⟩ (x_inO (by decide)) rfl rfl rfl rfl hl.1 rfl (Nat.le_of_ble_eq_true rfl) dL_law_919 hf1) (fun H locs hI => ?_)
  obtain ⟨τ5, e6⟩ : ∃ z : x_S, z = (x_sh r1.2 11 r3.2) := ⟨_, rfl⟩
  rw [← e6] at hI
  have h := x_let_at h e6
  refine lv_istore (lv' := [(6, .int r3.1), (5, .int r1.1), (0, .ref b), (1, .ref (X.2.2 10 32)), (2, .ref (X.2.2 11 40)), (3, .ref (X.2.2 12 48)), (4, .int i)]) hx hb dL_law_922 hl (by decide) rfl (fun ls hl => ?_)
  refine lv_aload_n hx hb dL_law_924 rfl (lv_at hl 4 rfl) ?_
  obtain ⟨r7, h8, h⟩ := x_bnd h
  have hI := x_toH 11 hI
  refine x_aci hI (x_runV (rest := []) F hI (mX7_thrown l X τ5 _ (τ5 11)  r7 h8) g_L_138 ⟨rfl, hd_X7_thrown⟩ ⟨by decide, by decide⟩ ⟨rfl, rfl⟩ (x_inO (by decide)) rfl rfl rfl rfl hl.1 rfl (Nat.le_of_ble_eq_true rfl) dL_law_925 hf1) (fun H locs hI => ?_)
  rw [x_sh_self] at hI
  refine lv_iload hx hb dL_law_928 (lv_at hl 1 rfl) ?_
  refine lv_icmp_eq (tgt := 935) hx hb dL_law_930 (by decide) (fun c9 => ?_) (fun c9 => ?_)
  · have h := x_ift h c9
    refine lv_iload hx hb dL_law_935 (lv_at hl 1 rfl) ?_
    refine lv_if_ne (tgt := 952) hx hb dL_law_937 (by decide) (fun c10 => ?_) (fun c10 => ?_)
    · have h := x_iff h c10
      refine lv_goto (tgt := 2520) hx hb dL_law_952 (by decide) ?_
      rw [x_some h] at kk
      exact W.widen (by omega) (by omega) (kk H locs ls hI (lv_sub hl [2, 3, 4, 5, 6] rfl))
    · have h := x_ift h c10
      refine lv_aload_n hx hb dL_law_940 rfl (lv_at hl 5 rfl) ?_
      refine lv_iconst (v := 0) hx hb dL_law_941 (by decide) ?_
      refine x_lald F hI (by decide) dL_law_942 ?_
      refine lv_iload hx hb dL_law_943 (lv_at hl 0 rfl) ?_
      refine lv_i2l hx hb dL_law_945 rfl ?_
      refine W.lcmp hx hb dL_law_946 ?_
      refine lv_if_eq (tgt := 952) hx hb dL_law_947 (by decide) (fun c11 => ?_) (fun c11 => ?_)
      · have h := x_ift h c11
        refine lv_goto (tgt := 2520) hx hb dL_law_952 (by decide) ?_
        rw [x_some h] at kk
        exact W.widen (by omega) (by omega) (kk H locs ls hI (lv_sub hl [2, 3, 4, 5, 6] rfl))
      · have h := x_iff h c11
        refine lv_iconst (v := 0) hx hb dL_law_950 (by decide) ?_
        cases h
  · have h := x_iff h c9
    refine lv_iconst (v := 0) hx hb dL_law_933 (by decide) ?_
    cases h
def gL_12 (σ : x_S) (a1 a2 : Int32) : Option x_S := (Option.bind (fX6_deliverAll σ ) fun r1 => (Option.bind (fX7_deliverAll (r1.2 11) ) fun r3 => x_let (x_sh r1.2 11 r3.2) fun τ5 => (if r1.1 = r3.1 then some τ5 else none)))
set_option maxHeartbeats 4000000 in
set_option maxRecDepth 100000 in
theorem wL_12 {p : Program} {l : Launch} {e : Env} {s : State} {m : MethodId} {below : List Frame} {meth : Method} {c : Code} {H : Heap} {locs : List Loc} {cells slots : Nat} {Q : State → Prop} {X : x_T} {σ : x_S} {b L : Nat} {xs : Nat → Int32} {ls : Array Slot} {i a1 a2 : Int32} {r : x_S} (FF : xw_F p l s m meth c b L xs X) (hi1 : x_in (i + (1 : Int32)) L) (hi2 : x_in (i + (2 : Int32)) L) (he1 : xs (i + (1 : Int32)).toNatClampNeg = a1) (he2 : xs (i + (2 : Int32)).toNatClampNeg = a2) (hf0 : cells ≤ room_1.cells ∧ slots ≤ room_1.slots) (hf1 : cells + 1 ≤ room_1.cells ∧ slots + 6 ≤ room_1.slots) (h : gL_12 σ a1 a2 = some r) (hI : x_I X σ s H locs) (hl : lv_has ls 9 (xw_lv X b i)) (kk : ∀ (H1 : Heap) (locs1 : List Loc) (ls1 : Array Slot), x_I X r s H1 locs1 → lv_has ls1 9 (xw_lv X b i) → W p l e room_1 s m #[Value.ref b] below meth c H1 locs1 (cells + 1) (slots + 6) Q (F0 m 2520 ls1 [])) : W p l e room_1 s m #[Value.ref b] below meth c H locs cells slots Q (F0 m 955 ls []) := by
  have F := FF.1
  have Z := FF.2.2.1
  have hx := F.1
  have hb := F.2.1
  have hml := F.2.2.1
  have hown := F.2.2.2.1
  have hts := F.2.2.2.2.1
  unfold gL_12 at h
  refine lv_aload_n hx hb dL_law_955 rfl (lv_at hl 1 rfl) ?_
  obtain ⟨r1, h2, h⟩ := x_bnd h
  refine x_aci hI (x_runV (rest := []) F hI (mX6_deliverAll l X _ σ  r1 h2) g_L_175 ⟨rfl, hd_X6_deliverAll⟩ ⟨by decide, by decide⟩ ⟨rfl, rfl⟩ (x_inO (by decide)) rfl rfl rfl rfl hl.1 rfl (Nat.le_of_ble_eq_true rfl) dL_law_956 hf0) (fun H locs hI => ?_)
  refine lv_aload_n hx hb dL_law_959 rfl (lv_at hl 2 rfl) ?_
  obtain ⟨r3, h4, h⟩ := x_bnd h
  have hI := x_toH 11 hI
  refine x_aci hI (x_runV (rest := [.int r1.1]) F hI (mX7_deliverAll l X r1.2 _ (r1.2 11)  r3 h4) g_L_178 ⟨rfl, hd_X7_deliverAll⟩ ⟨by decide, by decide⟩ ⟨rfl, rfl⟩ (x_inO (by decide)) rfl rfl rfl rfl hl.1 rfl (Nat.le_of_ble_eq_true rfl) dL_law_960 hf0) (fun H locs hI => ?_)
  obtain ⟨τ5, e6⟩ : ∃ z : x_S, z = (x_sh r1.2 11 r3.2) := ⟨_, rfl⟩
  rw [← e6] at hI
  have h := x_let_at h e6
  refine lv_icmp_eq (tgt := 2520) hx hb dL_law_963 (by decide) (fun c7 => ?_) (fun c7 => ?_)
  · have h := x_ift h c7
    rw [x_some h] at kk
    exact W.widen (by omega) (by omega) (kk H locs ls hI (lv_sub hl [0, 1, 2, 3, 4] rfl))
  · have h := x_iff h c7
    refine lv_iconst (v := 0) hx hb dL_law_966 (by decide) ?_
    cases h
def gL_13 (σ : x_S) (a1 a2 : Int32) : Option x_S := (Option.bind (fL_tick σ a1) fun r1 => (Option.bind (fX7_tick (r1.2 11) a1) fun r3 => x_let (x_sh r1.2 11 r3.2) fun τ5 => (Option.bind (fX7_thrown (τ5 11) ) fun r7 => (if r7 = r1.1 then (if r1.1 = 0 then (if (lg_cmp (τ5 12 48 (Int32.toNatClampNeg (0 : Int32))).toInt64 (r3.1).toInt64) = 0 then some τ5 else none) else some τ5) else none))))
set_option maxHeartbeats 4000000 in
set_option maxRecDepth 100000 in
theorem wL_13 {p : Program} {l : Launch} {e : Env} {s : State} {m : MethodId} {below : List Frame} {meth : Method} {c : Code} {H : Heap} {locs : List Loc} {cells slots : Nat} {Q : State → Prop} {X : x_T} {σ : x_S} {b L : Nat} {xs : Nat → Int32} {ls : Array Slot} {i a1 a2 : Int32} {r : x_S} (FF : xw_F p l s m meth c b L xs X) (hi1 : x_in (i + (1 : Int32)) L) (hi2 : x_in (i + (2 : Int32)) L) (he1 : xs (i + (1 : Int32)).toNatClampNeg = a1) (he2 : xs (i + (2 : Int32)).toNatClampNeg = a2) (hf0 : cells ≤ room_1.cells ∧ slots ≤ room_1.slots) (hf1 : cells + 1 ≤ room_1.cells ∧ slots + 6 ≤ room_1.slots) (h : gL_13 σ a1 a2 = some r) (hI : x_I X σ s H locs) (hl : lv_has ls 9 (xw_lv X b i)) (kk : ∀ (H1 : Heap) (locs1 : List Loc) (ls1 : Array Slot), x_I X r s H1 locs1 → lv_has ls1 9 (xw_lv X b i) → W p l e room_1 s m #[Value.ref b] below meth c H1 locs1 (cells + 1) (slots + 6) Q (F0 m 2520 ls1 [])) : W p l e room_1 s m #[Value.ref b] below meth c H locs cells slots Q (F0 m 968 ls []) := by
  have F := FF.1
  have Z := FF.2.2.1
  have hx := F.1
  have hb := F.2.1
  have hml := F.2.2.1
  have hown := F.2.2.2.1
  have hts := F.2.2.2.2.1
  unfold gL_13 at h
  refine lv_aload_n hx hb dL_law_968 rfl (lv_at hl 1 rfl) ?_
  refine lv_aload_n hx hb dL_law_969 rfl (lv_at hl 0 rfl) ?_
  refine lv_iload hx hb dL_law_970 (lv_at hl 4 rfl) ?_
  refine lv_iconst (v := 1) hx hb dL_law_972 (by decide) ?_
  refine lv_iadd hx hb dL_law_973 ?_
  refine xw_sld FF hI hi1 he1 dL_law_974 ?_
  refine lv_aload_n hx hb dL_law_975 rfl (lv_at hl 3 rfl) ?_
  obtain ⟨r1, h2, h⟩ := x_bnd h
  refine xw_aci hI (xw_run (rest := []) F Z hI (mL_tick l FF.2.1 X _ σ a1 r1 h2) gw_L_179 hd_L_tick ⟨by decide, by decide⟩ ⟨rfl, rfl⟩ rfl hl.1 rfl (Nat.le_of_ble_eq_true rfl) dL_law_976 hf1) (fun H locs hI => ?_)
  refine lv_istore (lv' := [(5, .int r1.1), (0, .ref b), (1, .ref (X.2.2 10 32)), (2, .ref (X.2.2 11 40)), (3, .ref (X.2.2 12 48)), (4, .int i)]) hx hb dL_law_979 hl (by decide) rfl (fun ls hl => ?_)
  refine lv_aload_n hx hb dL_law_981 rfl (lv_at hl 3 rfl) ?_
  refine lv_aload_n hx hb dL_law_982 rfl (lv_at hl 1 rfl) ?_
  refine lv_iload hx hb dL_law_983 (lv_at hl 5 rfl) ?_
  refine lv_iconst (v := 1) hx hb dL_law_985 (by decide) ?_
  refine lv_iadd hx hb dL_law_986 ?_
  refine xw_sld FF hI hi1 he1 dL_law_987 ?_
  obtain ⟨r3, h4, h⟩ := x_bnd h
  have hI := x_toH 11 hI
  refine x_aci hI (x_runV (rest := []) F hI (mX7_tick l X r1.2 _ (r1.2 11) a1 r3 h4) g_L_181 ⟨rfl, hd_X7_tick⟩ ⟨by decide, by decide⟩ ⟨rfl, rfl⟩ (x_inO (by decide)) rfl rfl rfl rfl hl.1 rfl (Nat.le_of_ble_eq_true rfl) dL_law_988 hf1) (fun H locs hI => ?_)
  obtain ⟨τ5, e6⟩ : ∃ z : x_S, z = (x_sh r1.2 11 r3.2) := ⟨_, rfl⟩
  rw [← e6] at hI
  have h := x_let_at h e6
  refine lv_istore (lv' := [(6, .int r3.1), (5, .int r1.1), (0, .ref b), (1, .ref (X.2.2 10 32)), (2, .ref (X.2.2 11 40)), (3, .ref (X.2.2 12 48)), (4, .int i)]) hx hb dL_law_991 hl (by decide) rfl (fun ls hl => ?_)
  refine lv_aload_n hx hb dL_law_993 rfl (lv_at hl 4 rfl) ?_
  obtain ⟨r7, h8, h⟩ := x_bnd h
  have hI := x_toH 11 hI
  refine x_aci hI (x_runV (rest := []) F hI (mX7_thrown l X τ5 _ (τ5 11)  r7 h8) g_L_138 ⟨rfl, hd_X7_thrown⟩ ⟨by decide, by decide⟩ ⟨rfl, rfl⟩ (x_inO (by decide)) rfl rfl rfl rfl hl.1 rfl (Nat.le_of_ble_eq_true rfl) dL_law_994 hf1) (fun H locs hI => ?_)
  rw [x_sh_self] at hI
  refine lv_iload hx hb dL_law_997 (lv_at hl 1 rfl) ?_
  refine lv_icmp_eq (tgt := 1004) hx hb dL_law_999 (by decide) (fun c9 => ?_) (fun c9 => ?_)
  · have h := x_ift h c9
    refine lv_iload hx hb dL_law_1004 (lv_at hl 1 rfl) ?_
    refine lv_if_ne (tgt := 1021) hx hb dL_law_1006 (by decide) (fun c10 => ?_) (fun c10 => ?_)
    · have h := x_iff h c10
      refine lv_goto (tgt := 2520) hx hb dL_law_1021 (by decide) ?_
      rw [x_some h] at kk
      exact W.widen (by omega) (by omega) (kk H locs ls hI (lv_sub hl [2, 3, 4, 5, 6] rfl))
    · have h := x_ift h c10
      refine lv_aload_n hx hb dL_law_1009 rfl (lv_at hl 5 rfl) ?_
      refine lv_iconst (v := 0) hx hb dL_law_1010 (by decide) ?_
      refine x_lald F hI (by decide) dL_law_1011 ?_
      refine lv_iload hx hb dL_law_1012 (lv_at hl 0 rfl) ?_
      refine lv_i2l hx hb dL_law_1014 rfl ?_
      refine W.lcmp hx hb dL_law_1015 ?_
      refine lv_if_eq (tgt := 1021) hx hb dL_law_1016 (by decide) (fun c11 => ?_) (fun c11 => ?_)
      · have h := x_ift h c11
        refine lv_goto (tgt := 2520) hx hb dL_law_1021 (by decide) ?_
        rw [x_some h] at kk
        exact W.widen (by omega) (by omega) (kk H locs ls hI (lv_sub hl [2, 3, 4, 5, 6] rfl))
      · have h := x_iff h c11
        refine lv_iconst (v := 0) hx hb dL_law_1019 (by decide) ?_
        cases h
  · have h := x_iff h c9
    refine lv_iconst (v := 0) hx hb dL_law_1002 (by decide) ?_
    cases h
def gL_14 (σ : x_S) (a1 a2 : Int32) : Option x_S := (Option.bind (fL_append σ a1) fun r1 => (Option.bind (fX7_append (r1.2 11) a1) fun r3 => x_let (x_sh r1.2 11 r3.2) fun τ5 => (Option.bind (fX7_thrown (τ5 11) ) fun r7 => (if r7 = r1.1 then (if r1.1 = 0 then (if (lg_cmp (τ5 12 48 (Int32.toNatClampNeg (0 : Int32))).toInt64 (r3.1).toInt64) = 0 then some τ5 else none) else some τ5) else none))))
set_option maxHeartbeats 4000000 in
set_option maxRecDepth 100000 in
theorem wL_14 {p : Program} {l : Launch} {e : Env} {s : State} {m : MethodId} {below : List Frame} {meth : Method} {c : Code} {H : Heap} {locs : List Loc} {cells slots : Nat} {Q : State → Prop} {X : x_T} {σ : x_S} {b L : Nat} {xs : Nat → Int32} {ls : Array Slot} {i a1 a2 : Int32} {r : x_S} (FF : xw_F p l s m meth c b L xs X) (hi1 : x_in (i + (1 : Int32)) L) (hi2 : x_in (i + (2 : Int32)) L) (he1 : xs (i + (1 : Int32)).toNatClampNeg = a1) (he2 : xs (i + (2 : Int32)).toNatClampNeg = a2) (hf0 : cells ≤ room_1.cells ∧ slots ≤ room_1.slots) (hf1 : cells + 1 ≤ room_1.cells ∧ slots + 6 ≤ room_1.slots) (h : gL_14 σ a1 a2 = some r) (hI : x_I X σ s H locs) (hl : lv_has ls 9 (xw_lv X b i)) (kk : ∀ (H1 : Heap) (locs1 : List Loc) (ls1 : Array Slot), x_I X r s H1 locs1 → lv_has ls1 9 (xw_lv X b i) → W p l e room_1 s m #[Value.ref b] below meth c H1 locs1 (cells + 1) (slots + 6) Q (F0 m 2520 ls1 [])) : W p l e room_1 s m #[Value.ref b] below meth c H locs cells slots Q (F0 m 1024 ls []) := by
  have F := FF.1
  have Z := FF.2.2.1
  have hx := F.1
  have hb := F.2.1
  have hml := F.2.2.1
  have hown := F.2.2.2.1
  have hts := F.2.2.2.2.1
  unfold gL_14 at h
  refine lv_aload_n hx hb dL_law_1024 rfl (lv_at hl 1 rfl) ?_
  refine lv_aload_n hx hb dL_law_1025 rfl (lv_at hl 0 rfl) ?_
  refine lv_iload hx hb dL_law_1026 (lv_at hl 4 rfl) ?_
  refine lv_iconst (v := 1) hx hb dL_law_1028 (by decide) ?_
  refine lv_iadd hx hb dL_law_1029 ?_
  refine xw_sld FF hI hi1 he1 dL_law_1030 ?_
  refine lv_aload_n hx hb dL_law_1031 rfl (lv_at hl 3 rfl) ?_
  obtain ⟨r1, h2, h⟩ := x_bnd h
  refine xw_aci hI (xw_run (rest := []) F Z hI (mL_append l FF.2.1 X _ σ a1 r1 h2) gw_L_182 hd_L_append ⟨by decide, by decide⟩ ⟨rfl, rfl⟩ rfl hl.1 rfl (Nat.le_of_ble_eq_true rfl) dL_law_1032 hf1) (fun H locs hI => ?_)
  refine lv_istore (lv' := [(5, .int r1.1), (0, .ref b), (1, .ref (X.2.2 10 32)), (2, .ref (X.2.2 11 40)), (3, .ref (X.2.2 12 48)), (4, .int i)]) hx hb dL_law_1035 hl (by decide) rfl (fun ls hl => ?_)
  refine lv_aload_n hx hb dL_law_1037 rfl (lv_at hl 3 rfl) ?_
  refine lv_aload_n hx hb dL_law_1038 rfl (lv_at hl 1 rfl) ?_
  refine lv_iload hx hb dL_law_1039 (lv_at hl 5 rfl) ?_
  refine lv_iconst (v := 1) hx hb dL_law_1041 (by decide) ?_
  refine lv_iadd hx hb dL_law_1042 ?_
  refine xw_sld FF hI hi1 he1 dL_law_1043 ?_
  obtain ⟨r3, h4, h⟩ := x_bnd h
  have hI := x_toH 11 hI
  refine x_aci hI (x_runV (rest := []) F hI (mX7_append l X r1.2 _ (r1.2 11) a1 r3 h4) g_L_184 ⟨rfl, hd_X7_append⟩ ⟨by decide, by decide⟩ ⟨rfl, rfl⟩ (x_inO (by decide)) rfl rfl rfl rfl hl.1 rfl (Nat.le_of_ble_eq_true rfl) dL_law_1044 hf1) (fun H locs hI => ?_)
  obtain ⟨τ5, e6⟩ : ∃ z : x_S, z = (x_sh r1.2 11 r3.2) := ⟨_, rfl⟩
  rw [← e6] at hI
  have h := x_let_at h e6
  refine lv_istore (lv' := [(6, .int r3.1), (5, .int r1.1), (0, .ref b), (1, .ref (X.2.2 10 32)), (2, .ref (X.2.2 11 40)), (3, .ref (X.2.2 12 48)), (4, .int i)]) hx hb dL_law_1047 hl (by decide) rfl (fun ls hl => ?_)
  refine lv_aload_n hx hb dL_law_1049 rfl (lv_at hl 4 rfl) ?_
  obtain ⟨r7, h8, h⟩ := x_bnd h
  have hI := x_toH 11 hI
  refine x_aci hI (x_runV (rest := []) F hI (mX7_thrown l X τ5 _ (τ5 11)  r7 h8) g_L_138 ⟨rfl, hd_X7_thrown⟩ ⟨by decide, by decide⟩ ⟨rfl, rfl⟩ (x_inO (by decide)) rfl rfl rfl rfl hl.1 rfl (Nat.le_of_ble_eq_true rfl) dL_law_1050 hf1) (fun H locs hI => ?_)
  rw [x_sh_self] at hI
  refine lv_iload hx hb dL_law_1053 (lv_at hl 1 rfl) ?_
  refine lv_icmp_eq (tgt := 1060) hx hb dL_law_1055 (by decide) (fun c9 => ?_) (fun c9 => ?_)
  · have h := x_ift h c9
    refine lv_iload hx hb dL_law_1060 (lv_at hl 1 rfl) ?_
    refine lv_if_ne (tgt := 1077) hx hb dL_law_1062 (by decide) (fun c10 => ?_) (fun c10 => ?_)
    · have h := x_iff h c10
      refine lv_goto (tgt := 2520) hx hb dL_law_1077 (by decide) ?_
      rw [x_some h] at kk
      exact W.widen (by omega) (by omega) (kk H locs ls hI (lv_sub hl [2, 3, 4, 5, 6] rfl))
    · have h := x_ift h c10
      refine lv_aload_n hx hb dL_law_1065 rfl (lv_at hl 5 rfl) ?_
      refine lv_iconst (v := 0) hx hb dL_law_1066 (by decide) ?_
      refine x_lald F hI (by decide) dL_law_1067 ?_
      refine lv_iload hx hb dL_law_1068 (lv_at hl 0 rfl) ?_
      refine lv_i2l hx hb dL_law_1070 rfl ?_
      refine W.lcmp hx hb dL_law_1071 ?_
      refine lv_if_eq (tgt := 1077) hx hb dL_law_1072 (by decide) (fun c11 => ?_) (fun c11 => ?_)
      · have h := x_ift h c11
        refine lv_goto (tgt := 2520) hx hb dL_law_1077 (by decide) ?_
        rw [x_some h] at kk
        exact W.widen (by omega) (by omega) (kk H locs ls hI (lv_sub hl [2, 3, 4, 5, 6] rfl))
      · have h := x_iff h c11
        refine lv_iconst (v := 0) hx hb dL_law_1075 (by decide) ?_
        cases h
  · have h := x_iff h c9
    refine lv_iconst (v := 0) hx hb dL_law_1058 (by decide) ?_
    cases h
def gL_15 (σ : x_S) (a1 a2 : Int32) : Option x_S := (Option.bind (fX6_clearBuffer σ ) fun r1 => (Option.bind (fX7_clearBuffer (r1.2 11) ) fun r3 => x_let (x_sh r1.2 11 r3.2) fun τ5 => (if r1.1 = r3.1 then some τ5 else none)))
set_option maxHeartbeats 4000000 in
set_option maxRecDepth 100000 in
theorem wL_15 {p : Program} {l : Launch} {e : Env} {s : State} {m : MethodId} {below : List Frame} {meth : Method} {c : Code} {H : Heap} {locs : List Loc} {cells slots : Nat} {Q : State → Prop} {X : x_T} {σ : x_S} {b L : Nat} {xs : Nat → Int32} {ls : Array Slot} {i a1 a2 : Int32} {r : x_S} (FF : xw_F p l s m meth c b L xs X) (hi1 : x_in (i + (1 : Int32)) L) (hi2 : x_in (i + (2 : Int32)) L) (he1 : xs (i + (1 : Int32)).toNatClampNeg = a1) (he2 : xs (i + (2 : Int32)).toNatClampNeg = a2) (hf0 : cells ≤ room_1.cells ∧ slots ≤ room_1.slots) (hf1 : cells + 1 ≤ room_1.cells ∧ slots + 6 ≤ room_1.slots) (h : gL_15 σ a1 a2 = some r) (hI : x_I X σ s H locs) (hl : lv_has ls 9 (xw_lv X b i)) (kk : ∀ (H1 : Heap) (locs1 : List Loc) (ls1 : Array Slot), x_I X r s H1 locs1 → lv_has ls1 9 (xw_lv X b i) → W p l e room_1 s m #[Value.ref b] below meth c H1 locs1 (cells + 1) (slots + 6) Q (F0 m 2520 ls1 [])) : W p l e room_1 s m #[Value.ref b] below meth c H locs cells slots Q (F0 m 1080 ls []) := by
  have F := FF.1
  have Z := FF.2.2.1
  have hx := F.1
  have hb := F.2.1
  have hml := F.2.2.1
  have hown := F.2.2.2.1
  have hts := F.2.2.2.2.1
  unfold gL_15 at h
  refine lv_aload_n hx hb dL_law_1080 rfl (lv_at hl 1 rfl) ?_
  obtain ⟨r1, h2, h⟩ := x_bnd h
  refine x_aci hI (x_runV (rest := []) F hI (mX6_clearBuffer l X _ σ  r1 h2) g_L_185 ⟨rfl, hd_X6_clearBuffer⟩ ⟨by decide, by decide⟩ ⟨rfl, rfl⟩ (x_inO (by decide)) rfl rfl rfl rfl hl.1 rfl (Nat.le_of_ble_eq_true rfl) dL_law_1081 hf0) (fun H locs hI => ?_)
  refine lv_aload_n hx hb dL_law_1084 rfl (lv_at hl 2 rfl) ?_
  obtain ⟨r3, h4, h⟩ := x_bnd h
  have hI := x_toH 11 hI
  refine x_aci hI (x_runV (rest := [.int r1.1]) F hI (mX7_clearBuffer l X r1.2 _ (r1.2 11)  r3 h4) g_L_188 ⟨rfl, hd_X7_clearBuffer⟩ ⟨by decide, by decide⟩ ⟨rfl, rfl⟩ (x_inO (by decide)) rfl rfl rfl rfl hl.1 rfl (Nat.le_of_ble_eq_true rfl) dL_law_1085 hf0) (fun H locs hI => ?_)
  obtain ⟨τ5, e6⟩ : ∃ z : x_S, z = (x_sh r1.2 11 r3.2) := ⟨_, rfl⟩
  rw [← e6] at hI
  have h := x_let_at h e6
  refine lv_icmp_eq (tgt := 2520) hx hb dL_law_1088 (by decide) (fun c7 => ?_) (fun c7 => ?_)
  · have h := x_ift h c7
    rw [x_some h] at kk
    exact W.widen (by omega) (by omega) (kk H locs ls hI (lv_sub hl [0, 1, 2, 3, 4] rfl))
  · have h := x_iff h c7
    refine lv_iconst (v := 0) hx hb dL_law_1091 (by decide) ?_
    cases h
def gL_16 (σ : x_S) (a1 a2 : Int32) : Option x_S := (Option.bind (fX6_firstError σ ) fun r1 => (Option.bind (fX7_firstError (r1.2 11) ) fun r3 => x_let (x_sh r1.2 11 r3.2) fun τ5 => (if r1.1 = r3.1 then some τ5 else none)))
set_option maxHeartbeats 4000000 in
set_option maxRecDepth 100000 in
theorem wL_16 {p : Program} {l : Launch} {e : Env} {s : State} {m : MethodId} {below : List Frame} {meth : Method} {c : Code} {H : Heap} {locs : List Loc} {cells slots : Nat} {Q : State → Prop} {X : x_T} {σ : x_S} {b L : Nat} {xs : Nat → Int32} {ls : Array Slot} {i a1 a2 : Int32} {r : x_S} (FF : xw_F p l s m meth c b L xs X) (hi1 : x_in (i + (1 : Int32)) L) (hi2 : x_in (i + (2 : Int32)) L) (he1 : xs (i + (1 : Int32)).toNatClampNeg = a1) (he2 : xs (i + (2 : Int32)).toNatClampNeg = a2) (hf0 : cells ≤ room_1.cells ∧ slots ≤ room_1.slots) (hf1 : cells + 1 ≤ room_1.cells ∧ slots + 6 ≤ room_1.slots) (h : gL_16 σ a1 a2 = some r) (hI : x_I X σ s H locs) (hl : lv_has ls 9 (xw_lv X b i)) (kk : ∀ (H1 : Heap) (locs1 : List Loc) (ls1 : Array Slot), x_I X r s H1 locs1 → lv_has ls1 9 (xw_lv X b i) → W p l e room_1 s m #[Value.ref b] below meth c H1 locs1 (cells + 1) (slots + 6) Q (F0 m 2520 ls1 [])) : W p l e room_1 s m #[Value.ref b] below meth c H locs cells slots Q (F0 m 1093 ls []) := by
  have F := FF.1
  have Z := FF.2.2.1
  have hx := F.1
  have hb := F.2.1
  have hml := F.2.2.1
  have hown := F.2.2.2.1
  have hts := F.2.2.2.2.1
  unfold gL_16 at h
  refine lv_aload_n hx hb dL_law_1093 rfl (lv_at hl 1 rfl) ?_
  obtain ⟨r1, h2, h⟩ := x_bnd h
  refine x_aci hI (x_runV (rest := []) F hI (mX6_firstError l X _ σ  r1 h2) g_L_189 ⟨rfl, hd_X6_firstError⟩ ⟨by decide, by decide⟩ ⟨rfl, rfl⟩ (x_inO (by decide)) rfl rfl rfl rfl hl.1 rfl (Nat.le_of_ble_eq_true rfl) dL_law_1094 hf0) (fun H locs hI => ?_)
  refine lv_aload_n hx hb dL_law_1097 rfl (lv_at hl 2 rfl) ?_
  obtain ⟨r3, h4, h⟩ := x_bnd h
  have hI := x_toH 11 hI
  refine x_aci hI (x_runV (rest := [.int r1.1]) F hI (mX7_firstError l X r1.2 _ (r1.2 11)  r3 h4) g_L_192 ⟨rfl, hd_X7_firstError⟩ ⟨by decide, by decide⟩ ⟨rfl, rfl⟩ (x_inO (by decide)) rfl rfl rfl rfl hl.1 rfl (Nat.le_of_ble_eq_true rfl) dL_law_1098 hf0) (fun H locs hI => ?_)
  obtain ⟨τ5, e6⟩ : ∃ z : x_S, z = (x_sh r1.2 11 r3.2) := ⟨_, rfl⟩
  rw [← e6] at hI
  have h := x_let_at h e6
  refine lv_icmp_eq (tgt := 2520) hx hb dL_law_1101 (by decide) (fun c7 => ?_) (fun c7 => ?_)
  · have h := x_ift h c7
    rw [x_some h] at kk
    exact W.widen (by omega) (by omega) (kk H locs ls hI (lv_sub hl [0, 1, 2, 3, 4] rfl))
  · have h := x_iff h c7
    refine lv_iconst (v := 0) hx hb dL_law_1104 (by decide) ?_
    cases h
def gL_17 (σ : x_S) (a1 a2 : Int32) : Option x_S := (Option.bind (fL_play σ ) fun r1 => (Option.bind (fX7_play (r1.2 11) ) fun r3 => x_let (x_sh r1.2 11 r3.2) fun τ5 => (Option.bind (fX7_thrown (τ5 11) ) fun r7 => (if r7 = r1.1 then (if r1.1 = 0 then (if (lg_cmp (τ5 12 48 (Int32.toNatClampNeg (0 : Int32))).toInt64 (r3.1).toInt64) = 0 then some τ5 else none) else some τ5) else none))))
set_option maxHeartbeats 4000000 in
set_option maxRecDepth 100000 in
theorem wL_17 {p : Program} {l : Launch} {e : Env} {s : State} {m : MethodId} {below : List Frame} {meth : Method} {c : Code} {H : Heap} {locs : List Loc} {cells slots : Nat} {Q : State → Prop} {X : x_T} {σ : x_S} {b L : Nat} {xs : Nat → Int32} {ls : Array Slot} {i a1 a2 : Int32} {r : x_S} (FF : xw_F p l s m meth c b L xs X) (hi1 : x_in (i + (1 : Int32)) L) (hi2 : x_in (i + (2 : Int32)) L) (he1 : xs (i + (1 : Int32)).toNatClampNeg = a1) (he2 : xs (i + (2 : Int32)).toNatClampNeg = a2) (hf0 : cells ≤ room_1.cells ∧ slots ≤ room_1.slots) (hf1 : cells + 1 ≤ room_1.cells ∧ slots + 6 ≤ room_1.slots) (h : gL_17 σ a1 a2 = some r) (hI : x_I X σ s H locs) (hl : lv_has ls 9 (xw_lv X b i)) (kk : ∀ (H1 : Heap) (locs1 : List Loc) (ls1 : Array Slot), x_I X r s H1 locs1 → lv_has ls1 9 (xw_lv X b i) → W p l e room_1 s m #[Value.ref b] below meth c H1 locs1 (cells + 1) (slots + 6) Q (F0 m 2520 ls1 [])) : W p l e room_1 s m #[Value.ref b] below meth c H locs cells slots Q (F0 m 1106 ls []) := by
  have F := FF.1
  have Z := FF.2.2.1
  have hx := F.1
  have hb := F.2.1
  have hml := F.2.2.1
  have hown := F.2.2.2.1
  have hts := F.2.2.2.2.1
  unfold gL_17 at h
  refine lv_aload_n hx hb dL_law_1106 rfl (lv_at hl 1 rfl) ?_
  refine lv_aload_n hx hb dL_law_1107 rfl (lv_at hl 3 rfl) ?_
  obtain ⟨r1, h2, h⟩ := x_bnd h
  refine xw_aci hI (xw_run (rest := []) F Z hI (mL_play l FF.2.1 X _ σ  r1 h2) gw_L_193 hd_L_play ⟨by decide, by decide⟩ ⟨rfl, rfl⟩ rfl hl.1 rfl (Nat.le_of_ble_eq_true rfl) dL_law_1108 hf1) (fun H locs hI => ?_)
  refine lv_istore (lv' := [(5, .int r1.1), (0, .ref b), (1, .ref (X.2.2 10 32)), (2, .ref (X.2.2 11 40)), (3, .ref (X.2.2 12 48)), (4, .int i)]) hx hb dL_law_1111 hl (by decide) rfl (fun ls hl => ?_)
  refine lv_aload_n hx hb dL_law_1113 rfl (lv_at hl 3 rfl) ?_
  obtain ⟨r3, h4, h⟩ := x_bnd h
  have hI := x_toH 11 hI
  refine x_aci hI (x_runV (rest := []) F hI (mX7_play l X r1.2 _ (r1.2 11)  r3 h4) g_L_196 ⟨rfl, hd_X7_play⟩ ⟨by decide, by decide⟩ ⟨rfl, rfl⟩ (x_inO (by decide)) rfl rfl rfl rfl hl.1 rfl (Nat.le_of_ble_eq_true rfl) dL_law_1114 hf1) (fun H locs hI => ?_)
  obtain ⟨τ5, e6⟩ : ∃ z : x_S, z = (x_sh r1.2 11 r3.2) := ⟨_, rfl⟩
  rw [← e6] at hI
  have h := x_let_at h e6
  refine lv_istore (lv' := [(6, .int r3.1), (5, .int r1.1), (0, .ref b), (1, .ref (X.2.2 10 32)), (2, .ref (X.2.2 11 40)), (3, .ref (X.2.2 12 48)), (4, .int i)]) hx hb dL_law_1117 hl (by decide) rfl (fun ls hl => ?_)
  refine lv_aload_n hx hb dL_law_1119 rfl (lv_at hl 4 rfl) ?_
  obtain ⟨r7, h8, h⟩ := x_bnd h
  have hI := x_toH 11 hI
  refine x_aci hI (x_runV (rest := []) F hI (mX7_thrown l X τ5 _ (τ5 11)  r7 h8) g_L_138 ⟨rfl, hd_X7_thrown⟩ ⟨by decide, by decide⟩ ⟨rfl, rfl⟩ (x_inO (by decide)) rfl rfl rfl rfl hl.1 rfl (Nat.le_of_ble_eq_true rfl) dL_law_1120 hf1) (fun H locs hI => ?_)
  rw [x_sh_self] at hI
  refine lv_iload hx hb dL_law_1123 (lv_at hl 1 rfl) ?_
  refine lv_icmp_eq (tgt := 1130) hx hb dL_law_1125 (by decide) (fun c9 => ?_) (fun c9 => ?_)
  · have h := x_ift h c9
    refine lv_iload hx hb dL_law_1130 (lv_at hl 1 rfl) ?_
    refine lv_if_ne (tgt := 1147) hx hb dL_law_1132 (by decide) (fun c10 => ?_) (fun c10 => ?_)
    · have h := x_iff h c10
      refine lv_goto (tgt := 2520) hx hb dL_law_1147 (by decide) ?_
      rw [x_some h] at kk
      exact W.widen (by omega) (by omega) (kk H locs ls hI (lv_sub hl [2, 3, 4, 5, 6] rfl))
    · have h := x_ift h c10
      refine lv_aload_n hx hb dL_law_1135 rfl (lv_at hl 5 rfl) ?_
      refine lv_iconst (v := 0) hx hb dL_law_1136 (by decide) ?_
      refine x_lald F hI (by decide) dL_law_1137 ?_
      refine lv_iload hx hb dL_law_1138 (lv_at hl 0 rfl) ?_
      refine lv_i2l hx hb dL_law_1140 rfl ?_
      refine W.lcmp hx hb dL_law_1141 ?_
      refine lv_if_eq (tgt := 1147) hx hb dL_law_1142 (by decide) (fun c11 => ?_) (fun c11 => ?_)
      · have h := x_ift h c11
        refine lv_goto (tgt := 2520) hx hb dL_law_1147 (by decide) ?_
        rw [x_some h] at kk
        exact W.widen (by omega) (by omega) (kk H locs ls hI (lv_sub hl [2, 3, 4, 5, 6] rfl))
      · have h := x_iff h c11
        refine lv_iconst (v := 0) hx hb dL_law_1145 (by decide) ?_
        cases h
  · have h := x_iff h c9
    refine lv_iconst (v := 0) hx hb dL_law_1128 (by decide) ?_
    cases h
def gL_18 (σ : x_S) (a1 a2 : Int32) : Option x_S := (Option.bind (fL_keep σ a1) fun r1 => (Option.bind (fX7_keep (r1.2 11) a1) fun r3 => x_let (x_sh r1.2 11 r3) fun τ5 => (Option.bind (fX7_thrown (τ5 11) ) fun r7 => (if r7 = r1.1 then some τ5 else none))))
set_option maxHeartbeats 4000000 in
set_option maxRecDepth 100000 in
theorem wL_18 {p : Program} {l : Launch} {e : Env} {s : State} {m : MethodId} {below : List Frame} {meth : Method} {c : Code} {H : Heap} {locs : List Loc} {cells slots : Nat} {Q : State → Prop} {X : x_T} {σ : x_S} {b L : Nat} {xs : Nat → Int32} {ls : Array Slot} {i a1 a2 : Int32} {r : x_S} (FF : xw_F p l s m meth c b L xs X) (hi1 : x_in (i + (1 : Int32)) L) (hi2 : x_in (i + (2 : Int32)) L) (he1 : xs (i + (1 : Int32)).toNatClampNeg = a1) (he2 : xs (i + (2 : Int32)).toNatClampNeg = a2) (hf0 : cells ≤ room_1.cells ∧ slots ≤ room_1.slots) (hf1 : cells + 1 ≤ room_1.cells ∧ slots + 6 ≤ room_1.slots) (h : gL_18 σ a1 a2 = some r) (hI : x_I X σ s H locs) (hl : lv_has ls 9 (xw_lv X b i)) (kk : ∀ (H1 : Heap) (locs1 : List Loc) (ls1 : Array Slot), x_I X r s H1 locs1 → lv_has ls1 9 (xw_lv X b i) → W p l e room_1 s m #[Value.ref b] below meth c H1 locs1 (cells + 1) (slots + 6) Q (F0 m 2520 ls1 [])) : W p l e room_1 s m #[Value.ref b] below meth c H locs cells slots Q (F0 m 1150 ls []) := by
  have F := FF.1
  have Z := FF.2.2.1
  have hx := F.1
  have hb := F.2.1
  have hml := F.2.2.1
  have hown := F.2.2.2.1
  have hts := F.2.2.2.2.1
  unfold gL_18 at h
  refine lv_aload_n hx hb dL_law_1150 rfl (lv_at hl 1 rfl) ?_
  refine lv_aload_n hx hb dL_law_1151 rfl (lv_at hl 0 rfl) ?_
  refine lv_iload hx hb dL_law_1152 (lv_at hl 4 rfl) ?_
  refine lv_iconst (v := 1) hx hb dL_law_1154 (by decide) ?_
  refine lv_iadd hx hb dL_law_1155 ?_
  refine xw_sld FF hI hi1 he1 dL_law_1156 ?_
  obtain ⟨r1, h2, h⟩ := x_bnd h
  refine xw_aci hI (xw_run (rest := []) F Z hI (mL_keep l FF.2.1 X _ σ a1 r1 h2) gw_L_197 hd_L_keep ⟨by decide, by decide⟩ ⟨rfl, rfl⟩ rfl hl.1 rfl (Nat.le_of_ble_eq_true rfl) dL_law_1157 hf1) (fun H locs hI => ?_)
  refine lv_istore (lv' := [(5, .int r1.1), (0, .ref b), (1, .ref (X.2.2 10 32)), (2, .ref (X.2.2 11 40)), (3, .ref (X.2.2 12 48)), (4, .int i)]) hx hb dL_law_1160 hl (by decide) rfl (fun ls hl => ?_)
  refine lv_aload_n hx hb dL_law_1162 rfl (lv_at hl 3 rfl) ?_
  refine lv_aload_n hx hb dL_law_1163 rfl (lv_at hl 1 rfl) ?_
  refine lv_iload hx hb dL_law_1164 (lv_at hl 5 rfl) ?_
  refine lv_iconst (v := 1) hx hb dL_law_1166 (by decide) ?_
  refine lv_iadd hx hb dL_law_1167 ?_
  refine xw_sld FF hI hi1 he1 dL_law_1168 ?_
  obtain ⟨r3, h4, h⟩ := x_bnd h
  have hI := x_toH 11 hI
  refine x_acv hI (x_runV (rest := []) F hI (mX7_keep l X r1.2 _ (r1.2 11) a1 r3 h4) g_L_200 ⟨rfl, hd_X7_keep⟩ ⟨by decide, by decide⟩ ⟨rfl, rfl⟩ (x_inO (by decide)) rfl rfl rfl rfl hl.1 rfl (Nat.le_of_ble_eq_true rfl) dL_law_1169 hf1) (fun H locs hI => ?_)
  obtain ⟨τ5, e6⟩ : ∃ z : x_S, z = (x_sh r1.2 11 r3) := ⟨_, rfl⟩
  rw [← e6] at hI
  have h := x_let_at h e6
  refine lv_aload_n hx hb dL_law_1172 rfl (lv_at hl 3 rfl) ?_
  obtain ⟨r7, h8, h⟩ := x_bnd h
  have hI := x_toH 11 hI
  refine x_aci hI (x_runV (rest := []) F hI (mX7_thrown l X τ5 _ (τ5 11)  r7 h8) g_L_138 ⟨rfl, hd_X7_thrown⟩ ⟨by decide, by decide⟩ ⟨rfl, rfl⟩ (x_inO (by decide)) rfl rfl rfl rfl hl.1 rfl (Nat.le_of_ble_eq_true rfl) dL_law_1173 hf1) (fun H locs hI => ?_)
  rw [x_sh_self] at hI
  refine lv_iload hx hb dL_law_1176 (lv_at hl 0 rfl) ?_
  refine lv_icmp_eq (tgt := 1183) hx hb dL_law_1178 (by decide) (fun c9 => ?_) (fun c9 => ?_)
  · have h := x_ift h c9
    refine lv_goto (tgt := 2520) hx hb dL_law_1183 (by decide) ?_
    rw [x_some h] at kk
    exact W.widen (by omega) (by omega) (kk H locs ls hI (lv_sub hl [1, 2, 3, 4, 5] rfl))
  · have h := x_iff h c9
    refine lv_iconst (v := 0) hx hb dL_law_1181 (by decide) ?_
    cases h
def gL_19 (σ : x_S) (a1 a2 : Int32) : Option x_S := (Option.bind (fL_goBack σ a1) fun r1 => (Option.bind (fX7_goBack (r1.2 11) a1) fun r3 => x_let (x_sh r1.2 11 r3) fun τ5 => (Option.bind (fX7_thrown (τ5 11) ) fun r7 => (if r7 = r1.1 then some τ5 else none))))
set_option maxHeartbeats 4000000 in
set_option maxRecDepth 100000 in
theorem wL_19 {p : Program} {l : Launch} {e : Env} {s : State} {m : MethodId} {below : List Frame} {meth : Method} {c : Code} {H : Heap} {locs : List Loc} {cells slots : Nat} {Q : State → Prop} {X : x_T} {σ : x_S} {b L : Nat} {xs : Nat → Int32} {ls : Array Slot} {i a1 a2 : Int32} {r : x_S} (FF : xw_F p l s m meth c b L xs X) (hi1 : x_in (i + (1 : Int32)) L) (hi2 : x_in (i + (2 : Int32)) L) (he1 : xs (i + (1 : Int32)).toNatClampNeg = a1) (he2 : xs (i + (2 : Int32)).toNatClampNeg = a2) (hf0 : cells ≤ room_1.cells ∧ slots ≤ room_1.slots) (hf1 : cells + 1 ≤ room_1.cells ∧ slots + 6 ≤ room_1.slots) (h : gL_19 σ a1 a2 = some r) (hI : x_I X σ s H locs) (hl : lv_has ls 9 (xw_lv X b i)) (kk : ∀ (H1 : Heap) (locs1 : List Loc) (ls1 : Array Slot), x_I X r s H1 locs1 → lv_has ls1 9 (xw_lv X b i) → W p l e room_1 s m #[Value.ref b] below meth c H1 locs1 (cells + 1) (slots + 6) Q (F0 m 2520 ls1 [])) : W p l e room_1 s m #[Value.ref b] below meth c H locs cells slots Q (F0 m 1186 ls []) := by
  have F := FF.1
  have Z := FF.2.2.1
  have hx := F.1
  have hb := F.2.1
  have hml := F.2.2.1
  have hown := F.2.2.2.1
  have hts := F.2.2.2.2.1
  unfold gL_19 at h
  refine lv_aload_n hx hb dL_law_1186 rfl (lv_at hl 1 rfl) ?_
  refine lv_aload_n hx hb dL_law_1187 rfl (lv_at hl 0 rfl) ?_
  refine lv_iload hx hb dL_law_1188 (lv_at hl 4 rfl) ?_
  refine lv_iconst (v := 1) hx hb dL_law_1190 (by decide) ?_
  refine lv_iadd hx hb dL_law_1191 ?_
  refine xw_sld FF hI hi1 he1 dL_law_1192 ?_
  obtain ⟨r1, h2, h⟩ := x_bnd h
  refine xw_aci hI (xw_run (rest := []) F Z hI (mL_goBack l FF.2.1 X _ σ a1 r1 h2) gw_L_201 hd_L_goBack ⟨by decide, by decide⟩ ⟨rfl, rfl⟩ rfl hl.1 rfl (Nat.le_of_ble_eq_true rfl) dL_law_1193 hf1) (fun H locs hI => ?_)
  refine lv_istore (lv' := [(5, .int r1.1), (0, .ref b), (1, .ref (X.2.2 10 32)), (2, .ref (X.2.2 11 40)), (3, .ref (X.2.2 12 48)), (4, .int i)]) hx hb dL_law_1196 hl (by decide) rfl (fun ls hl => ?_)
  refine lv_aload_n hx hb dL_law_1198 rfl (lv_at hl 3 rfl) ?_
  refine lv_aload_n hx hb dL_law_1199 rfl (lv_at hl 1 rfl) ?_
  refine lv_iload hx hb dL_law_1200 (lv_at hl 5 rfl) ?_
  refine lv_iconst (v := 1) hx hb dL_law_1202 (by decide) ?_
  refine lv_iadd hx hb dL_law_1203 ?_
  refine xw_sld FF hI hi1 he1 dL_law_1204 ?_
  obtain ⟨r3, h4, h⟩ := x_bnd h
  have hI := x_toH 11 hI
  refine x_acv hI (x_runV (rest := []) F hI (mX7_goBack l X r1.2 _ (r1.2 11) a1 r3 h4) g_L_203 ⟨rfl, hd_X7_goBack⟩ ⟨by decide, by decide⟩ ⟨rfl, rfl⟩ (x_inO (by decide)) rfl rfl rfl rfl hl.1 rfl (Nat.le_of_ble_eq_true rfl) dL_law_1205 hf1) (fun H locs hI => ?_)
  obtain ⟨τ5, e6⟩ : ∃ z : x_S, z = (x_sh r1.2 11 r3) := ⟨_, rfl⟩
  rw [← e6] at hI
  have h := x_let_at h e6
  refine lv_aload_n hx hb dL_law_1208 rfl (lv_at hl 3 rfl) ?_
  obtain ⟨r7, h8, h⟩ := x_bnd h
  have hI := x_toH 11 hI
  refine x_aci hI (x_runV (rest := []) F hI (mX7_thrown l X τ5 _ (τ5 11)  r7 h8) g_L_138 ⟨rfl, hd_X7_thrown⟩ ⟨by decide, by decide⟩ ⟨rfl, rfl⟩ (x_inO (by decide)) rfl rfl rfl rfl hl.1 rfl (Nat.le_of_ble_eq_true rfl) dL_law_1209 hf1) (fun H locs hI => ?_)
  rw [x_sh_self] at hI
  refine lv_iload hx hb dL_law_1212 (lv_at hl 0 rfl) ?_
  refine lv_icmp_eq (tgt := 1219) hx hb dL_law_1214 (by decide) (fun c9 => ?_) (fun c9 => ?_)
  · have h := x_ift h c9
    refine lv_goto (tgt := 2520) hx hb dL_law_1219 (by decide) ?_
    rw [x_some h] at kk
    exact W.widen (by omega) (by omega) (kk H locs ls hI (lv_sub hl [1, 2, 3, 4, 5] rfl))
  · have h := x_iff h c9
    refine lv_iconst (v := 0) hx hb dL_law_1217 (by decide) ?_
    cases h
def gL_20 (σ : x_S) (a1 a2 : Int32) : Option x_S := (Option.bind (fL_undo σ ) fun r1 => (Option.bind (fX7_undo (r1.2 11) ) fun r3 => x_let (x_sh r1.2 11 r3) fun τ5 => (Option.bind (fX7_thrown (τ5 11) ) fun r7 => (if r7 = r1.1 then some τ5 else none))))
set_option maxHeartbeats 4000000 in
set_option maxRecDepth 100000 in
theorem wL_20 {p : Program} {l : Launch} {e : Env} {s : State} {m : MethodId} {below : List Frame} {meth : Method} {c : Code} {H : Heap} {locs : List Loc} {cells slots : Nat} {Q : State → Prop} {X : x_T} {σ : x_S} {b L : Nat} {xs : Nat → Int32} {ls : Array Slot} {i a1 a2 : Int32} {r : x_S} (FF : xw_F p l s m meth c b L xs X) (hi1 : x_in (i + (1 : Int32)) L) (hi2 : x_in (i + (2 : Int32)) L) (he1 : xs (i + (1 : Int32)).toNatClampNeg = a1) (he2 : xs (i + (2 : Int32)).toNatClampNeg = a2) (hf0 : cells ≤ room_1.cells ∧ slots ≤ room_1.slots) (hf1 : cells + 1 ≤ room_1.cells ∧ slots + 6 ≤ room_1.slots) (h : gL_20 σ a1 a2 = some r) (hI : x_I X σ s H locs) (hl : lv_has ls 9 (xw_lv X b i)) (kk : ∀ (H1 : Heap) (locs1 : List Loc) (ls1 : Array Slot), x_I X r s H1 locs1 → lv_has ls1 9 (xw_lv X b i) → W p l e room_1 s m #[Value.ref b] below meth c H1 locs1 (cells + 1) (slots + 6) Q (F0 m 2520 ls1 [])) : W p l e room_1 s m #[Value.ref b] below meth c H locs cells slots Q (F0 m 1222 ls []) := by
  have F := FF.1
  have Z := FF.2.2.1
  have hx := F.1
  have hb := F.2.1
  have hml := F.2.2.1
  have hown := F.2.2.2.1
  have hts := F.2.2.2.2.1
  unfold gL_20 at h
  refine lv_aload_n hx hb dL_law_1222 rfl (lv_at hl 1 rfl) ?_
  obtain ⟨r1, h2, h⟩ := x_bnd h
  refine xw_aci hI (xw_run (rest := []) F Z hI (mL_undo l FF.2.1 X _ σ  r1 h2) gw_L_204 hd_L_undo ⟨by decide, by decide⟩ ⟨rfl, rfl⟩ rfl hl.1 rfl (Nat.le_of_ble_eq_true rfl) dL_law_1223 hf1) (fun H locs hI => ?_)
  refine lv_istore (lv' := [(5, .int r1.1), (0, .ref b), (1, .ref (X.2.2 10 32)), (2, .ref (X.2.2 11 40)), (3, .ref (X.2.2 12 48)), (4, .int i)]) hx hb dL_law_1226 hl (by decide) rfl (fun ls hl => ?_)
  refine lv_aload_n hx hb dL_law_1228 rfl (lv_at hl 3 rfl) ?_
  obtain ⟨r3, h4, h⟩ := x_bnd h
  have hI := x_toH 11 hI
  refine x_acv hI (x_runV (rest := []) F hI (mX7_undo l X r1.2 _ (r1.2 11)  r3 h4) g_L_207 ⟨rfl, hd_X7_undo⟩ ⟨by decide, by decide⟩ ⟨rfl, rfl⟩ (x_inO (by decide)) rfl rfl rfl rfl hl.1 rfl (Nat.le_of_ble_eq_true rfl) dL_law_1229 hf1) (fun H locs hI => ?_)
  obtain ⟨τ5, e6⟩ : ∃ z : x_S, z = (x_sh r1.2 11 r3) := ⟨_, rfl⟩
  rw [← e6] at hI
  have h := x_let_at h e6
  refine lv_aload_n hx hb dL_law_1232 rfl (lv_at hl 3 rfl) ?_
  obtain ⟨r7, h8, h⟩ := x_bnd h
  have hI := x_toH 11 hI
  refine x_aci hI (x_runV (rest := []) F hI (mX7_thrown l X τ5 _ (τ5 11)  r7 h8) g_L_138 ⟨rfl, hd_X7_thrown⟩ ⟨by decide, by decide⟩ ⟨rfl, rfl⟩ (x_inO (by decide)) rfl rfl rfl rfl hl.1 rfl (Nat.le_of_ble_eq_true rfl) dL_law_1233 hf1) (fun H locs hI => ?_)
  rw [x_sh_self] at hI
  refine lv_iload hx hb dL_law_1236 (lv_at hl 0 rfl) ?_
  refine lv_icmp_eq (tgt := 1243) hx hb dL_law_1238 (by decide) (fun c9 => ?_) (fun c9 => ?_)
  · have h := x_ift h c9
    refine lv_goto (tgt := 2520) hx hb dL_law_1243 (by decide) ?_
    rw [x_some h] at kk
    exact W.widen (by omega) (by omega) (kk H locs ls hI (lv_sub hl [1, 2, 3, 4, 5] rfl))
  · have h := x_iff h c9
    refine lv_iconst (v := 0) hx hb dL_law_1241 (by decide) ?_
    cases h
def gL_21 (σ : x_S) (a1 a2 : Int32) : Option x_S := (Option.bind (fX6_savedStates σ ) fun r1 => (Option.bind (fX7_savedStates (σ 11) ) fun r3 => x_let (x_sh σ 11 r3.2) fun τ5 => (if r1 = r3.1 then some τ5 else none)))
set_option maxHeartbeats 4000000 in
set_option maxRecDepth 100000 in
theorem wL_21 {p : Program} {l : Launch} {e : Env} {s : State} {m : MethodId} {below : List Frame} {meth : Method} {c : Code} {H : Heap} {locs : List Loc} {cells slots : Nat} {Q : State → Prop} {X : x_T} {σ : x_S} {b L : Nat} {xs : Nat → Int32} {ls : Array Slot} {i a1 a2 : Int32} {r : x_S} (FF : xw_F p l s m meth c b L xs X) (hi1 : x_in (i + (1 : Int32)) L) (hi2 : x_in (i + (2 : Int32)) L) (he1 : xs (i + (1 : Int32)).toNatClampNeg = a1) (he2 : xs (i + (2 : Int32)).toNatClampNeg = a2) (hf0 : cells ≤ room_1.cells ∧ slots ≤ room_1.slots) (hf1 : cells + 1 ≤ room_1.cells ∧ slots + 6 ≤ room_1.slots) (h : gL_21 σ a1 a2 = some r) (hI : x_I X σ s H locs) (hl : lv_has ls 9 (xw_lv X b i)) (kk : ∀ (H1 : Heap) (locs1 : List Loc) (ls1 : Array Slot), x_I X r s H1 locs1 → lv_has ls1 9 (xw_lv X b i) → W p l e room_1 s m #[Value.ref b] below meth c H1 locs1 (cells + 1) (slots + 6) Q (F0 m 2520 ls1 [])) : W p l e room_1 s m #[Value.ref b] below meth c H locs cells slots Q (F0 m 1246 ls []) := by
  have F := FF.1
  have Z := FF.2.2.1
  have hx := F.1
  have hb := F.2.1
  have hml := F.2.2.1
  have hown := F.2.2.2.1
  have hts := F.2.2.2.2.1
  unfold gL_21 at h
  refine lv_aload_n hx hb dL_law_1246 rfl (lv_at hl 1 rfl) ?_
  obtain ⟨r1, h2, h⟩ := x_bnd h
  refine x_aci hI (x_runV (rest := []) F hI (mX6_savedStates l X _ σ  r1 h2) g_L_208 ⟨rfl, hd_X6_savedStates⟩ ⟨by decide, by decide⟩ ⟨rfl, rfl⟩ (x_inO (by decide)) rfl rfl rfl rfl hl.1 rfl (Nat.le_of_ble_eq_true rfl) dL_law_1247 hf0) (fun H locs hI => ?_)
  refine lv_aload_n hx hb dL_law_1250 rfl (lv_at hl 2 rfl) ?_
  obtain ⟨r3, h4, h⟩ := x_bnd h
  have hI := x_toH 11 hI
  refine x_aci hI (x_runV (rest := [.int r1]) F hI (mX7_savedStates l X σ _ (σ 11)  r3 h4) g_L_211 ⟨rfl, hd_X7_savedStates⟩ ⟨by decide, by decide⟩ ⟨rfl, rfl⟩ (x_inO (by decide)) rfl rfl rfl rfl hl.1 rfl (Nat.le_of_ble_eq_true rfl) dL_law_1251 hf0) (fun H locs hI => ?_)
  obtain ⟨τ5, e6⟩ : ∃ z : x_S, z = (x_sh σ 11 r3.2) := ⟨_, rfl⟩
  rw [← e6] at hI
  have h := x_let_at h e6
  refine lv_icmp_eq (tgt := 2520) hx hb dL_law_1254 (by decide) (fun c7 => ?_) (fun c7 => ?_)
  · have h := x_ift h c7
    rw [x_some h] at kk
    exact W.widen (by omega) (by omega) (kk H locs ls hI (lv_sub hl [0, 1, 2, 3, 4] rfl))
  · have h := x_iff h c7
    refine lv_iconst (v := 0) hx hb dL_law_1257 (by decide) ?_
    cases h
def gL_22 (σ : x_S) (a1 a2 : Int32) : Option x_S := (Option.bind (fL_doingOf σ a1) fun r1 => (Option.bind (fX7_doingOf (r1.2 11) a1) fun r3 => x_let (x_sh r1.2 11 r3.2) fun τ5 => (Option.bind (fX7_thrown (τ5 11) ) fun r7 => (if r7 = r1.1 then (if r1.1 = 0 then (if (lg_cmp (τ5 12 48 (Int32.toNatClampNeg (0 : Int32))).toInt64 (r3.1).toInt64) = 0 then some τ5 else none) else some τ5) else none))))
set_option maxHeartbeats 4000000 in
set_option maxRecDepth 100000 in
theorem wL_22 {p : Program} {l : Launch} {e : Env} {s : State} {m : MethodId} {below : List Frame} {meth : Method} {c : Code} {H : Heap} {locs : List Loc} {cells slots : Nat} {Q : State → Prop} {X : x_T} {σ : x_S} {b L : Nat} {xs : Nat → Int32} {ls : Array Slot} {i a1 a2 : Int32} {r : x_S} (FF : xw_F p l s m meth c b L xs X) (hi1 : x_in (i + (1 : Int32)) L) (hi2 : x_in (i + (2 : Int32)) L) (he1 : xs (i + (1 : Int32)).toNatClampNeg = a1) (he2 : xs (i + (2 : Int32)).toNatClampNeg = a2) (hf0 : cells ≤ room_1.cells ∧ slots ≤ room_1.slots) (hf1 : cells + 1 ≤ room_1.cells ∧ slots + 6 ≤ room_1.slots) (h : gL_22 σ a1 a2 = some r) (hI : x_I X σ s H locs) (hl : lv_has ls 9 (xw_lv X b i)) (kk : ∀ (H1 : Heap) (locs1 : List Loc) (ls1 : Array Slot), x_I X r s H1 locs1 → lv_has ls1 9 (xw_lv X b i) → W p l e room_1 s m #[Value.ref b] below meth c H1 locs1 (cells + 1) (slots + 6) Q (F0 m 2520 ls1 [])) : W p l e room_1 s m #[Value.ref b] below meth c H locs cells slots Q (F0 m 1259 ls []) := by
  have F := FF.1
  have Z := FF.2.2.1
  have hx := F.1
  have hb := F.2.1
  have hml := F.2.2.1
  have hown := F.2.2.2.1
  have hts := F.2.2.2.2.1
  unfold gL_22 at h
  refine lv_aload_n hx hb dL_law_1259 rfl (lv_at hl 1 rfl) ?_
  refine lv_aload_n hx hb dL_law_1260 rfl (lv_at hl 0 rfl) ?_
  refine lv_iload hx hb dL_law_1261 (lv_at hl 4 rfl) ?_
  refine lv_iconst (v := 1) hx hb dL_law_1263 (by decide) ?_
  refine lv_iadd hx hb dL_law_1264 ?_
  refine xw_sld FF hI hi1 he1 dL_law_1265 ?_
  refine lv_aload_n hx hb dL_law_1266 rfl (lv_at hl 3 rfl) ?_
  obtain ⟨r1, h2, h⟩ := x_bnd h
  refine xw_aci hI (xw_run (rest := []) F Z hI (mL_doingOf l FF.2.1 X _ σ a1 r1 h2) gw_L_212 hd_L_doingOf ⟨by decide, by decide⟩ ⟨rfl, rfl⟩ rfl hl.1 rfl (Nat.le_of_ble_eq_true rfl) dL_law_1267 hf1) (fun H locs hI => ?_)
  refine lv_istore (lv' := [(5, .int r1.1), (0, .ref b), (1, .ref (X.2.2 10 32)), (2, .ref (X.2.2 11 40)), (3, .ref (X.2.2 12 48)), (4, .int i)]) hx hb dL_law_1270 hl (by decide) rfl (fun ls hl => ?_)
  refine lv_aload_n hx hb dL_law_1272 rfl (lv_at hl 3 rfl) ?_
  refine lv_aload_n hx hb dL_law_1273 rfl (lv_at hl 1 rfl) ?_
  refine lv_iload hx hb dL_law_1274 (lv_at hl 5 rfl) ?_
  refine lv_iconst (v := 1) hx hb dL_law_1276 (by decide) ?_
  refine lv_iadd hx hb dL_law_1277 ?_
  refine xw_sld FF hI hi1 he1 dL_law_1278 ?_
  obtain ⟨r3, h4, h⟩ := x_bnd h
  have hI := x_toH 11 hI
  refine x_aci hI (x_runV (rest := []) F hI (mX7_doingOf l X r1.2 _ (r1.2 11) a1 r3 h4) g_L_214 ⟨rfl, hd_X7_doingOf⟩ ⟨by decide, by decide⟩ ⟨rfl, rfl⟩ (x_inO (by decide)) rfl rfl rfl rfl hl.1 rfl (Nat.le_of_ble_eq_true rfl) dL_law_1279 hf1) (fun H locs hI => ?_)
  obtain ⟨τ5, e6⟩ : ∃ z : x_S, z = (x_sh r1.2 11 r3.2) := ⟨_, rfl⟩
  rw [← e6] at hI
  have h := x_let_at h e6
  refine lv_istore (lv' := [(6, .int r3.1), (5, .int r1.1), (0, .ref b), (1, .ref (X.2.2 10 32)), (2, .ref (X.2.2 11 40)), (3, .ref (X.2.2 12 48)), (4, .int i)]) hx hb dL_law_1282 hl (by decide) rfl (fun ls hl => ?_)
  refine lv_aload_n hx hb dL_law_1284 rfl (lv_at hl 4 rfl) ?_
  obtain ⟨r7, h8, h⟩ := x_bnd h
  have hI := x_toH 11 hI
  refine x_aci hI (x_runV (rest := []) F hI (mX7_thrown l X τ5 _ (τ5 11)  r7 h8) g_L_138 ⟨rfl, hd_X7_thrown⟩ ⟨by decide, by decide⟩ ⟨rfl, rfl⟩ (x_inO (by decide)) rfl rfl rfl rfl hl.1 rfl (Nat.le_of_ble_eq_true rfl) dL_law_1285 hf1) (fun H locs hI => ?_)
  rw [x_sh_self] at hI
  refine lv_iload hx hb dL_law_1288 (lv_at hl 1 rfl) ?_
  refine lv_icmp_eq (tgt := 1295) hx hb dL_law_1290 (by decide) (fun c9 => ?_) (fun c9 => ?_)
  · have h := x_ift h c9
    refine lv_iload hx hb dL_law_1295 (lv_at hl 1 rfl) ?_
    refine lv_if_ne (tgt := 1312) hx hb dL_law_1297 (by decide) (fun c10 => ?_) (fun c10 => ?_)
    · have h := x_iff h c10
      refine lv_goto (tgt := 2520) hx hb dL_law_1312 (by decide) ?_
      rw [x_some h] at kk
      exact W.widen (by omega) (by omega) (kk H locs ls hI (lv_sub hl [2, 3, 4, 5, 6] rfl))
    · have h := x_ift h c10
      refine lv_aload_n hx hb dL_law_1300 rfl (lv_at hl 5 rfl) ?_
      refine lv_iconst (v := 0) hx hb dL_law_1301 (by decide) ?_
      refine x_lald F hI (by decide) dL_law_1302 ?_
      refine lv_iload hx hb dL_law_1303 (lv_at hl 0 rfl) ?_
      refine lv_i2l hx hb dL_law_1305 rfl ?_
      refine W.lcmp hx hb dL_law_1306 ?_
      refine lv_if_eq (tgt := 1312) hx hb dL_law_1307 (by decide) (fun c11 => ?_) (fun c11 => ?_)
      · have h := x_ift h c11
        refine lv_goto (tgt := 2520) hx hb dL_law_1312 (by decide) ?_
        rw [x_some h] at kk
        exact W.widen (by omega) (by omega) (kk H locs ls hI (lv_sub hl [2, 3, 4, 5, 6] rfl))
      · have h := x_iff h c11
        refine lv_iconst (v := 0) hx hb dL_law_1310 (by decide) ?_
        cases h
  · have h := x_iff h c9
    refine lv_iconst (v := 0) hx hb dL_law_1293 (by decide) ?_
    cases h
def gL_23 (σ : x_S) (a1 a2 : Int32) : Option x_S := (Option.bind (fL_roomOf σ a1) fun r1 => (Option.bind (fX7_roomOf (r1.2 11) a1) fun r3 => x_let (x_sh r1.2 11 r3.2) fun τ5 => (Option.bind (fX7_thrown (τ5 11) ) fun r7 => (if r7 = r1.1 then (if r1.1 = 0 then (if (lg_cmp (τ5 12 48 (Int32.toNatClampNeg (0 : Int32))).toInt64 (r3.1).toInt64) = 0 then some τ5 else none) else some τ5) else none))))
set_option maxHeartbeats 4000000 in
set_option maxRecDepth 100000 in
theorem wL_23 {p : Program} {l : Launch} {e : Env} {s : State} {m : MethodId} {below : List Frame} {meth : Method} {c : Code} {H : Heap} {locs : List Loc} {cells slots : Nat} {Q : State → Prop} {X : x_T} {σ : x_S} {b L : Nat} {xs : Nat → Int32} {ls : Array Slot} {i a1 a2 : Int32} {r : x_S} (FF : xw_F p l s m meth c b L xs X) (hi1 : x_in (i + (1 : Int32)) L) (hi2 : x_in (i + (2 : Int32)) L) (he1 : xs (i + (1 : Int32)).toNatClampNeg = a1) (he2 : xs (i + (2 : Int32)).toNatClampNeg = a2) (hf0 : cells ≤ room_1.cells ∧ slots ≤ room_1.slots) (hf1 : cells + 1 ≤ room_1.cells ∧ slots + 6 ≤ room_1.slots) (h : gL_23 σ a1 a2 = some r) (hI : x_I X σ s H locs) (hl : lv_has ls 9 (xw_lv X b i)) (kk : ∀ (H1 : Heap) (locs1 : List Loc) (ls1 : Array Slot), x_I X r s H1 locs1 → lv_has ls1 9 (xw_lv X b i) → W p l e room_1 s m #[Value.ref b] below meth c H1 locs1 (cells + 1) (slots + 6) Q (F0 m 2520 ls1 [])) : W p l e room_1 s m #[Value.ref b] below meth c H locs cells slots Q (F0 m 1315 ls []) := by
  have F := FF.1
  have Z := FF.2.2.1
  have hx := F.1
  have hb := F.2.1
  have hml := F.2.2.1
  have hown := F.2.2.2.1
  have hts := F.2.2.2.2.1
  unfold gL_23 at h
  refine lv_aload_n hx hb dL_law_1315 rfl (lv_at hl 1 rfl) ?_
  refine lv_aload_n hx hb dL_law_1316 rfl (lv_at hl 0 rfl) ?_
  refine lv_iload hx hb dL_law_1317 (lv_at hl 4 rfl) ?_
  refine lv_iconst (v := 1) hx hb dL_law_1319 (by decide) ?_
  refine lv_iadd hx hb dL_law_1320 ?_
  refine xw_sld FF hI hi1 he1 dL_law_1321 ?_
  refine lv_aload_n hx hb dL_law_1322 rfl (lv_at hl 3 rfl) ?_
  obtain ⟨r1, h2, h⟩ := x_bnd h
  refine xw_aci hI (xw_run (rest := []) F Z hI (mL_roomOf l FF.2.1 X _ σ a1 r1 h2) gw_L_215 hd_L_roomOf ⟨by decide, by decide⟩ ⟨rfl, rfl⟩ rfl hl.1 rfl (Nat.le_of_ble_eq_true rfl) dL_law_1323 hf1) (fun H locs hI => ?_)
  refine lv_istore (lv' := [(5, .int r1.1), (0, .ref b), (1, .ref (X.2.2 10 32)), (2, .ref (X.2.2 11 40)), (3, .ref (X.2.2 12 48)), (4, .int i)]) hx hb dL_law_1326 hl (by decide) rfl (fun ls hl => ?_)
  refine lv_aload_n hx hb dL_law_1328 rfl (lv_at hl 3 rfl) ?_
  refine lv_aload_n hx hb dL_law_1329 rfl (lv_at hl 1 rfl) ?_
  refine lv_iload hx hb dL_law_1330 (lv_at hl 5 rfl) ?_
  refine lv_iconst (v := 1) hx hb dL_law_1332 (by decide) ?_
  refine lv_iadd hx hb dL_law_1333 ?_
  refine xw_sld FF hI hi1 he1 dL_law_1334 ?_
  obtain ⟨r3, h4, h⟩ := x_bnd h
  have hI := x_toH 11 hI
  refine x_aci hI (x_runV (rest := []) F hI (mX7_roomOf l X r1.2 _ (r1.2 11) a1 r3 h4) g_L_217 ⟨rfl, hd_X7_roomOf⟩ ⟨by decide, by decide⟩ ⟨rfl, rfl⟩ (x_inO (by decide)) rfl rfl rfl rfl hl.1 rfl (Nat.le_of_ble_eq_true rfl) dL_law_1335 hf1) (fun H locs hI => ?_)
  obtain ⟨τ5, e6⟩ : ∃ z : x_S, z = (x_sh r1.2 11 r3.2) := ⟨_, rfl⟩
  rw [← e6] at hI
  have h := x_let_at h e6
  refine lv_istore (lv' := [(6, .int r3.1), (5, .int r1.1), (0, .ref b), (1, .ref (X.2.2 10 32)), (2, .ref (X.2.2 11 40)), (3, .ref (X.2.2 12 48)), (4, .int i)]) hx hb dL_law_1338 hl (by decide) rfl (fun ls hl => ?_)
  refine lv_aload_n hx hb dL_law_1340 rfl (lv_at hl 4 rfl) ?_
  obtain ⟨r7, h8, h⟩ := x_bnd h
  have hI := x_toH 11 hI
  refine x_aci hI (x_runV (rest := []) F hI (mX7_thrown l X τ5 _ (τ5 11)  r7 h8) g_L_138 ⟨rfl, hd_X7_thrown⟩ ⟨by decide, by decide⟩ ⟨rfl, rfl⟩ (x_inO (by decide)) rfl rfl rfl rfl hl.1 rfl (Nat.le_of_ble_eq_true rfl) dL_law_1341 hf1) (fun H locs hI => ?_)
  rw [x_sh_self] at hI
  refine lv_iload hx hb dL_law_1344 (lv_at hl 1 rfl) ?_
  refine lv_icmp_eq (tgt := 1351) hx hb dL_law_1346 (by decide) (fun c9 => ?_) (fun c9 => ?_)
  · have h := x_ift h c9
    refine lv_iload hx hb dL_law_1351 (lv_at hl 1 rfl) ?_
    refine lv_if_ne (tgt := 1368) hx hb dL_law_1353 (by decide) (fun c10 => ?_) (fun c10 => ?_)
    · have h := x_iff h c10
      refine lv_goto (tgt := 2520) hx hb dL_law_1368 (by decide) ?_
      rw [x_some h] at kk
      exact W.widen (by omega) (by omega) (kk H locs ls hI (lv_sub hl [2, 3, 4, 5, 6] rfl))
    · have h := x_ift h c10
      refine lv_aload_n hx hb dL_law_1356 rfl (lv_at hl 5 rfl) ?_
      refine lv_iconst (v := 0) hx hb dL_law_1357 (by decide) ?_
      refine x_lald F hI (by decide) dL_law_1358 ?_
      refine lv_iload hx hb dL_law_1359 (lv_at hl 0 rfl) ?_
      refine lv_i2l hx hb dL_law_1361 rfl ?_
      refine W.lcmp hx hb dL_law_1362 ?_
      refine lv_if_eq (tgt := 1368) hx hb dL_law_1363 (by decide) (fun c11 => ?_) (fun c11 => ?_)
      · have h := x_ift h c11
        refine lv_goto (tgt := 2520) hx hb dL_law_1368 (by decide) ?_
        rw [x_some h] at kk
        exact W.widen (by omega) (by omega) (kk H locs ls hI (lv_sub hl [2, 3, 4, 5, 6] rfl))
      · have h := x_iff h c11
        refine lv_iconst (v := 0) hx hb dL_law_1366 (by decide) ?_
        cases h
  · have h := x_iff h c9
    refine lv_iconst (v := 0) hx hb dL_law_1349 (by decide) ?_
    cases h
def gL_24 (σ : x_S) (a1 a2 : Int32) : Option x_S := (Option.bind (fL_ticksLeft σ a1) fun r1 => (Option.bind (fX7_ticksLeft (r1.2 11) a1) fun r3 => x_let (x_sh r1.2 11 r3.2) fun τ5 => (Option.bind (fX7_thrown (τ5 11) ) fun r7 => (if r7 = r1.1 then (if r1.1 = 0 then (if (lg_cmp (τ5 12 48 (Int32.toNatClampNeg (0 : Int32))).toInt64 (r3.1).toInt64) = 0 then some τ5 else none) else some τ5) else none))))
set_option maxHeartbeats 4000000 in
set_option maxRecDepth 100000 in
theorem wL_24 {p : Program} {l : Launch} {e : Env} {s : State} {m : MethodId} {below : List Frame} {meth : Method} {c : Code} {H : Heap} {locs : List Loc} {cells slots : Nat} {Q : State → Prop} {X : x_T} {σ : x_S} {b L : Nat} {xs : Nat → Int32} {ls : Array Slot} {i a1 a2 : Int32} {r : x_S} (FF : xw_F p l s m meth c b L xs X) (hi1 : x_in (i + (1 : Int32)) L) (hi2 : x_in (i + (2 : Int32)) L) (he1 : xs (i + (1 : Int32)).toNatClampNeg = a1) (he2 : xs (i + (2 : Int32)).toNatClampNeg = a2) (hf0 : cells ≤ room_1.cells ∧ slots ≤ room_1.slots) (hf1 : cells + 1 ≤ room_1.cells ∧ slots + 6 ≤ room_1.slots) (h : gL_24 σ a1 a2 = some r) (hI : x_I X σ s H locs) (hl : lv_has ls 9 (xw_lv X b i)) (kk : ∀ (H1 : Heap) (locs1 : List Loc) (ls1 : Array Slot), x_I X r s H1 locs1 → lv_has ls1 9 (xw_lv X b i) → W p l e room_1 s m #[Value.ref b] below meth c H1 locs1 (cells + 1) (slots + 6) Q (F0 m 2520 ls1 [])) : W p l e room_1 s m #[Value.ref b] below meth c H locs cells slots Q (F0 m 1371 ls []) := by
  have F := FF.1
  have Z := FF.2.2.1
  have hx := F.1
  have hb := F.2.1
  have hml := F.2.2.1
  have hown := F.2.2.2.1
  have hts := F.2.2.2.2.1
  unfold gL_24 at h
  refine lv_aload_n hx hb dL_law_1371 rfl (lv_at hl 1 rfl) ?_
  refine lv_aload_n hx hb dL_law_1372 rfl (lv_at hl 0 rfl) ?_
  refine lv_iload hx hb dL_law_1373 (lv_at hl 4 rfl) ?_
  refine lv_iconst (v := 1) hx hb dL_law_1375 (by decide) ?_
  refine lv_iadd hx hb dL_law_1376 ?_
  refine xw_sld FF hI hi1 he1 dL_law_1377 ?_
  refine lv_aload_n hx hb dL_law_1378 rfl (lv_at hl 3 rfl) ?_
  obtain ⟨r1, h2, h⟩ := x_bnd h
  refine xw_aci hI (xw_run (rest := []) F Z hI (mL_ticksLeft l FF.2.1 X _ σ a1 r1 h2) gw_L_218 hd_L_ticksLeft ⟨by decide, by decide⟩ ⟨rfl, rfl⟩ rfl hl.1 rfl (Nat.le_of_ble_eq_true rfl) dL_law_1379 hf1) (fun H locs hI => ?_)
  refine lv_istore (lv' := [(5, .int r1.1), (0, .ref b), (1, .ref (X.2.2 10 32)), (2, .ref (X.2.2 11 40)), (3, .ref (X.2.2 12 48)), (4, .int i)]) hx hb dL_law_1382 hl (by decide) rfl (fun ls hl => ?_)
  refine lv_aload_n hx hb dL_law_1384 rfl (lv_at hl 3 rfl) ?_
  refine lv_aload_n hx hb dL_law_1385 rfl (lv_at hl 1 rfl) ?_
  refine lv_iload hx hb dL_law_1386 (lv_at hl 5 rfl) ?_
  refine lv_iconst (v := 1) hx hb dL_law_1388 (by decide) ?_
  refine lv_iadd hx hb dL_law_1389 ?_
  refine xw_sld FF hI hi1 he1 dL_law_1390 ?_
  obtain ⟨r3, h4, h⟩ := x_bnd h
  have hI := x_toH 11 hI
  refine x_aci hI (x_runV (rest := []) F hI (mX7_ticksLeft l X r1.2 _ (r1.2 11) a1 r3 h4) g_L_220 ⟨rfl, hd_X7_ticksLeft⟩ ⟨by decide, by decide⟩ ⟨rfl, rfl⟩ (x_inO (by decide)) rfl rfl rfl rfl hl.1 rfl (Nat.le_of_ble_eq_true rfl) dL_law_1391 hf1) (fun H locs hI => ?_)
  obtain ⟨τ5, e6⟩ : ∃ z : x_S, z = (x_sh r1.2 11 r3.2) := ⟨_, rfl⟩
  rw [← e6] at hI
  have h := x_let_at h e6
  refine lv_istore (lv' := [(6, .int r3.1), (5, .int r1.1), (0, .ref b), (1, .ref (X.2.2 10 32)), (2, .ref (X.2.2 11 40)), (3, .ref (X.2.2 12 48)), (4, .int i)]) hx hb dL_law_1394 hl (by decide) rfl (fun ls hl => ?_)
  refine lv_aload_n hx hb dL_law_1396 rfl (lv_at hl 4 rfl) ?_
  obtain ⟨r7, h8, h⟩ := x_bnd h
  have hI := x_toH 11 hI
  refine x_aci hI (x_runV (rest := []) F hI (mX7_thrown l X τ5 _ (τ5 11)  r7 h8) g_L_138 ⟨rfl, hd_X7_thrown⟩ ⟨by decide, by decide⟩ ⟨rfl, rfl⟩ (x_inO (by decide)) rfl rfl rfl rfl hl.1 rfl (Nat.le_of_ble_eq_true rfl) dL_law_1397 hf1) (fun H locs hI => ?_)
  rw [x_sh_self] at hI
  refine lv_iload hx hb dL_law_1400 (lv_at hl 1 rfl) ?_
  refine lv_icmp_eq (tgt := 1407) hx hb dL_law_1402 (by decide) (fun c9 => ?_) (fun c9 => ?_)
  · have h := x_ift h c9
    refine lv_iload hx hb dL_law_1407 (lv_at hl 1 rfl) ?_
    refine lv_if_ne (tgt := 1424) hx hb dL_law_1409 (by decide) (fun c10 => ?_) (fun c10 => ?_)
    · have h := x_iff h c10
      refine lv_goto (tgt := 2520) hx hb dL_law_1424 (by decide) ?_
      rw [x_some h] at kk
      exact W.widen (by omega) (by omega) (kk H locs ls hI (lv_sub hl [2, 3, 4, 5, 6] rfl))
    · have h := x_ift h c10
      refine lv_aload_n hx hb dL_law_1412 rfl (lv_at hl 5 rfl) ?_
      refine lv_iconst (v := 0) hx hb dL_law_1413 (by decide) ?_
      refine x_lald F hI (by decide) dL_law_1414 ?_
      refine lv_iload hx hb dL_law_1415 (lv_at hl 0 rfl) ?_
      refine lv_i2l hx hb dL_law_1417 rfl ?_
      refine W.lcmp hx hb dL_law_1418 ?_
      refine lv_if_eq (tgt := 1424) hx hb dL_law_1419 (by decide) (fun c11 => ?_) (fun c11 => ?_)
      · have h := x_ift h c11
        refine lv_goto (tgt := 2520) hx hb dL_law_1424 (by decide) ?_
        rw [x_some h] at kk
        exact W.widen (by omega) (by omega) (kk H locs ls hI (lv_sub hl [2, 3, 4, 5, 6] rfl))
      · have h := x_iff h c11
        refine lv_iconst (v := 0) hx hb dL_law_1422 (by decide) ?_
        cases h
  · have h := x_iff h c9
    refine lv_iconst (v := 0) hx hb dL_law_1405 (by decide) ?_
    cases h
def gL_25 (σ : x_S) (a1 a2 : Int32) : Option x_S := (Option.bind (fL_ticksToRenewal σ a1) fun r1 => (Option.bind (fX7_ticksToRenewal (r1.2 11) a1) fun r3 => x_let (x_sh r1.2 11 r3.2) fun τ5 => (Option.bind (fX7_thrown (τ5 11) ) fun r7 => (if r7 = r1.1 then (if r1.1 = 0 then (if (lg_cmp (τ5 12 48 (Int32.toNatClampNeg (0 : Int32))).toInt64 (r3.1).toInt64) = 0 then some τ5 else none) else some τ5) else none))))
set_option maxHeartbeats 4000000 in
set_option maxRecDepth 100000 in
theorem wL_25 {p : Program} {l : Launch} {e : Env} {s : State} {m : MethodId} {below : List Frame} {meth : Method} {c : Code} {H : Heap} {locs : List Loc} {cells slots : Nat} {Q : State → Prop} {X : x_T} {σ : x_S} {b L : Nat} {xs : Nat → Int32} {ls : Array Slot} {i a1 a2 : Int32} {r : x_S} (FF : xw_F p l s m meth c b L xs X) (hi1 : x_in (i + (1 : Int32)) L) (hi2 : x_in (i + (2 : Int32)) L) (he1 : xs (i + (1 : Int32)).toNatClampNeg = a1) (he2 : xs (i + (2 : Int32)).toNatClampNeg = a2) (hf0 : cells ≤ room_1.cells ∧ slots ≤ room_1.slots) (hf1 : cells + 1 ≤ room_1.cells ∧ slots + 6 ≤ room_1.slots) (h : gL_25 σ a1 a2 = some r) (hI : x_I X σ s H locs) (hl : lv_has ls 9 (xw_lv X b i)) (kk : ∀ (H1 : Heap) (locs1 : List Loc) (ls1 : Array Slot), x_I X r s H1 locs1 → lv_has ls1 9 (xw_lv X b i) → W p l e room_1 s m #[Value.ref b] below meth c H1 locs1 (cells + 1) (slots + 6) Q (F0 m 2520 ls1 [])) : W p l e room_1 s m #[Value.ref b] below meth c H locs cells slots Q (F0 m 1427 ls []) := by
  have F := FF.1
  have Z := FF.2.2.1
  have hx := F.1
  have hb := F.2.1
  have hml := F.2.2.1
  have hown := F.2.2.2.1
  have hts := F.2.2.2.2.1
  unfold gL_25 at h
  refine lv_aload_n hx hb dL_law_1427 rfl (lv_at hl 1 rfl) ?_
  refine lv_aload_n hx hb dL_law_1428 rfl (lv_at hl 0 rfl) ?_
  refine lv_iload hx hb dL_law_1429 (lv_at hl 4 rfl) ?_
  refine lv_iconst (v := 1) hx hb dL_law_1431 (by decide) ?_
  refine lv_iadd hx hb dL_law_1432 ?_
  refine xw_sld FF hI hi1 he1 dL_law_1433 ?_
  refine lv_aload_n hx hb dL_law_1434 rfl (lv_at hl 3 rfl) ?_
  obtain ⟨r1, h2, h⟩ := x_bnd h
  refine xw_aci hI (xw_run (rest := []) F Z hI (mL_ticksToRenewal l FF.2.1 X _ σ a1 r1 h2) gw_L_221 hd_L_ticksToRenewal ⟨by decide, by decide⟩ ⟨rfl, rfl⟩ rfl hl.1 rfl (Nat.le_of_ble_eq_true rfl) dL_law_1435 hf1) (fun H locs hI => ?_)
  refine lv_istore (lv' := [(5, .int r1.1), (0, .ref b), (1, .ref (X.2.2 10 32)), (2, .ref (X.2.2 11 40)), (3, .ref (X.2.2 12 48)), (4, .int i)]) hx hb dL_law_1438 hl (by decide) rfl (fun ls hl => ?_)
  refine lv_aload_n hx hb dL_law_1440 rfl (lv_at hl 3 rfl) ?_
  refine lv_aload_n hx hb dL_law_1441 rfl (lv_at hl 1 rfl) ?_
  refine lv_iload hx hb dL_law_1442 (lv_at hl 5 rfl) ?_
  refine lv_iconst (v := 1) hx hb dL_law_1444 (by decide) ?_
  refine lv_iadd hx hb dL_law_1445 ?_
  refine xw_sld FF hI hi1 he1 dL_law_1446 ?_
  obtain ⟨r3, h4, h⟩ := x_bnd h
  have hI := x_toH 11 hI
  refine x_aci hI (x_runV (rest := []) F hI (mX7_ticksToRenewal l X r1.2 _ (r1.2 11) a1 r3 h4) g_L_223 ⟨rfl, hd_X7_ticksToRenewal⟩ ⟨by decide, by decide⟩ ⟨rfl, rfl⟩ (x_inO (by decide)) rfl rfl rfl rfl hl.1 rfl (Nat.le_of_ble_eq_true rfl) dL_law_1447 hf1) (fun H locs hI => ?_)
  obtain ⟨τ5, e6⟩ : ∃ z : x_S, z = (x_sh r1.2 11 r3.2) := ⟨_, rfl⟩
  rw [← e6] at hI
  have h := x_let_at h e6
  refine lv_istore (lv' := [(6, .int r3.1), (5, .int r1.1), (0, .ref b), (1, .ref (X.2.2 10 32)), (2, .ref (X.2.2 11 40)), (3, .ref (X.2.2 12 48)), (4, .int i)]) hx hb dL_law_1450 hl (by decide) rfl (fun ls hl => ?_)
  refine lv_aload_n hx hb dL_law_1452 rfl (lv_at hl 4 rfl) ?_
  obtain ⟨r7, h8, h⟩ := x_bnd h
  have hI := x_toH 11 hI
  refine x_aci hI (x_runV (rest := []) F hI (mX7_thrown l X τ5 _ (τ5 11)  r7 h8) g_L_138 ⟨rfl, hd_X7_thrown⟩ ⟨by decide, by decide⟩ ⟨rfl, rfl⟩ (x_inO (by decide)) rfl rfl rfl rfl hl.1 rfl (Nat.le_of_ble_eq_true rfl) dL_law_1453 hf1) (fun H locs hI => ?_)
  rw [x_sh_self] at hI
  refine lv_iload hx hb dL_law_1456 (lv_at hl 1 rfl) ?_
  refine lv_icmp_eq (tgt := 1463) hx hb dL_law_1458 (by decide) (fun c9 => ?_) (fun c9 => ?_)
  · have h := x_ift h c9
    refine lv_iload hx hb dL_law_1463 (lv_at hl 1 rfl) ?_
    refine lv_if_ne (tgt := 1480) hx hb dL_law_1465 (by decide) (fun c10 => ?_) (fun c10 => ?_)
    · have h := x_iff h c10
      refine lv_goto (tgt := 2520) hx hb dL_law_1480 (by decide) ?_
      rw [x_some h] at kk
      exact W.widen (by omega) (by omega) (kk H locs ls hI (lv_sub hl [2, 3, 4, 5, 6] rfl))
    · have h := x_ift h c10
      refine lv_aload_n hx hb dL_law_1468 rfl (lv_at hl 5 rfl) ?_
      refine lv_iconst (v := 0) hx hb dL_law_1469 (by decide) ?_
      refine x_lald F hI (by decide) dL_law_1470 ?_
      refine lv_iload hx hb dL_law_1471 (lv_at hl 0 rfl) ?_
      refine lv_i2l hx hb dL_law_1473 rfl ?_
      refine W.lcmp hx hb dL_law_1474 ?_
      refine lv_if_eq (tgt := 1480) hx hb dL_law_1475 (by decide) (fun c11 => ?_) (fun c11 => ?_)
      · have h := x_ift h c11
        refine lv_goto (tgt := 2520) hx hb dL_law_1480 (by decide) ?_
        rw [x_some h] at kk
        exact W.widen (by omega) (by omega) (kk H locs ls hI (lv_sub hl [2, 3, 4, 5, 6] rfl))
      · have h := x_iff h c11
        refine lv_iconst (v := 0) hx hb dL_law_1478 (by decide) ?_
        cases h
  · have h := x_iff h c9
    refine lv_iconst (v := 0) hx hb dL_law_1461 (by decide) ?_
    cases h
def gL_26 (σ : x_S) (a1 a2 : Int32) : Option x_S := (Option.bind (fL_isHaunted σ a1) fun r1 => (Option.bind (fX7_isHaunted (r1.2 11) a1) fun r3 => x_let (x_sh r1.2 11 r3.2) fun τ5 => (Option.bind (fX7_thrown (τ5 11) ) fun r7 => (if r7 = r1.1 then (if r1.1 = 0 then (if r3.1 = 0 then (if (lg_cmp (τ5 12 48 (Int32.toNatClampNeg (0 : Int32))).toInt64 (0 : Int64)) = 0 then some τ5 else none) else (if (lg_cmp (τ5 12 48 (Int32.toNatClampNeg (0 : Int32))).toInt64 (1 : Int64)) = 0 then some τ5 else none)) else some τ5) else none))))
set_option maxHeartbeats 4000000 in
set_option maxRecDepth 100000 in
theorem wL_26 {p : Program} {l : Launch} {e : Env} {s : State} {m : MethodId} {below : List Frame} {meth : Method} {c : Code} {H : Heap} {locs : List Loc} {cells slots : Nat} {Q : State → Prop} {X : x_T} {σ : x_S} {b L : Nat} {xs : Nat → Int32} {ls : Array Slot} {i a1 a2 : Int32} {r : x_S} (FF : xw_F p l s m meth c b L xs X) (hi1 : x_in (i + (1 : Int32)) L) (hi2 : x_in (i + (2 : Int32)) L) (he1 : xs (i + (1 : Int32)).toNatClampNeg = a1) (he2 : xs (i + (2 : Int32)).toNatClampNeg = a2) (hf0 : cells ≤ room_1.cells ∧ slots ≤ room_1.slots) (hf1 : cells + 1 ≤ room_1.cells ∧ slots + 6 ≤ room_1.slots) (h : gL_26 σ a1 a2 = some r) (hI : x_I X σ s H locs) (hl : lv_has ls 9 (xw_lv X b i)) (kk : ∀ (H1 : Heap) (locs1 : List Loc) (ls1 : Array Slot), x_I X r s H1 locs1 → lv_has ls1 9 (xw_lv X b i) → W p l e room_1 s m #[Value.ref b] below meth c H1 locs1 (cells + 1) (slots + 6) Q (F0 m 2520 ls1 [])) : W p l e room_1 s m #[Value.ref b] below meth c H locs cells slots Q (F0 m 1483 ls []) := by
  have F := FF.1
  have Z := FF.2.2.1
  have hx := F.1
  have hb := F.2.1
  have hml := F.2.2.1
  have hown := F.2.2.2.1
  have hts := F.2.2.2.2.1
  unfold gL_26 at h
  refine lv_aload_n hx hb dL_law_1483 rfl (lv_at hl 1 rfl) ?_
  refine lv_aload_n hx hb dL_law_1484 rfl (lv_at hl 0 rfl) ?_
  refine lv_iload hx hb dL_law_1485 (lv_at hl 4 rfl) ?_
  refine lv_iconst (v := 1) hx hb dL_law_1487 (by decide) ?_
  refine lv_iadd hx hb dL_law_1488 ?_
  refine xw_sld FF hI hi1 he1 dL_law_1489 ?_
  refine lv_aload_n hx hb dL_law_1490 rfl (lv_at hl 3 rfl) ?_
  obtain ⟨r1, h2, h⟩ := x_bnd h
  refine xw_aci hI (xw_run (rest := []) F Z hI (mL_isHaunted l FF.2.1 X _ σ a1 r1 h2) gw_L_224 hd_L_isHaunted ⟨by decide, by decide⟩ ⟨rfl, rfl⟩ rfl hl.1 rfl (Nat.le_of_ble_eq_true rfl) dL_law_1491 hf1) (fun H locs hI => ?_)
  refine lv_istore (lv' := [(5, .int r1.1), (0, .ref b), (1, .ref (X.2.2 10 32)), (2, .ref (X.2.2 11 40)), (3, .ref (X.2.2 12 48)), (4, .int i)]) hx hb dL_law_1494 hl (by decide) rfl (fun ls hl => ?_)
  refine lv_aload_n hx hb dL_law_1496 rfl (lv_at hl 3 rfl) ?_
  refine lv_aload_n hx hb dL_law_1497 rfl (lv_at hl 1 rfl) ?_
  refine lv_iload hx hb dL_law_1498 (lv_at hl 5 rfl) ?_
  refine lv_iconst (v := 1) hx hb dL_law_1500 (by decide) ?_
  refine lv_iadd hx hb dL_law_1501 ?_
  refine xw_sld FF hI hi1 he1 dL_law_1502 ?_
  obtain ⟨r3, h4, h⟩ := x_bnd h
  have hI := x_toH 11 hI
  refine x_aci hI (x_runV (rest := []) F hI (mX7_isHaunted l X r1.2 _ (r1.2 11) a1 r3 h4) g_L_226 ⟨rfl, hd_X7_isHaunted⟩ ⟨by decide, by decide⟩ ⟨rfl, rfl⟩ (x_inO (by decide)) rfl rfl rfl rfl hl.1 rfl (Nat.le_of_ble_eq_true rfl) dL_law_1503 hf1) (fun H locs hI => ?_)
  obtain ⟨τ5, e6⟩ : ∃ z : x_S, z = (x_sh r1.2 11 r3.2) := ⟨_, rfl⟩
  rw [← e6] at hI
  have h := x_let_at h e6
  refine lv_istore (lv' := [(6, .int r3.1), (5, .int r1.1), (0, .ref b), (1, .ref (X.2.2 10 32)), (2, .ref (X.2.2 11 40)), (3, .ref (X.2.2 12 48)), (4, .int i)]) hx hb dL_law_1506 hl (by decide) rfl (fun ls hl => ?_)
  refine lv_aload_n hx hb dL_law_1508 rfl (lv_at hl 4 rfl) ?_
  obtain ⟨r7, h8, h⟩ := x_bnd h
  have hI := x_toH 11 hI
  refine x_aci hI (x_runV (rest := []) F hI (mX7_thrown l X τ5 _ (τ5 11)  r7 h8) g_L_138 ⟨rfl, hd_X7_thrown⟩ ⟨by decide, by decide⟩ ⟨rfl, rfl⟩ (x_inO (by decide)) rfl rfl rfl rfl hl.1 rfl (Nat.le_of_ble_eq_true rfl) dL_law_1509 hf1) (fun H locs hI => ?_)
  rw [x_sh_self] at hI
  refine lv_iload hx hb dL_law_1512 (lv_at hl 1 rfl) ?_
  refine lv_icmp_eq (tgt := 1519) hx hb dL_law_1514 (by decide) (fun c9 => ?_) (fun c9 => ?_)
  · have h := x_ift h c9
    refine lv_iload hx hb dL_law_1519 (lv_at hl 1 rfl) ?_
    refine lv_if_ne (tgt := 1543) hx hb dL_law_1521 (by decide) (fun c10 => ?_) (fun c10 => ?_)
    · have h := x_iff h c10
      refine lv_goto (tgt := 2520) hx hb dL_law_1543 (by decide) ?_
      rw [x_some h] at kk
      exact W.widen (by omega) (by omega) (kk H locs ls hI (lv_sub hl [2, 3, 4, 5, 6] rfl))
    · have h := x_ift h c10
      refine lv_aload_n hx hb dL_law_1524 rfl (lv_at hl 5 rfl) ?_
      refine lv_iconst (v := 0) hx hb dL_law_1525 (by decide) ?_
      refine x_lald F hI (by decide) dL_law_1526 ?_
      refine lv_iload hx hb dL_law_1527 (lv_at hl 0 rfl) ?_
      refine lv_if_eq (tgt := 1536) hx hb dL_law_1529 (by decide) (fun c11 => ?_) (fun c11 => ?_)
      · have h := x_ift h c11
        refine lv_lconst (v := 0) hx hb dL_law_1536 (by decide) ?_
        refine W.lcmp hx hb dL_law_1537 ?_
        refine lv_if_eq (tgt := 1543) hx hb dL_law_1538 (by decide) (fun c12 => ?_) (fun c12 => ?_)
        · have h := x_ift h c12
          refine lv_goto (tgt := 2520) hx hb dL_law_1543 (by decide) ?_
          rw [x_some h] at kk
          exact W.widen (by omega) (by omega) (kk H locs ls hI (lv_sub hl [2, 3, 4, 5, 6] rfl))
        · have h := x_iff h c12
          refine lv_iconst (v := 0) hx hb dL_law_1541 (by decide) ?_
          cases h
      · have h := x_iff h c11
        refine lv_lconst (v := 1) hx hb dL_law_1532 (by decide) ?_
        refine lv_goto (tgt := 1537) hx hb dL_law_1533 (by decide) ?_
        refine W.lcmp hx hb dL_law_1537 ?_
        refine lv_if_eq (tgt := 1543) hx hb dL_law_1538 (by decide) (fun c13 => ?_) (fun c13 => ?_)
        · have h := x_ift h c13
          refine lv_goto (tgt := 2520) hx hb dL_law_1543 (by decide) ?_
          rw [x_some h] at kk
          exact W.widen (by omega) (by omega) (kk H locs ls hI (lv_sub hl [2, 3, 4, 5, 6] rfl))
        · have h := x_iff h c13
          refine lv_iconst (v := 0) hx hb dL_law_1541 (by decide) ?_
          cases h
  · have h := x_iff h c9
    refine lv_iconst (v := 0) hx hb dL_law_1517 (by decide) ?_
    cases h
def gL_27 (σ : x_S) (a1 a2 : Int32) : Option x_S := (Option.bind (fL_staysOf σ a1) fun r1 => (Option.bind (fX7_staysOf (r1.2 11) a1) fun r3 => x_let (x_sh r1.2 11 r3.2) fun τ5 => (Option.bind (fX7_thrown (τ5 11) ) fun r7 => (if r7 = r1.1 then (if r1.1 = 0 then (if (lg_cmp (τ5 12 48 (Int32.toNatClampNeg (0 : Int32))).toInt64 (r3.1).toInt64) = 0 then some τ5 else none) else some τ5) else none))))
set_option maxHeartbeats 4000000 in
set_option maxRecDepth 100000 in
theorem wL_27 {p : Program} {l : Launch} {e : Env} {s : State} {m : MethodId} {below : List Frame} {meth : Method} {c : Code} {H : Heap} {locs : List Loc} {cells slots : Nat} {Q : State → Prop} {X : x_T} {σ : x_S} {b L : Nat} {xs : Nat → Int32} {ls : Array Slot} {i a1 a2 : Int32} {r : x_S} (FF : xw_F p l s m meth c b L xs X) (hi1 : x_in (i + (1 : Int32)) L) (hi2 : x_in (i + (2 : Int32)) L) (he1 : xs (i + (1 : Int32)).toNatClampNeg = a1) (he2 : xs (i + (2 : Int32)).toNatClampNeg = a2) (hf0 : cells ≤ room_1.cells ∧ slots ≤ room_1.slots) (hf1 : cells + 1 ≤ room_1.cells ∧ slots + 6 ≤ room_1.slots) (h : gL_27 σ a1 a2 = some r) (hI : x_I X σ s H locs) (hl : lv_has ls 9 (xw_lv X b i)) (kk : ∀ (H1 : Heap) (locs1 : List Loc) (ls1 : Array Slot), x_I X r s H1 locs1 → lv_has ls1 9 (xw_lv X b i) → W p l e room_1 s m #[Value.ref b] below meth c H1 locs1 (cells + 1) (slots + 6) Q (F0 m 2520 ls1 [])) : W p l e room_1 s m #[Value.ref b] below meth c H locs cells slots Q (F0 m 1546 ls []) := by
  have F := FF.1
  have Z := FF.2.2.1
  have hx := F.1
  have hb := F.2.1
  have hml := F.2.2.1
  have hown := F.2.2.2.1
  have hts := F.2.2.2.2.1
  unfold gL_27 at h
  refine lv_aload_n hx hb dL_law_1546 rfl (lv_at hl 1 rfl) ?_
  refine lv_aload_n hx hb dL_law_1547 rfl (lv_at hl 0 rfl) ?_
  refine lv_iload hx hb dL_law_1548 (lv_at hl 4 rfl) ?_
  refine lv_iconst (v := 1) hx hb dL_law_1550 (by decide) ?_
  refine lv_iadd hx hb dL_law_1551 ?_
  refine xw_sld FF hI hi1 he1 dL_law_1552 ?_
  refine lv_aload_n hx hb dL_law_1553 rfl (lv_at hl 3 rfl) ?_
  obtain ⟨r1, h2, h⟩ := x_bnd h
  refine xw_aci hI (xw_run (rest := []) F Z hI (mL_staysOf l FF.2.1 X _ σ a1 r1 h2) gw_L_227 hd_L_staysOf ⟨by decide, by decide⟩ ⟨rfl, rfl⟩ rfl hl.1 rfl (Nat.le_of_ble_eq_true rfl) dL_law_1554 hf1) (fun H locs hI => ?_)
  refine lv_istore (lv' := [(5, .int r1.1), (0, .ref b), (1, .ref (X.2.2 10 32)), (2, .ref (X.2.2 11 40)), (3, .ref (X.2.2 12 48)), (4, .int i)]) hx hb dL_law_1557 hl (by decide) rfl (fun ls hl => ?_)
  refine lv_aload_n hx hb dL_law_1559 rfl (lv_at hl 3 rfl) ?_
  refine lv_aload_n hx hb dL_law_1560 rfl (lv_at hl 1 rfl) ?_
  refine lv_iload hx hb dL_law_1561 (lv_at hl 5 rfl) ?_
  refine lv_iconst (v := 1) hx hb dL_law_1563 (by decide) ?_
  refine lv_iadd hx hb dL_law_1564 ?_
  refine xw_sld FF hI hi1 he1 dL_law_1565 ?_
  obtain ⟨r3, h4, h⟩ := x_bnd h
  have hI := x_toH 11 hI
  refine x_aci hI (x_runV (rest := []) F hI (mX7_staysOf l X r1.2 _ (r1.2 11) a1 r3 h4) g_L_229 ⟨rfl, hd_X7_staysOf⟩ ⟨by decide, by decide⟩ ⟨rfl, rfl⟩ (x_inO (by decide)) rfl rfl rfl rfl hl.1 rfl (Nat.le_of_ble_eq_true rfl) dL_law_1566 hf1) (fun H locs hI => ?_)
  obtain ⟨τ5, e6⟩ : ∃ z : x_S, z = (x_sh r1.2 11 r3.2) := ⟨_, rfl⟩
  rw [← e6] at hI
  have h := x_let_at h e6
  refine lv_istore (lv' := [(6, .int r3.1), (5, .int r1.1), (0, .ref b), (1, .ref (X.2.2 10 32)), (2, .ref (X.2.2 11 40)), (3, .ref (X.2.2 12 48)), (4, .int i)]) hx hb dL_law_1569 hl (by decide) rfl (fun ls hl => ?_)
  refine lv_aload_n hx hb dL_law_1571 rfl (lv_at hl 4 rfl) ?_
  obtain ⟨r7, h8, h⟩ := x_bnd h
  have hI := x_toH 11 hI
  refine x_aci hI (x_runV (rest := []) F hI (mX7_thrown l X τ5 _ (τ5 11)  r7 h8) g_L_138 ⟨rfl, hd_X7_thrown⟩ ⟨by decide, by decide⟩ ⟨rfl, rfl⟩ (x_inO (by decide)) rfl rfl rfl rfl hl.1 rfl (Nat.le_of_ble_eq_true rfl) dL_law_1572 hf1) (fun H locs hI => ?_)
  rw [x_sh_self] at hI
  refine lv_iload hx hb dL_law_1575 (lv_at hl 1 rfl) ?_
  refine lv_icmp_eq (tgt := 1582) hx hb dL_law_1577 (by decide) (fun c9 => ?_) (fun c9 => ?_)
  · have h := x_ift h c9
    refine lv_iload hx hb dL_law_1582 (lv_at hl 1 rfl) ?_
    refine lv_if_ne (tgt := 1599) hx hb dL_law_1584 (by decide) (fun c10 => ?_) (fun c10 => ?_)
    · have h := x_iff h c10
      refine lv_goto (tgt := 2520) hx hb dL_law_1599 (by decide) ?_
      rw [x_some h] at kk
      exact W.widen (by omega) (by omega) (kk H locs ls hI (lv_sub hl [2, 3, 4, 5, 6] rfl))
    · have h := x_ift h c10
      refine lv_aload_n hx hb dL_law_1587 rfl (lv_at hl 5 rfl) ?_
      refine lv_iconst (v := 0) hx hb dL_law_1588 (by decide) ?_
      refine x_lald F hI (by decide) dL_law_1589 ?_
      refine lv_iload hx hb dL_law_1590 (lv_at hl 0 rfl) ?_
      refine lv_i2l hx hb dL_law_1592 rfl ?_
      refine W.lcmp hx hb dL_law_1593 ?_
      refine lv_if_eq (tgt := 1599) hx hb dL_law_1594 (by decide) (fun c11 => ?_) (fun c11 => ?_)
      · have h := x_ift h c11
        refine lv_goto (tgt := 2520) hx hb dL_law_1599 (by decide) ?_
        rw [x_some h] at kk
        exact W.widen (by omega) (by omega) (kk H locs ls hI (lv_sub hl [2, 3, 4, 5, 6] rfl))
      · have h := x_iff h c11
        refine lv_iconst (v := 0) hx hb dL_law_1597 (by decide) ?_
        cases h
  · have h := x_iff h c9
    refine lv_iconst (v := 0) hx hb dL_law_1580 (by decide) ?_
    cases h
def gL_28 (σ : x_S) (a1 a2 : Int32) : Option x_S := (Option.bind (fX6_housed σ ) fun r1 => (Option.bind (fX7_housed (σ 11) ) fun r3 => x_let (x_sh σ 11 r3.2) fun τ5 => (if r1 = r3.1 then some τ5 else none)))
set_option maxHeartbeats 4000000 in
set_option maxRecDepth 100000 in
theorem wL_28 {p : Program} {l : Launch} {e : Env} {s : State} {m : MethodId} {below : List Frame} {meth : Method} {c : Code} {H : Heap} {locs : List Loc} {cells slots : Nat} {Q : State → Prop} {X : x_T} {σ : x_S} {b L : Nat} {xs : Nat → Int32} {ls : Array Slot} {i a1 a2 : Int32} {r : x_S} (FF : xw_F p l s m meth c b L xs X) (hi1 : x_in (i + (1 : Int32)) L) (hi2 : x_in (i + (2 : Int32)) L) (he1 : xs (i + (1 : Int32)).toNatClampNeg = a1) (he2 : xs (i + (2 : Int32)).toNatClampNeg = a2) (hf0 : cells ≤ room_1.cells ∧ slots ≤ room_1.slots) (hf1 : cells + 1 ≤ room_1.cells ∧ slots + 6 ≤ room_1.slots) (h : gL_28 σ a1 a2 = some r) (hI : x_I X σ s H locs) (hl : lv_has ls 9 (xw_lv X b i)) (kk : ∀ (H1 : Heap) (locs1 : List Loc) (ls1 : Array Slot), x_I X r s H1 locs1 → lv_has ls1 9 (xw_lv X b i) → W p l e room_1 s m #[Value.ref b] below meth c H1 locs1 (cells + 1) (slots + 6) Q (F0 m 2520 ls1 [])) : W p l e room_1 s m #[Value.ref b] below meth c H locs cells slots Q (F0 m 1602 ls []) := by
  have F := FF.1
  have Z := FF.2.2.1
  have hx := F.1
  have hb := F.2.1
  have hml := F.2.2.1
  have hown := F.2.2.2.1
  have hts := F.2.2.2.2.1
  unfold gL_28 at h
  refine lv_aload_n hx hb dL_law_1602 rfl (lv_at hl 1 rfl) ?_
  obtain ⟨r1, h2, h⟩ := x_bnd h
  refine x_aci hI (x_runV (rest := []) F hI (mX6_housed l X _ σ  r1 h2) g_L_230 ⟨rfl, hd_X6_housed⟩ ⟨by decide, by decide⟩ ⟨rfl, rfl⟩ (x_inO (by decide)) rfl rfl rfl rfl hl.1 rfl (Nat.le_of_ble_eq_true rfl) dL_law_1603 hf0) (fun H locs hI => ?_)
  refine lv_aload_n hx hb dL_law_1606 rfl (lv_at hl 2 rfl) ?_
  obtain ⟨r3, h4, h⟩ := x_bnd h
  have hI := x_toH 11 hI
  refine x_aci hI (x_runV (rest := [.int r1]) F hI (mX7_housed l X σ _ (σ 11)  r3 h4) g_L_233 ⟨rfl, hd_X7_housed⟩ ⟨by decide, by decide⟩ ⟨rfl, rfl⟩ (x_inO (by decide)) rfl rfl rfl rfl hl.1 rfl (Nat.le_of_ble_eq_true rfl) dL_law_1607 hf0) (fun H locs hI => ?_)
  obtain ⟨τ5, e6⟩ : ∃ z : x_S, z = (x_sh σ 11 r3.2) := ⟨_, rfl⟩
  rw [← e6] at hI
  have h := x_let_at h e6
  refine lv_icmp_eq (tgt := 2520) hx hb dL_law_1610 (by decide) (fun c7 => ?_) (fun c7 => ?_)
  · have h := x_ift h c7
    rw [x_some h] at kk
    exact W.widen (by omega) (by omega) (kk H locs ls hI (lv_sub hl [0, 1, 2, 3, 4] rfl))
  · have h := x_iff h c7
    refine lv_iconst (v := 0) hx hb dL_law_1613 (by decide) ?_
    cases h
def gL_29 (σ : x_S) (a1 a2 : Int32) : Option x_S := (Option.bind (fL_stateOf σ a1) fun r1 => (Option.bind (fX7_stateOf (r1.2 11) a1) fun r3 => x_let (x_sh r1.2 11 r3.2) fun τ5 => (Option.bind (fX7_thrown (τ5 11) ) fun r7 => (if r7 = r1.1 then (if r1.1 = 0 then (if (lg_cmp (τ5 12 48 (Int32.toNatClampNeg (0 : Int32))).toInt64 (r3.1).toInt64) = 0 then some τ5 else none) else some τ5) else none))))
set_option maxHeartbeats 4000000 in
set_option maxRecDepth 100000 in
theorem wL_29 {p : Program} {l : Launch} {e : Env} {s : State} {m : MethodId} {below : List Frame} {meth : Method} {c : Code} {H : Heap} {locs : List Loc} {cells slots : Nat} {Q : State → Prop} {X : x_T} {σ : x_S} {b L : Nat} {xs : Nat → Int32} {ls : Array Slot} {i a1 a2 : Int32} {r : x_S} (FF : xw_F p l s m meth c b L xs X) (hi1 : x_in (i + (1 : Int32)) L) (hi2 : x_in (i + (2 : Int32)) L) (he1 : xs (i + (1 : Int32)).toNatClampNeg = a1) (he2 : xs (i + (2 : Int32)).toNatClampNeg = a2) (hf0 : cells ≤ room_1.cells ∧ slots ≤ room_1.slots) (hf1 : cells + 1 ≤ room_1.cells ∧ slots + 6 ≤ room_1.slots) (h : gL_29 σ a1 a2 = some r) (hI : x_I X σ s H locs) (hl : lv_has ls 9 (xw_lv X b i)) (kk : ∀ (H1 : Heap) (locs1 : List Loc) (ls1 : Array Slot), x_I X r s H1 locs1 → lv_has ls1 9 (xw_lv X b i) → W p l e room_1 s m #[Value.ref b] below meth c H1 locs1 (cells + 1) (slots + 6) Q (F0 m 2520 ls1 [])) : W p l e room_1 s m #[Value.ref b] below meth c H locs cells slots Q (F0 m 1615 ls []) := by
  have F := FF.1
  have Z := FF.2.2.1
  have hx := F.1
  have hb := F.2.1
  have hml := F.2.2.1
  have hown := F.2.2.2.1
  have hts := F.2.2.2.2.1
  unfold gL_29 at h
  refine lv_aload_n hx hb dL_law_1615 rfl (lv_at hl 1 rfl) ?_
  refine lv_aload_n hx hb dL_law_1616 rfl (lv_at hl 0 rfl) ?_
  refine lv_iload hx hb dL_law_1617 (lv_at hl 4 rfl) ?_
  refine lv_iconst (v := 1) hx hb dL_law_1619 (by decide) ?_
  refine lv_iadd hx hb dL_law_1620 ?_
  refine xw_sld FF hI hi1 he1 dL_law_1621 ?_
  refine lv_aload_n hx hb dL_law_1622 rfl (lv_at hl 3 rfl) ?_
  obtain ⟨r1, h2, h⟩ := x_bnd h
  refine xw_aci hI (xw_run (rest := []) F Z hI (mL_stateOf l FF.2.1 X _ σ a1 r1 h2) gw_L_234 hd_L_stateOf ⟨by decide, by decide⟩ ⟨rfl, rfl⟩ rfl hl.1 rfl (Nat.le_of_ble_eq_true rfl) dL_law_1623 hf1) (fun H locs hI => ?_)
  refine lv_istore (lv' := [(5, .int r1.1), (0, .ref b), (1, .ref (X.2.2 10 32)), (2, .ref (X.2.2 11 40)), (3, .ref (X.2.2 12 48)), (4, .int i)]) hx hb dL_law_1626 hl (by decide) rfl (fun ls hl => ?_)
  refine lv_aload_n hx hb dL_law_1628 rfl (lv_at hl 3 rfl) ?_
  refine lv_aload_n hx hb dL_law_1629 rfl (lv_at hl 1 rfl) ?_
  refine lv_iload hx hb dL_law_1630 (lv_at hl 5 rfl) ?_
  refine lv_iconst (v := 1) hx hb dL_law_1632 (by decide) ?_
  refine lv_iadd hx hb dL_law_1633 ?_
  refine xw_sld FF hI hi1 he1 dL_law_1634 ?_
  obtain ⟨r3, h4, h⟩ := x_bnd h
  have hI := x_toH 11 hI
  refine x_aci hI (x_runV (rest := []) F hI (mX7_stateOf l X r1.2 _ (r1.2 11) a1 r3 h4) g_L_236 ⟨rfl, hd_X7_stateOf⟩ ⟨by decide, by decide⟩ ⟨rfl, rfl⟩ (x_inO (by decide)) rfl rfl rfl rfl hl.1 rfl (Nat.le_of_ble_eq_true rfl) dL_law_1635 hf1) (fun H locs hI => ?_)
  obtain ⟨τ5, e6⟩ : ∃ z : x_S, z = (x_sh r1.2 11 r3.2) := ⟨_, rfl⟩
  rw [← e6] at hI
  have h := x_let_at h e6
  refine lv_istore (lv' := [(6, .int r3.1), (5, .int r1.1), (0, .ref b), (1, .ref (X.2.2 10 32)), (2, .ref (X.2.2 11 40)), (3, .ref (X.2.2 12 48)), (4, .int i)]) hx hb dL_law_1638 hl (by decide) rfl (fun ls hl => ?_)
  refine lv_aload_n hx hb dL_law_1640 rfl (lv_at hl 4 rfl) ?_
  obtain ⟨r7, h8, h⟩ := x_bnd h
  have hI := x_toH 11 hI
  refine x_aci hI (x_runV (rest := []) F hI (mX7_thrown l X τ5 _ (τ5 11)  r7 h8) g_L_138 ⟨rfl, hd_X7_thrown⟩ ⟨by decide, by decide⟩ ⟨rfl, rfl⟩ (x_inO (by decide)) rfl rfl rfl rfl hl.1 rfl (Nat.le_of_ble_eq_true rfl) dL_law_1641 hf1) (fun H locs hI => ?_)
  rw [x_sh_self] at hI
  refine lv_iload hx hb dL_law_1644 (lv_at hl 1 rfl) ?_
  refine lv_icmp_eq (tgt := 1651) hx hb dL_law_1646 (by decide) (fun c9 => ?_) (fun c9 => ?_)
  · have h := x_ift h c9
    refine lv_iload hx hb dL_law_1651 (lv_at hl 1 rfl) ?_
    refine lv_if_ne (tgt := 1668) hx hb dL_law_1653 (by decide) (fun c10 => ?_) (fun c10 => ?_)
    · have h := x_iff h c10
      refine lv_goto (tgt := 2520) hx hb dL_law_1668 (by decide) ?_
      rw [x_some h] at kk
      exact W.widen (by omega) (by omega) (kk H locs ls hI (lv_sub hl [2, 3, 4, 5, 6] rfl))
    · have h := x_ift h c10
      refine lv_aload_n hx hb dL_law_1656 rfl (lv_at hl 5 rfl) ?_
      refine lv_iconst (v := 0) hx hb dL_law_1657 (by decide) ?_
      refine x_lald F hI (by decide) dL_law_1658 ?_
      refine lv_iload hx hb dL_law_1659 (lv_at hl 0 rfl) ?_
      refine lv_i2l hx hb dL_law_1661 rfl ?_
      refine W.lcmp hx hb dL_law_1662 ?_
      refine lv_if_eq (tgt := 1668) hx hb dL_law_1663 (by decide) (fun c11 => ?_) (fun c11 => ?_)
      · have h := x_ift h c11
        refine lv_goto (tgt := 2520) hx hb dL_law_1668 (by decide) ?_
        rw [x_some h] at kk
        exact W.widen (by omega) (by omega) (kk H locs ls hI (lv_sub hl [2, 3, 4, 5, 6] rfl))
      · have h := x_iff h c11
        refine lv_iconst (v := 0) hx hb dL_law_1666 (by decide) ?_
        cases h
  · have h := x_iff h c9
    refine lv_iconst (v := 0) hx hb dL_law_1649 (by decide) ?_
    cases h
def gL_30 (σ : x_S) (a1 a2 : Int32) : Option x_S := (Option.bind (fL_guestOf σ a1) fun r1 => (Option.bind (fX7_guestOf (r1.2 11) a1) fun r3 => x_let (x_sh r1.2 11 r3.2) fun τ5 => (Option.bind (fX7_thrown (τ5 11) ) fun r7 => (if r7 = r1.1 then (if r1.1 = 0 then (if (lg_cmp (τ5 12 48 (Int32.toNatClampNeg (0 : Int32))).toInt64 (r3.1).toInt64) = 0 then some τ5 else none) else some τ5) else none))))
set_option maxHeartbeats 4000000 in
set_option maxRecDepth 100000 in
theorem wL_30 {p : Program} {l : Launch} {e : Env} {s : State} {m : MethodId} {below : List Frame} {meth : Method} {c : Code} {H : Heap} {locs : List Loc} {cells slots : Nat} {Q : State → Prop} {X : x_T} {σ : x_S} {b L : Nat} {xs : Nat → Int32} {ls : Array Slot} {i a1 a2 : Int32} {r : x_S} (FF : xw_F p l s m meth c b L xs X) (hi1 : x_in (i + (1 : Int32)) L) (hi2 : x_in (i + (2 : Int32)) L) (he1 : xs (i + (1 : Int32)).toNatClampNeg = a1) (he2 : xs (i + (2 : Int32)).toNatClampNeg = a2) (hf0 : cells ≤ room_1.cells ∧ slots ≤ room_1.slots) (hf1 : cells + 1 ≤ room_1.cells ∧ slots + 6 ≤ room_1.slots) (h : gL_30 σ a1 a2 = some r) (hI : x_I X σ s H locs) (hl : lv_has ls 9 (xw_lv X b i)) (kk : ∀ (H1 : Heap) (locs1 : List Loc) (ls1 : Array Slot), x_I X r s H1 locs1 → lv_has ls1 9 (xw_lv X b i) → W p l e room_1 s m #[Value.ref b] below meth c H1 locs1 (cells + 1) (slots + 6) Q (F0 m 2520 ls1 [])) : W p l e room_1 s m #[Value.ref b] below meth c H locs cells slots Q (F0 m 1671 ls []) := by
  have F := FF.1
  have Z := FF.2.2.1
  have hx := F.1
  have hb := F.2.1
  have hml := F.2.2.1
  have hown := F.2.2.2.1
  have hts := F.2.2.2.2.1
  unfold gL_30 at h
  refine lv_aload_n hx hb dL_law_1671 rfl (lv_at hl 1 rfl) ?_
  refine lv_aload_n hx hb dL_law_1672 rfl (lv_at hl 0 rfl) ?_
  refine lv_iload hx hb dL_law_1673 (lv_at hl 4 rfl) ?_
  refine lv_iconst (v := 1) hx hb dL_law_1675 (by decide) ?_
  refine lv_iadd hx hb dL_law_1676 ?_
  refine xw_sld FF hI hi1 he1 dL_law_1677 ?_
  refine lv_aload_n hx hb dL_law_1678 rfl (lv_at hl 3 rfl) ?_
  obtain ⟨r1, h2, h⟩ := x_bnd h
  refine xw_aci hI (xw_run (rest := []) F Z hI (mL_guestOf l FF.2.1 X _ σ a1 r1 h2) gw_L_237 hd_L_guestOf ⟨by decide, by decide⟩ ⟨rfl, rfl⟩ rfl hl.1 rfl (Nat.le_of_ble_eq_true rfl) dL_law_1679 hf1) (fun H locs hI => ?_)
  refine lv_istore (lv' := [(5, .int r1.1), (0, .ref b), (1, .ref (X.2.2 10 32)), (2, .ref (X.2.2 11 40)), (3, .ref (X.2.2 12 48)), (4, .int i)]) hx hb dL_law_1682 hl (by decide) rfl (fun ls hl => ?_)
  refine lv_aload_n hx hb dL_law_1684 rfl (lv_at hl 3 rfl) ?_
  refine lv_aload_n hx hb dL_law_1685 rfl (lv_at hl 1 rfl) ?_
  refine lv_iload hx hb dL_law_1686 (lv_at hl 5 rfl) ?_
  refine lv_iconst (v := 1) hx hb dL_law_1688 (by decide) ?_
  refine lv_iadd hx hb dL_law_1689 ?_
  refine xw_sld FF hI hi1 he1 dL_law_1690 ?_
  obtain ⟨r3, h4, h⟩ := x_bnd h
  have hI := x_toH 11 hI
  refine x_aci hI (x_runV (rest := []) F hI (mX7_guestOf l X r1.2 _ (r1.2 11) a1 r3 h4) g_L_239 ⟨rfl, hd_X7_guestOf⟩ ⟨by decide, by decide⟩ ⟨rfl, rfl⟩ (x_inO (by decide)) rfl rfl rfl rfl hl.1 rfl (Nat.le_of_ble_eq_true rfl) dL_law_1691 hf1) (fun H locs hI => ?_)
  obtain ⟨τ5, e6⟩ : ∃ z : x_S, z = (x_sh r1.2 11 r3.2) := ⟨_, rfl⟩
  rw [← e6] at hI
  have h := x_let_at h e6
  refine lv_istore (lv' := [(6, .int r3.1), (5, .int r1.1), (0, .ref b), (1, .ref (X.2.2 10 32)), (2, .ref (X.2.2 11 40)), (3, .ref (X.2.2 12 48)), (4, .int i)]) hx hb dL_law_1694 hl (by decide) rfl (fun ls hl => ?_)
  refine lv_aload_n hx hb dL_law_1696 rfl (lv_at hl 4 rfl) ?_
  obtain ⟨r7, h8, h⟩ := x_bnd h
  have hI := x_toH 11 hI
  refine x_aci hI (x_runV (rest := []) F hI (mX7_thrown l X τ5 _ (τ5 11)  r7 h8) g_L_138 ⟨rfl, hd_X7_thrown⟩ ⟨by decide, by decide⟩ ⟨rfl, rfl⟩ (x_inO (by decide)) rfl rfl rfl rfl hl.1 rfl (Nat.le_of_ble_eq_true rfl) dL_law_1697 hf1) (fun H locs hI => ?_)
  rw [x_sh_self] at hI
  refine lv_iload hx hb dL_law_1700 (lv_at hl 1 rfl) ?_
  refine lv_icmp_eq (tgt := 1707) hx hb dL_law_1702 (by decide) (fun c9 => ?_) (fun c9 => ?_)
  · have h := x_ift h c9
    refine lv_iload hx hb dL_law_1707 (lv_at hl 1 rfl) ?_
    refine lv_if_ne (tgt := 1724) hx hb dL_law_1709 (by decide) (fun c10 => ?_) (fun c10 => ?_)
    · have h := x_iff h c10
      refine lv_goto (tgt := 2520) hx hb dL_law_1724 (by decide) ?_
      rw [x_some h] at kk
      exact W.widen (by omega) (by omega) (kk H locs ls hI (lv_sub hl [2, 3, 4, 5, 6] rfl))
    · have h := x_ift h c10
      refine lv_aload_n hx hb dL_law_1712 rfl (lv_at hl 5 rfl) ?_
      refine lv_iconst (v := 0) hx hb dL_law_1713 (by decide) ?_
      refine x_lald F hI (by decide) dL_law_1714 ?_
      refine lv_iload hx hb dL_law_1715 (lv_at hl 0 rfl) ?_
      refine lv_i2l hx hb dL_law_1717 rfl ?_
      refine W.lcmp hx hb dL_law_1718 ?_
      refine lv_if_eq (tgt := 1724) hx hb dL_law_1719 (by decide) (fun c11 => ?_) (fun c11 => ?_)
      · have h := x_ift h c11
        refine lv_goto (tgt := 2520) hx hb dL_law_1724 (by decide) ?_
        rw [x_some h] at kk
        exact W.widen (by omega) (by omega) (kk H locs ls hI (lv_sub hl [2, 3, 4, 5, 6] rfl))
      · have h := x_iff h c11
        refine lv_iconst (v := 0) hx hb dL_law_1722 (by decide) ?_
        cases h
  · have h := x_iff h c9
    refine lv_iconst (v := 0) hx hb dL_law_1705 (by decide) ?_
    cases h
def gL_31 (σ : x_S) (a1 a2 : Int32) : Option x_S := (Option.bind (fL_ticksOf σ a1) fun r1 => (Option.bind (fX7_ticksOf (r1.2 11) a1) fun r3 => x_let (x_sh r1.2 11 r3.2) fun τ5 => (Option.bind (fX7_thrown (τ5 11) ) fun r7 => (if r7 = r1.1 then (if r1.1 = 0 then (if (lg_cmp (τ5 12 48 (Int32.toNatClampNeg (0 : Int32))).toInt64 (r3.1).toInt64) = 0 then some τ5 else none) else some τ5) else none))))
set_option maxHeartbeats 4000000 in
set_option maxRecDepth 100000 in
theorem wL_31 {p : Program} {l : Launch} {e : Env} {s : State} {m : MethodId} {below : List Frame} {meth : Method} {c : Code} {H : Heap} {locs : List Loc} {cells slots : Nat} {Q : State → Prop} {X : x_T} {σ : x_S} {b L : Nat} {xs : Nat → Int32} {ls : Array Slot} {i a1 a2 : Int32} {r : x_S} (FF : xw_F p l s m meth c b L xs X) (hi1 : x_in (i + (1 : Int32)) L) (hi2 : x_in (i + (2 : Int32)) L) (he1 : xs (i + (1 : Int32)).toNatClampNeg = a1) (he2 : xs (i + (2 : Int32)).toNatClampNeg = a2) (hf0 : cells ≤ room_1.cells ∧ slots ≤ room_1.slots) (hf1 : cells + 1 ≤ room_1.cells ∧ slots + 6 ≤ room_1.slots) (h : gL_31 σ a1 a2 = some r) (hI : x_I X σ s H locs) (hl : lv_has ls 9 (xw_lv X b i)) (kk : ∀ (H1 : Heap) (locs1 : List Loc) (ls1 : Array Slot), x_I X r s H1 locs1 → lv_has ls1 9 (xw_lv X b i) → W p l e room_1 s m #[Value.ref b] below meth c H1 locs1 (cells + 1) (slots + 6) Q (F0 m 2520 ls1 [])) : W p l e room_1 s m #[Value.ref b] below meth c H locs cells slots Q (F0 m 1727 ls []) := by
  have F := FF.1
  have Z := FF.2.2.1
  have hx := F.1
  have hb := F.2.1
  have hml := F.2.2.1
  have hown := F.2.2.2.1
  have hts := F.2.2.2.2.1
  unfold gL_31 at h
  refine lv_aload_n hx hb dL_law_1727 rfl (lv_at hl 1 rfl) ?_
  refine lv_aload_n hx hb dL_law_1728 rfl (lv_at hl 0 rfl) ?_
  refine lv_iload hx hb dL_law_1729 (lv_at hl 4 rfl) ?_
  refine lv_iconst (v := 1) hx hb dL_law_1731 (by decide) ?_
  refine lv_iadd hx hb dL_law_1732 ?_
  refine xw_sld FF hI hi1 he1 dL_law_1733 ?_
  refine lv_aload_n hx hb dL_law_1734 rfl (lv_at hl 3 rfl) ?_
  obtain ⟨r1, h2, h⟩ := x_bnd h
  refine xw_aci hI (xw_run (rest := []) F Z hI (mL_ticksOf l FF.2.1 X _ σ a1 r1 h2) gw_L_240 hd_L_ticksOf ⟨by decide, by decide⟩ ⟨rfl, rfl⟩ rfl hl.1 rfl (Nat.le_of_ble_eq_true rfl) dL_law_1735 hf1) (fun H locs hI => ?_)
  refine lv_istore (lv' := [(5, .int r1.1), (0, .ref b), (1, .ref (X.2.2 10 32)), (2, .ref (X.2.2 11 40)), (3, .ref (X.2.2 12 48)), (4, .int i)]) hx hb dL_law_1738 hl (by decide) rfl (fun ls hl => ?_)
  refine lv_aload_n hx hb dL_law_1740 rfl (lv_at hl 3 rfl) ?_
  refine lv_aload_n hx hb dL_law_1741 rfl (lv_at hl 1 rfl) ?_
  refine lv_iload hx hb dL_law_1742 (lv_at hl 5 rfl) ?_
  refine lv_iconst (v := 1) hx hb dL_law_1744 (by decide) ?_
  refine lv_iadd hx hb dL_law_1745 ?_
  refine xw_sld FF hI hi1 he1 dL_law_1746 ?_
  obtain ⟨r3, h4, h⟩ := x_bnd h
  have hI := x_toH 11 hI
  refine x_aci hI (x_runV (rest := []) F hI (mX7_ticksOf l X r1.2 _ (r1.2 11) a1 r3 h4) g_L_242 ⟨rfl, hd_X7_ticksOf⟩ ⟨by decide, by decide⟩ ⟨rfl, rfl⟩ (x_inO (by decide)) rfl rfl rfl rfl hl.1 rfl (Nat.le_of_ble_eq_true rfl) dL_law_1747 hf1) (fun H locs hI => ?_)
  obtain ⟨τ5, e6⟩ : ∃ z : x_S, z = (x_sh r1.2 11 r3.2) := ⟨_, rfl⟩
  rw [← e6] at hI
  have h := x_let_at h e6
  refine lv_istore (lv' := [(6, .int r3.1), (5, .int r1.1), (0, .ref b), (1, .ref (X.2.2 10 32)), (2, .ref (X.2.2 11 40)), (3, .ref (X.2.2 12 48)), (4, .int i)]) hx hb dL_law_1750 hl (by decide) rfl (fun ls hl => ?_)
  refine lv_aload_n hx hb dL_law_1752 rfl (lv_at hl 4 rfl) ?_
  obtain ⟨r7, h8, h⟩ := x_bnd h
  have hI := x_toH 11 hI
  refine x_aci hI (x_runV (rest := []) F hI (mX7_thrown l X τ5 _ (τ5 11)  r7 h8) g_L_138 ⟨rfl, hd_X7_thrown⟩ ⟨by decide, by decide⟩ ⟨rfl, rfl⟩ (x_inO (by decide)) rfl rfl rfl rfl hl.1 rfl (Nat.le_of_ble_eq_true rfl) dL_law_1753 hf1) (fun H locs hI => ?_)
  rw [x_sh_self] at hI
  refine lv_iload hx hb dL_law_1756 (lv_at hl 1 rfl) ?_
  refine lv_icmp_eq (tgt := 1763) hx hb dL_law_1758 (by decide) (fun c9 => ?_) (fun c9 => ?_)
  · have h := x_ift h c9
    refine lv_iload hx hb dL_law_1763 (lv_at hl 1 rfl) ?_
    refine lv_if_ne (tgt := 1780) hx hb dL_law_1765 (by decide) (fun c10 => ?_) (fun c10 => ?_)
    · have h := x_iff h c10
      refine lv_goto (tgt := 2520) hx hb dL_law_1780 (by decide) ?_
      rw [x_some h] at kk
      exact W.widen (by omega) (by omega) (kk H locs ls hI (lv_sub hl [2, 3, 4, 5, 6] rfl))
    · have h := x_ift h c10
      refine lv_aload_n hx hb dL_law_1768 rfl (lv_at hl 5 rfl) ?_
      refine lv_iconst (v := 0) hx hb dL_law_1769 (by decide) ?_
      refine x_lald F hI (by decide) dL_law_1770 ?_
      refine lv_iload hx hb dL_law_1771 (lv_at hl 0 rfl) ?_
      refine lv_i2l hx hb dL_law_1773 rfl ?_
      refine W.lcmp hx hb dL_law_1774 ?_
      refine lv_if_eq (tgt := 1780) hx hb dL_law_1775 (by decide) (fun c11 => ?_) (fun c11 => ?_)
      · have h := x_ift h c11
        refine lv_goto (tgt := 2520) hx hb dL_law_1780 (by decide) ?_
        rw [x_some h] at kk
        exact W.widen (by omega) (by omega) (kk H locs ls hI (lv_sub hl [2, 3, 4, 5, 6] rfl))
      · have h := x_iff h c11
        refine lv_iconst (v := 0) hx hb dL_law_1778 (by decide) ?_
        cases h
  · have h := x_iff h c9
    refine lv_iconst (v := 0) hx hb dL_law_1761 (by decide) ?_
    cases h
def gL_32 (σ : x_S) (a1 a2 : Int32) : Option x_S := (Option.bind (fL_reservedFor σ a1) fun r1 => (Option.bind (fX7_reservedFor (r1.2 11) a1) fun r3 => x_let (x_sh r1.2 11 r3.2) fun τ5 => (Option.bind (fX7_thrown (τ5 11) ) fun r7 => (if r7 = r1.1 then (if r1.1 = 0 then (if (lg_cmp (τ5 12 48 (Int32.toNatClampNeg (0 : Int32))).toInt64 (r3.1).toInt64) = 0 then some τ5 else none) else some τ5) else none))))
set_option maxHeartbeats 4000000 in
set_option maxRecDepth 100000 in
theorem wL_32 {p : Program} {l : Launch} {e : Env} {s : State} {m : MethodId} {below : List Frame} {meth : Method} {c : Code} {H : Heap} {locs : List Loc} {cells slots : Nat} {Q : State → Prop} {X : x_T} {σ : x_S} {b L : Nat} {xs : Nat → Int32} {ls : Array Slot} {i a1 a2 : Int32} {r : x_S} (FF : xw_F p l s m meth c b L xs X) (hi1 : x_in (i + (1 : Int32)) L) (hi2 : x_in (i + (2 : Int32)) L) (he1 : xs (i + (1 : Int32)).toNatClampNeg = a1) (he2 : xs (i + (2 : Int32)).toNatClampNeg = a2) (hf0 : cells ≤ room_1.cells ∧ slots ≤ room_1.slots) (hf1 : cells + 1 ≤ room_1.cells ∧ slots + 6 ≤ room_1.slots) (h : gL_32 σ a1 a2 = some r) (hI : x_I X σ s H locs) (hl : lv_has ls 9 (xw_lv X b i)) (kk : ∀ (H1 : Heap) (locs1 : List Loc) (ls1 : Array Slot), x_I X r s H1 locs1 → lv_has ls1 9 (xw_lv X b i) → W p l e room_1 s m #[Value.ref b] below meth c H1 locs1 (cells + 1) (slots + 6) Q (F0 m 2520 ls1 [])) : W p l e room_1 s m #[Value.ref b] below meth c H locs cells slots Q (F0 m 1783 ls []) := by
  have F := FF.1
  have Z := FF.2.2.1
  have hx := F.1
  have hb := F.2.1
  have hml := F.2.2.1
  have hown := F.2.2.2.1
  have hts := F.2.2.2.2.1
  unfold gL_32 at h
  refine lv_aload_n hx hb dL_law_1783 rfl (lv_at hl 1 rfl) ?_
  refine lv_aload_n hx hb dL_law_1784 rfl (lv_at hl 0 rfl) ?_
  refine lv_iload hx hb dL_law_1785 (lv_at hl 4 rfl) ?_
  refine lv_iconst (v := 1) hx hb dL_law_1787 (by decide) ?_
  refine lv_iadd hx hb dL_law_1788 ?_
  refine xw_sld FF hI hi1 he1 dL_law_1789 ?_
  refine lv_aload_n hx hb dL_law_1790 rfl (lv_at hl 3 rfl) ?_
  obtain ⟨r1, h2, h⟩ := x_bnd h
  refine xw_aci hI (xw_run (rest := []) F Z hI (mL_reservedFor l FF.2.1 X _ σ a1 r1 h2) gw_L_243 hd_L_reservedFor ⟨by decide, by decide⟩ ⟨rfl, rfl⟩ rfl hl.1 rfl (Nat.le_of_ble_eq_true rfl) dL_law_1791 hf1) (fun H locs hI => ?_)
  refine lv_istore (lv' := [(5, .int r1.1), (0, .ref b), (1, .ref (X.2.2 10 32)), (2, .ref (X.2.2 11 40)), (3, .ref (X.2.2 12 48)), (4, .int i)]) hx hb dL_law_1794 hl (by decide) rfl (fun ls hl => ?_)
  refine lv_aload_n hx hb dL_law_1796 rfl (lv_at hl 3 rfl) ?_
  refine lv_aload_n hx hb dL_law_1797 rfl (lv_at hl 1 rfl) ?_
  refine lv_iload hx hb dL_law_1798 (lv_at hl 5 rfl) ?_
  refine lv_iconst (v := 1) hx hb dL_law_1800 (by decide) ?_
  refine lv_iadd hx hb dL_law_1801 ?_
  refine xw_sld FF hI hi1 he1 dL_law_1802 ?_
  obtain ⟨r3, h4, h⟩ := x_bnd h
  have hI := x_toH 11 hI
  refine x_aci hI (x_runV (rest := []) F hI (mX7_reservedFor l X r1.2 _ (r1.2 11) a1 r3 h4) g_L_245 ⟨rfl, hd_X7_reservedFor⟩ ⟨by decide, by decide⟩ ⟨rfl, rfl⟩ (x_inO (by decide)) rfl rfl rfl rfl hl.1 rfl (Nat.le_of_ble_eq_true rfl) dL_law_1803 hf1) (fun H locs hI => ?_)
  obtain ⟨τ5, e6⟩ : ∃ z : x_S, z = (x_sh r1.2 11 r3.2) := ⟨_, rfl⟩
  rw [← e6] at hI
  have h := x_let_at h e6
  refine lv_istore (lv' := [(6, .int r3.1), (5, .int r1.1), (0, .ref b), (1, .ref (X.2.2 10 32)), (2, .ref (X.2.2 11 40)), (3, .ref (X.2.2 12 48)), (4, .int i)]) hx hb dL_law_1806 hl (by decide) rfl (fun ls hl => ?_)
  refine lv_aload_n hx hb dL_law_1808 rfl (lv_at hl 4 rfl) ?_
  obtain ⟨r7, h8, h⟩ := x_bnd h
  have hI := x_toH 11 hI
  refine x_aci hI (x_runV (rest := []) F hI (mX7_thrown l X τ5 _ (τ5 11)  r7 h8) g_L_138 ⟨rfl, hd_X7_thrown⟩ ⟨by decide, by decide⟩ ⟨rfl, rfl⟩ (x_inO (by decide)) rfl rfl rfl rfl hl.1 rfl (Nat.le_of_ble_eq_true rfl) dL_law_1809 hf1) (fun H locs hI => ?_)
  rw [x_sh_self] at hI
  refine lv_iload hx hb dL_law_1812 (lv_at hl 1 rfl) ?_
  refine lv_icmp_eq (tgt := 1819) hx hb dL_law_1814 (by decide) (fun c9 => ?_) (fun c9 => ?_)
  · have h := x_ift h c9
    refine lv_iload hx hb dL_law_1819 (lv_at hl 1 rfl) ?_
    refine lv_if_ne (tgt := 1836) hx hb dL_law_1821 (by decide) (fun c10 => ?_) (fun c10 => ?_)
    · have h := x_iff h c10
      refine lv_goto (tgt := 2520) hx hb dL_law_1836 (by decide) ?_
      rw [x_some h] at kk
      exact W.widen (by omega) (by omega) (kk H locs ls hI (lv_sub hl [2, 3, 4, 5, 6] rfl))
    · have h := x_ift h c10
      refine lv_aload_n hx hb dL_law_1824 rfl (lv_at hl 5 rfl) ?_
      refine lv_iconst (v := 0) hx hb dL_law_1825 (by decide) ?_
      refine x_lald F hI (by decide) dL_law_1826 ?_
      refine lv_iload hx hb dL_law_1827 (lv_at hl 0 rfl) ?_
      refine lv_i2l hx hb dL_law_1829 rfl ?_
      refine W.lcmp hx hb dL_law_1830 ?_
      refine lv_if_eq (tgt := 1836) hx hb dL_law_1831 (by decide) (fun c11 => ?_) (fun c11 => ?_)
      · have h := x_ift h c11
        refine lv_goto (tgt := 2520) hx hb dL_law_1836 (by decide) ?_
        rw [x_some h] at kk
        exact W.widen (by omega) (by omega) (kk H locs ls hI (lv_sub hl [2, 3, 4, 5, 6] rfl))
      · have h := x_iff h c11
        refine lv_iconst (v := 0) hx hb dL_law_1834 (by decide) ?_
        cases h
  · have h := x_iff h c9
    refine lv_iconst (v := 0) hx hb dL_law_1817 (by decide) ?_
    cases h
def gL_33 (σ : x_S) (a1 a2 : Int32) : Option x_S := (Option.bind (fL_hasGhost σ a1) fun r1 => (Option.bind (fX7_hasGhost (r1.2 11) a1) fun r3 => x_let (x_sh r1.2 11 r3.2) fun τ5 => (Option.bind (fX7_thrown (τ5 11) ) fun r7 => (if r7 = r1.1 then (if r1.1 = 0 then (if r3.1 = 0 then (if (lg_cmp (τ5 12 48 (Int32.toNatClampNeg (0 : Int32))).toInt64 (0 : Int64)) = 0 then some τ5 else none) else (if (lg_cmp (τ5 12 48 (Int32.toNatClampNeg (0 : Int32))).toInt64 (1 : Int64)) = 0 then some τ5 else none)) else some τ5) else none))))
set_option maxHeartbeats 4000000 in
set_option maxRecDepth 100000 in
theorem wL_33 {p : Program} {l : Launch} {e : Env} {s : State} {m : MethodId} {below : List Frame} {meth : Method} {c : Code} {H : Heap} {locs : List Loc} {cells slots : Nat} {Q : State → Prop} {X : x_T} {σ : x_S} {b L : Nat} {xs : Nat → Int32} {ls : Array Slot} {i a1 a2 : Int32} {r : x_S} (FF : xw_F p l s m meth c b L xs X) (hi1 : x_in (i + (1 : Int32)) L) (hi2 : x_in (i + (2 : Int32)) L) (he1 : xs (i + (1 : Int32)).toNatClampNeg = a1) (he2 : xs (i + (2 : Int32)).toNatClampNeg = a2) (hf0 : cells ≤ room_1.cells ∧ slots ≤ room_1.slots) (hf1 : cells + 1 ≤ room_1.cells ∧ slots + 6 ≤ room_1.slots) (h : gL_33 σ a1 a2 = some r) (hI : x_I X σ s H locs) (hl : lv_has ls 9 (xw_lv X b i)) (kk : ∀ (H1 : Heap) (locs1 : List Loc) (ls1 : Array Slot), x_I X r s H1 locs1 → lv_has ls1 9 (xw_lv X b i) → W p l e room_1 s m #[Value.ref b] below meth c H1 locs1 (cells + 1) (slots + 6) Q (F0 m 2520 ls1 [])) : W p l e room_1 s m #[Value.ref b] below meth c H locs cells slots Q (F0 m 1839 ls []) := by
  have F := FF.1
  have Z := FF.2.2.1
  have hx := F.1
  have hb := F.2.1
  have hml := F.2.2.1
  have hown := F.2.2.2.1
  have hts := F.2.2.2.2.1
  unfold gL_33 at h
  refine lv_aload_n hx hb dL_law_1839 rfl (lv_at hl 1 rfl) ?_
  refine lv_aload_n hx hb dL_law_1840 rfl (lv_at hl 0 rfl) ?_
  refine lv_iload hx hb dL_law_1841 (lv_at hl 4 rfl) ?_
  refine lv_iconst (v := 1) hx hb dL_law_1843 (by decide) ?_
  refine lv_iadd hx hb dL_law_1844 ?_
  refine xw_sld FF hI hi1 he1 dL_law_1845 ?_
  refine lv_aload_n hx hb dL_law_1846 rfl (lv_at hl 3 rfl) ?_
  obtain ⟨r1, h2, h⟩ := x_bnd h
  refine xw_aci hI (xw_run (rest := []) F Z hI (mL_hasGhost l FF.2.1 X _ σ a1 r1 h2) gw_L_246 hd_L_hasGhost ⟨by decide, by decide⟩ ⟨rfl, rfl⟩ rfl hl.1 rfl (Nat.le_of_ble_eq_true rfl) dL_law_1847 hf1) (fun H locs hI => ?_)
  refine lv_istore (lv' := [(5, .int r1.1), (0, .ref b), (1, .ref (X.2.2 10 32)), (2, .ref (X.2.2 11 40)), (3, .ref (X.2.2 12 48)), (4, .int i)]) hx hb dL_law_1850 hl (by decide) rfl (fun ls hl => ?_)
  refine lv_aload_n hx hb dL_law_1852 rfl (lv_at hl 3 rfl) ?_
  refine lv_aload_n hx hb dL_law_1853 rfl (lv_at hl 1 rfl) ?_
  refine lv_iload hx hb dL_law_1854 (lv_at hl 5 rfl) ?_
  refine lv_iconst (v := 1) hx hb dL_law_1856 (by decide) ?_
  refine lv_iadd hx hb dL_law_1857 ?_
  refine xw_sld FF hI hi1 he1 dL_law_1858 ?_
  obtain ⟨r3, h4, h⟩ := x_bnd h
  have hI := x_toH 11 hI
  refine x_aci hI (x_runV (rest := []) F hI (mX7_hasGhost l X r1.2 _ (r1.2 11) a1 r3 h4) g_L_248 ⟨rfl, hd_X7_hasGhost⟩ ⟨by decide, by decide⟩ ⟨rfl, rfl⟩ (x_inO (by decide)) rfl rfl rfl rfl hl.1 rfl (Nat.le_of_ble_eq_true rfl) dL_law_1859 hf1) (fun H locs hI => ?_)
  obtain ⟨τ5, e6⟩ : ∃ z : x_S, z = (x_sh r1.2 11 r3.2) := ⟨_, rfl⟩
  rw [← e6] at hI
  have h := x_let_at h e6
  refine lv_istore (lv' := [(6, .int r3.1), (5, .int r1.1), (0, .ref b), (1, .ref (X.2.2 10 32)), (2, .ref (X.2.2 11 40)), (3, .ref (X.2.2 12 48)), (4, .int i)]) hx hb dL_law_1862 hl (by decide) rfl (fun ls hl => ?_)
  refine lv_aload_n hx hb dL_law_1864 rfl (lv_at hl 4 rfl) ?_
  obtain ⟨r7, h8, h⟩ := x_bnd h
  have hI := x_toH 11 hI
  refine x_aci hI (x_runV (rest := []) F hI (mX7_thrown l X τ5 _ (τ5 11)  r7 h8) g_L_138 ⟨rfl, hd_X7_thrown⟩ ⟨by decide, by decide⟩ ⟨rfl, rfl⟩ (x_inO (by decide)) rfl rfl rfl rfl hl.1 rfl (Nat.le_of_ble_eq_true rfl) dL_law_1865 hf1) (fun H locs hI => ?_)
  rw [x_sh_self] at hI
  refine lv_iload hx hb dL_law_1868 (lv_at hl 1 rfl) ?_
  refine lv_icmp_eq (tgt := 1875) hx hb dL_law_1870 (by decide) (fun c9 => ?_) (fun c9 => ?_)
  · have h := x_ift h c9
    refine lv_iload hx hb dL_law_1875 (lv_at hl 1 rfl) ?_
    refine lv_if_ne (tgt := 1899) hx hb dL_law_1877 (by decide) (fun c10 => ?_) (fun c10 => ?_)
    · have h := x_iff h c10
      refine lv_goto (tgt := 2520) hx hb dL_law_1899 (by decide) ?_
      rw [x_some h] at kk
      exact W.widen (by omega) (by omega) (kk H locs ls hI (lv_sub hl [2, 3, 4, 5, 6] rfl))
    · have h := x_ift h c10
      refine lv_aload_n hx hb dL_law_1880 rfl (lv_at hl 5 rfl) ?_
      refine lv_iconst (v := 0) hx hb dL_law_1881 (by decide) ?_
      refine x_lald F hI (by decide) dL_law_1882 ?_
      refine lv_iload hx hb dL_law_1883 (lv_at hl 0 rfl) ?_
      refine lv_if_eq (tgt := 1892) hx hb dL_law_1885 (by decide) (fun c11 => ?_) (fun c11 => ?_)
      · have h := x_ift h c11
        refine lv_lconst (v := 0) hx hb dL_law_1892 (by decide) ?_
        refine W.lcmp hx hb dL_law_1893 ?_
        refine lv_if_eq (tgt := 1899) hx hb dL_law_1894 (by decide) (fun c12 => ?_) (fun c12 => ?_)
        · have h := x_ift h c12
          refine lv_goto (tgt := 2520) hx hb dL_law_1899 (by decide) ?_
          rw [x_some h] at kk
          exact W.widen (by omega) (by omega) (kk H locs ls hI (lv_sub hl [2, 3, 4, 5, 6] rfl))
        · have h := x_iff h c12
          refine lv_iconst (v := 0) hx hb dL_law_1897 (by decide) ?_
          cases h
      · have h := x_iff h c11
        refine lv_lconst (v := 1) hx hb dL_law_1888 (by decide) ?_
        refine lv_goto (tgt := 1893) hx hb dL_law_1889 (by decide) ?_
        refine W.lcmp hx hb dL_law_1893 ?_
        refine lv_if_eq (tgt := 1899) hx hb dL_law_1894 (by decide) (fun c13 => ?_) (fun c13 => ?_)
        · have h := x_ift h c13
          refine lv_goto (tgt := 2520) hx hb dL_law_1899 (by decide) ?_
          rw [x_some h] at kk
          exact W.widen (by omega) (by omega) (kk H locs ls hI (lv_sub hl [2, 3, 4, 5, 6] rfl))
        · have h := x_iff h c13
          refine lv_iconst (v := 0) hx hb dL_law_1897 (by decide) ?_
          cases h
  · have h := x_iff h c9
    refine lv_iconst (v := 0) hx hb dL_law_1873 (by decide) ?_
    cases h
def gL_34 (σ : x_S) (a1 a2 : Int32) : Option x_S := (Option.bind (fL_roomFor σ a1) fun r1 => (Option.bind (fX7_roomFor (r1.2 11) a1) fun r3 => x_let (x_sh r1.2 11 r3.2) fun τ5 => (Option.bind (fX7_thrown (τ5 11) ) fun r7 => (if r7 = r1.1 then (if r1.1 = 0 then (if (lg_cmp (τ5 12 48 (Int32.toNatClampNeg (0 : Int32))).toInt64 (r3.1).toInt64) = 0 then some τ5 else none) else some τ5) else none))))
set_option maxHeartbeats 4000000 in
set_option maxRecDepth 100000 in
theorem wL_34 {p : Program} {l : Launch} {e : Env} {s : State} {m : MethodId} {below : List Frame} {meth : Method} {c : Code} {H : Heap} {locs : List Loc} {cells slots : Nat} {Q : State → Prop} {X : x_T} {σ : x_S} {b L : Nat} {xs : Nat → Int32} {ls : Array Slot} {i a1 a2 : Int32} {r : x_S} (FF : xw_F p l s m meth c b L xs X) (hi1 : x_in (i + (1 : Int32)) L) (hi2 : x_in (i + (2 : Int32)) L) (he1 : xs (i + (1 : Int32)).toNatClampNeg = a1) (he2 : xs (i + (2 : Int32)).toNatClampNeg = a2) (hf0 : cells ≤ room_1.cells ∧ slots ≤ room_1.slots) (hf1 : cells + 1 ≤ room_1.cells ∧ slots + 6 ≤ room_1.slots) (h : gL_34 σ a1 a2 = some r) (hI : x_I X σ s H locs) (hl : lv_has ls 9 (xw_lv X b i)) (kk : ∀ (H1 : Heap) (locs1 : List Loc) (ls1 : Array Slot), x_I X r s H1 locs1 → lv_has ls1 9 (xw_lv X b i) → W p l e room_1 s m #[Value.ref b] below meth c H1 locs1 (cells + 1) (slots + 6) Q (F0 m 2520 ls1 [])) : W p l e room_1 s m #[Value.ref b] below meth c H locs cells slots Q (F0 m 1902 ls []) := by
  have F := FF.1
  have Z := FF.2.2.1
  have hx := F.1
  have hb := F.2.1
  have hml := F.2.2.1
  have hown := F.2.2.2.1
  have hts := F.2.2.2.2.1
  unfold gL_34 at h
  refine lv_aload_n hx hb dL_law_1902 rfl (lv_at hl 1 rfl) ?_
  refine lv_aload_n hx hb dL_law_1903 rfl (lv_at hl 0 rfl) ?_
  refine lv_iload hx hb dL_law_1904 (lv_at hl 4 rfl) ?_
  refine lv_iconst (v := 1) hx hb dL_law_1906 (by decide) ?_
  refine lv_iadd hx hb dL_law_1907 ?_
  refine xw_sld FF hI hi1 he1 dL_law_1908 ?_
  refine lv_aload_n hx hb dL_law_1909 rfl (lv_at hl 3 rfl) ?_
  obtain ⟨r1, h2, h⟩ := x_bnd h
  refine xw_aci hI (xw_run (rest := []) F Z hI (mL_roomFor l FF.2.1 X _ σ a1 r1 h2) gw_L_249 hd_L_roomFor ⟨by decide, by decide⟩ ⟨rfl, rfl⟩ rfl hl.1 rfl (Nat.le_of_ble_eq_true rfl) dL_law_1910 hf1) (fun H locs hI => ?_)
  refine lv_istore (lv' := [(5, .int r1.1), (0, .ref b), (1, .ref (X.2.2 10 32)), (2, .ref (X.2.2 11 40)), (3, .ref (X.2.2 12 48)), (4, .int i)]) hx hb dL_law_1913 hl (by decide) rfl (fun ls hl => ?_)
  refine lv_aload_n hx hb dL_law_1915 rfl (lv_at hl 3 rfl) ?_
  refine lv_aload_n hx hb dL_law_1916 rfl (lv_at hl 1 rfl) ?_
  refine lv_iload hx hb dL_law_1917 (lv_at hl 5 rfl) ?_
  refine lv_iconst (v := 1) hx hb dL_law_1919 (by decide) ?_
  refine lv_iadd hx hb dL_law_1920 ?_
  refine xw_sld FF hI hi1 he1 dL_law_1921 ?_
  obtain ⟨r3, h4, h⟩ := x_bnd h
  have hI := x_toH 11 hI
  refine x_aci hI (x_runV (rest := []) F hI (mX7_roomFor l X r1.2 _ (r1.2 11) a1 r3 h4) g_L_251 ⟨rfl, hd_X7_roomFor⟩ ⟨by decide, by decide⟩ ⟨rfl, rfl⟩ (x_inO (by decide)) rfl rfl rfl rfl hl.1 rfl (Nat.le_of_ble_eq_true rfl) dL_law_1922 hf1) (fun H locs hI => ?_)
  obtain ⟨τ5, e6⟩ : ∃ z : x_S, z = (x_sh r1.2 11 r3.2) := ⟨_, rfl⟩
  rw [← e6] at hI
  have h := x_let_at h e6
  refine lv_istore (lv' := [(6, .int r3.1), (5, .int r1.1), (0, .ref b), (1, .ref (X.2.2 10 32)), (2, .ref (X.2.2 11 40)), (3, .ref (X.2.2 12 48)), (4, .int i)]) hx hb dL_law_1925 hl (by decide) rfl (fun ls hl => ?_)
  refine lv_aload_n hx hb dL_law_1927 rfl (lv_at hl 4 rfl) ?_
  obtain ⟨r7, h8, h⟩ := x_bnd h
  have hI := x_toH 11 hI
  refine x_aci hI (x_runV (rest := []) F hI (mX7_thrown l X τ5 _ (τ5 11)  r7 h8) g_L_138 ⟨rfl, hd_X7_thrown⟩ ⟨by decide, by decide⟩ ⟨rfl, rfl⟩ (x_inO (by decide)) rfl rfl rfl rfl hl.1 rfl (Nat.le_of_ble_eq_true rfl) dL_law_1928 hf1) (fun H locs hI => ?_)
  rw [x_sh_self] at hI
  refine lv_iload hx hb dL_law_1931 (lv_at hl 1 rfl) ?_
  refine lv_icmp_eq (tgt := 1938) hx hb dL_law_1933 (by decide) (fun c9 => ?_) (fun c9 => ?_)
  · have h := x_ift h c9
    refine lv_iload hx hb dL_law_1938 (lv_at hl 1 rfl) ?_
    refine lv_if_ne (tgt := 1955) hx hb dL_law_1940 (by decide) (fun c10 => ?_) (fun c10 => ?_)
    · have h := x_iff h c10
      refine lv_goto (tgt := 2520) hx hb dL_law_1955 (by decide) ?_
      rw [x_some h] at kk
      exact W.widen (by omega) (by omega) (kk H locs ls hI (lv_sub hl [2, 3, 4, 5, 6] rfl))
    · have h := x_ift h c10
      refine lv_aload_n hx hb dL_law_1943 rfl (lv_at hl 5 rfl) ?_
      refine lv_iconst (v := 0) hx hb dL_law_1944 (by decide) ?_
      refine x_lald F hI (by decide) dL_law_1945 ?_
      refine lv_iload hx hb dL_law_1946 (lv_at hl 0 rfl) ?_
      refine lv_i2l hx hb dL_law_1948 rfl ?_
      refine W.lcmp hx hb dL_law_1949 ?_
      refine lv_if_eq (tgt := 1955) hx hb dL_law_1950 (by decide) (fun c11 => ?_) (fun c11 => ?_)
      · have h := x_ift h c11
        refine lv_goto (tgt := 2520) hx hb dL_law_1955 (by decide) ?_
        rw [x_some h] at kk
        exact W.widen (by omega) (by omega) (kk H locs ls hI (lv_sub hl [2, 3, 4, 5, 6] rfl))
      · have h := x_iff h c11
        refine lv_iconst (v := 0) hx hb dL_law_1953 (by decide) ?_
        cases h
  · have h := x_iff h c9
    refine lv_iconst (v := 0) hx hb dL_law_1936 (by decide) ?_
    cases h
def gL_35 (σ : x_S) (a1 a2 : Int32) : Option x_S := (Option.bind (fX6_leasedByRooms σ ) fun r1 => (Option.bind (fX7_leasedByRooms (σ 11) ) fun r3 => x_let (x_sh σ 11 r3.2) fun τ5 => (if r1 = r3.1 then some τ5 else none)))
set_option maxHeartbeats 4000000 in
set_option maxRecDepth 100000 in
theorem wL_35 {p : Program} {l : Launch} {e : Env} {s : State} {m : MethodId} {below : List Frame} {meth : Method} {c : Code} {H : Heap} {locs : List Loc} {cells slots : Nat} {Q : State → Prop} {X : x_T} {σ : x_S} {b L : Nat} {xs : Nat → Int32} {ls : Array Slot} {i a1 a2 : Int32} {r : x_S} (FF : xw_F p l s m meth c b L xs X) (hi1 : x_in (i + (1 : Int32)) L) (hi2 : x_in (i + (2 : Int32)) L) (he1 : xs (i + (1 : Int32)).toNatClampNeg = a1) (he2 : xs (i + (2 : Int32)).toNatClampNeg = a2) (hf0 : cells ≤ room_1.cells ∧ slots ≤ room_1.slots) (hf1 : cells + 1 ≤ room_1.cells ∧ slots + 6 ≤ room_1.slots) (h : gL_35 σ a1 a2 = some r) (hI : x_I X σ s H locs) (hl : lv_has ls 9 (xw_lv X b i)) (kk : ∀ (H1 : Heap) (locs1 : List Loc) (ls1 : Array Slot), x_I X r s H1 locs1 → lv_has ls1 9 (xw_lv X b i) → W p l e room_1 s m #[Value.ref b] below meth c H1 locs1 (cells + 1) (slots + 6) Q (F0 m 2520 ls1 [])) : W p l e room_1 s m #[Value.ref b] below meth c H locs cells slots Q (F0 m 1958 ls []) := by
  have F := FF.1
  have Z := FF.2.2.1
  have hx := F.1
  have hb := F.2.1
  have hml := F.2.2.1
  have hown := F.2.2.2.1
  have hts := F.2.2.2.2.1
  unfold gL_35 at h
  refine lv_aload_n hx hb dL_law_1958 rfl (lv_at hl 1 rfl) ?_
  obtain ⟨r1, h2, h⟩ := x_bnd h
  refine x_aci hI (x_runV (rest := []) F hI (mX6_leasedByRooms l X _ σ  r1 h2) g_L_252 ⟨rfl, hd_X6_leasedByRooms⟩ ⟨by decide, by decide⟩ ⟨rfl, rfl⟩ (x_inO (by decide)) rfl rfl rfl rfl hl.1 rfl (Nat.le_of_ble_eq_true rfl) dL_law_1959 hf0) (fun H locs hI => ?_)
  refine lv_aload_n hx hb dL_law_1962 rfl (lv_at hl 2 rfl) ?_
  obtain ⟨r3, h4, h⟩ := x_bnd h
  have hI := x_toH 11 hI
  refine x_aci hI (x_runV (rest := [.int r1]) F hI (mX7_leasedByRooms l X σ _ (σ 11)  r3 h4) g_L_255 ⟨rfl, hd_X7_leasedByRooms⟩ ⟨by decide, by decide⟩ ⟨rfl, rfl⟩ (x_inO (by decide)) rfl rfl rfl rfl hl.1 rfl (Nat.le_of_ble_eq_true rfl) dL_law_1963 hf0) (fun H locs hI => ?_)
  obtain ⟨τ5, e6⟩ : ∃ z : x_S, z = (x_sh σ 11 r3.2) := ⟨_, rfl⟩
  rw [← e6] at hI
  have h := x_let_at h e6
  refine lv_icmp_eq (tgt := 2520) hx hb dL_law_1966 (by decide) (fun c7 => ?_) (fun c7 => ?_)
  · have h := x_ift h c7
    rw [x_some h] at kk
    exact W.widen (by omega) (by omega) (kk H locs ls hI (lv_sub hl [0, 1, 2, 3, 4] rfl))
  · have h := x_iff h c7
    refine lv_iconst (v := 0) hx hb dL_law_1969 (by decide) ?_
    cases h
def gL_36 (σ : x_S) (a1 a2 : Int32) : Option x_S := (Option.bind (fX6_leasedByGuests σ ) fun r1 => (Option.bind (fX7_leasedByGuests (σ 11) ) fun r3 => x_let (x_sh σ 11 r3.2) fun τ5 => (if r1 = r3.1 then some τ5 else none)))
set_option maxHeartbeats 4000000 in
set_option maxRecDepth 100000 in
theorem wL_36 {p : Program} {l : Launch} {e : Env} {s : State} {m : MethodId} {below : List Frame} {meth : Method} {c : Code} {H : Heap} {locs : List Loc} {cells slots : Nat} {Q : State → Prop} {X : x_T} {σ : x_S} {b L : Nat} {xs : Nat → Int32} {ls : Array Slot} {i a1 a2 : Int32} {r : x_S} (FF : xw_F p l s m meth c b L xs X) (hi1 : x_in (i + (1 : Int32)) L) (hi2 : x_in (i + (2 : Int32)) L) (he1 : xs (i + (1 : Int32)).toNatClampNeg = a1) (he2 : xs (i + (2 : Int32)).toNatClampNeg = a2) (hf0 : cells ≤ room_1.cells ∧ slots ≤ room_1.slots) (hf1 : cells + 1 ≤ room_1.cells ∧ slots + 6 ≤ room_1.slots) (h : gL_36 σ a1 a2 = some r) (hI : x_I X σ s H locs) (hl : lv_has ls 9 (xw_lv X b i)) (kk : ∀ (H1 : Heap) (locs1 : List Loc) (ls1 : Array Slot), x_I X r s H1 locs1 → lv_has ls1 9 (xw_lv X b i) → W p l e room_1 s m #[Value.ref b] below meth c H1 locs1 (cells + 1) (slots + 6) Q (F0 m 2520 ls1 [])) : W p l e room_1 s m #[Value.ref b] below meth c H locs cells slots Q (F0 m 1971 ls []) := by
  have F := FF.1
  have Z := FF.2.2.1
  have hx := F.1
  have hb := F.2.1
  have hml := F.2.2.1
  have hown := F.2.2.2.1
  have hts := F.2.2.2.2.1
  unfold gL_36 at h
  refine lv_aload_n hx hb dL_law_1971 rfl (lv_at hl 1 rfl) ?_
  obtain ⟨r1, h2, h⟩ := x_bnd h
  refine x_aci hI (x_runV (rest := []) F hI (mX6_leasedByGuests l X _ σ  r1 h2) g_L_256 ⟨rfl, hd_X6_leasedByGuests⟩ ⟨by decide, by decide⟩ ⟨rfl, rfl⟩ (x_inO (by decide)) rfl rfl rfl rfl hl.1 rfl (Nat.le_of_ble_eq_true rfl) dL_law_1972 hf0) (fun H locs hI => ?_)
  refine lv_aload_n hx hb dL_law_1975 rfl (lv_at hl 2 rfl) ?_
  obtain ⟨r3, h4, h⟩ := x_bnd h
  have hI := x_toH 11 hI
  refine x_aci hI (x_runV (rest := [.int r1]) F hI (mX7_leasedByGuests l X σ _ (σ 11)  r3 h4) g_L_259 ⟨rfl, hd_X7_leasedByGuests⟩ ⟨by decide, by decide⟩ ⟨rfl, rfl⟩ (x_inO (by decide)) rfl rfl rfl rfl hl.1 rfl (Nat.le_of_ble_eq_true rfl) dL_law_1976 hf0) (fun H locs hI => ?_)
  obtain ⟨τ5, e6⟩ : ∃ z : x_S, z = (x_sh σ 11 r3.2) := ⟨_, rfl⟩
  rw [← e6] at hI
  have h := x_let_at h e6
  refine lv_icmp_eq (tgt := 2520) hx hb dL_law_1979 (by decide) (fun c7 => ?_) (fun c7 => ?_)
  · have h := x_ift h c7
    rw [x_some h] at kk
    exact W.widen (by omega) (by omega) (kk H locs ls hI (lv_sub hl [0, 1, 2, 3, 4] rfl))
  · have h := x_iff h c7
    refine lv_iconst (v := 0) hx hb dL_law_1982 (by decide) ?_
    cases h
def gL_37 (σ : x_S) (a1 a2 : Int32) : Option x_S := (Option.bind (fX6_freeRooms σ ) fun r1 => (Option.bind (fX7_freeRooms (σ 11) ) fun r3 => x_let (x_sh σ 11 r3.2) fun τ5 => (if r1 = r3.1 then some τ5 else none)))
set_option maxHeartbeats 4000000 in
set_option maxRecDepth 100000 in
theorem wL_37 {p : Program} {l : Launch} {e : Env} {s : State} {m : MethodId} {below : List Frame} {meth : Method} {c : Code} {H : Heap} {locs : List Loc} {cells slots : Nat} {Q : State → Prop} {X : x_T} {σ : x_S} {b L : Nat} {xs : Nat → Int32} {ls : Array Slot} {i a1 a2 : Int32} {r : x_S} (FF : xw_F p l s m meth c b L xs X) (hi1 : x_in (i + (1 : Int32)) L) (hi2 : x_in (i + (2 : Int32)) L) (he1 : xs (i + (1 : Int32)).toNatClampNeg = a1) (he2 : xs (i + (2 : Int32)).toNatClampNeg = a2) (hf0 : cells ≤ room_1.cells ∧ slots ≤ room_1.slots) (hf1 : cells + 1 ≤ room_1.cells ∧ slots + 6 ≤ room_1.slots) (h : gL_37 σ a1 a2 = some r) (hI : x_I X σ s H locs) (hl : lv_has ls 9 (xw_lv X b i)) (kk : ∀ (H1 : Heap) (locs1 : List Loc) (ls1 : Array Slot), x_I X r s H1 locs1 → lv_has ls1 9 (xw_lv X b i) → W p l e room_1 s m #[Value.ref b] below meth c H1 locs1 (cells + 1) (slots + 6) Q (F0 m 2520 ls1 [])) : W p l e room_1 s m #[Value.ref b] below meth c H locs cells slots Q (F0 m 1984 ls []) := by
  have F := FF.1
  have Z := FF.2.2.1
  have hx := F.1
  have hb := F.2.1
  have hml := F.2.2.1
  have hown := F.2.2.2.1
  have hts := F.2.2.2.2.1
  unfold gL_37 at h
  refine lv_aload_n hx hb dL_law_1984 rfl (lv_at hl 1 rfl) ?_
  obtain ⟨r1, h2, h⟩ := x_bnd h
  refine x_aci hI (x_runV (rest := []) F hI (mX6_freeRooms l X _ σ  r1 h2) g_L_260 ⟨rfl, hd_X6_freeRooms⟩ ⟨by decide, by decide⟩ ⟨rfl, rfl⟩ (x_inO (by decide)) rfl rfl rfl rfl hl.1 rfl (Nat.le_of_ble_eq_true rfl) dL_law_1985 hf0) (fun H locs hI => ?_)
  refine lv_aload_n hx hb dL_law_1988 rfl (lv_at hl 2 rfl) ?_
  obtain ⟨r3, h4, h⟩ := x_bnd h
  have hI := x_toH 11 hI
  refine x_aci hI (x_runV (rest := [.int r1]) F hI (mX7_freeRooms l X σ _ (σ 11)  r3 h4) g_L_263 ⟨rfl, hd_X7_freeRooms⟩ ⟨by decide, by decide⟩ ⟨rfl, rfl⟩ (x_inO (by decide)) rfl rfl rfl rfl hl.1 rfl (Nat.le_of_ble_eq_true rfl) dL_law_1989 hf0) (fun H locs hI => ?_)
  obtain ⟨τ5, e6⟩ : ∃ z : x_S, z = (x_sh σ 11 r3.2) := ⟨_, rfl⟩
  rw [← e6] at hI
  have h := x_let_at h e6
  refine lv_icmp_eq (tgt := 2520) hx hb dL_law_1992 (by decide) (fun c7 => ?_) (fun c7 => ?_)
  · have h := x_ift h c7
    rw [x_some h] at kk
    exact W.widen (by omega) (by omega) (kk H locs ls hI (lv_sub hl [0, 1, 2, 3, 4] rfl))
  · have h := x_iff h c7
    refine lv_iconst (v := 0) hx hb dL_law_1995 (by decide) ?_
    cases h
def gL_38 (σ : x_S) (a1 a2 : Int32) : Option x_S := (Option.bind (fL_nextFreeByRooms σ ) fun r1 => (Option.bind (fX7_nextFreeByRooms (r1.2 11) ) fun r3 => x_let (x_sh r1.2 11 r3.2) fun τ5 => (Option.bind (fX7_thrown (τ5 11) ) fun r7 => (if r7 = r1.1 then (if r1.1 = 0 then (if (lg_cmp (τ5 12 48 (Int32.toNatClampNeg (0 : Int32))).toInt64 (r3.1).toInt64) = 0 then some τ5 else none) else some τ5) else none))))
set_option maxHeartbeats 4000000 in
set_option maxRecDepth 100000 in
theorem wL_38 {p : Program} {l : Launch} {e : Env} {s : State} {m : MethodId} {below : List Frame} {meth : Method} {c : Code} {H : Heap} {locs : List Loc} {cells slots : Nat} {Q : State → Prop} {X : x_T} {σ : x_S} {b L : Nat} {xs : Nat → Int32} {ls : Array Slot} {i a1 a2 : Int32} {r : x_S} (FF : xw_F p l s m meth c b L xs X) (hi1 : x_in (i + (1 : Int32)) L) (hi2 : x_in (i + (2 : Int32)) L) (he1 : xs (i + (1 : Int32)).toNatClampNeg = a1) (he2 : xs (i + (2 : Int32)).toNatClampNeg = a2) (hf0 : cells ≤ room_1.cells ∧ slots ≤ room_1.slots) (hf1 : cells + 1 ≤ room_1.cells ∧ slots + 6 ≤ room_1.slots) (h : gL_38 σ a1 a2 = some r) (hI : x_I X σ s H locs) (hl : lv_has ls 9 (xw_lv X b i)) (kk : ∀ (H1 : Heap) (locs1 : List Loc) (ls1 : Array Slot), x_I X r s H1 locs1 → lv_has ls1 9 (xw_lv X b i) → W p l e room_1 s m #[Value.ref b] below meth c H1 locs1 (cells + 1) (slots + 6) Q (F0 m 2520 ls1 [])) : W p l e room_1 s m #[Value.ref b] below meth c H locs cells slots Q (F0 m 1997 ls []) := by
  have F := FF.1
  have Z := FF.2.2.1
  have hx := F.1
  have hb := F.2.1
  have hml := F.2.2.1
  have hown := F.2.2.2.1
  have hts := F.2.2.2.2.1
  unfold gL_38 at h
  refine lv_aload_n hx hb dL_law_1997 rfl (lv_at hl 1 rfl) ?_
  refine lv_aload_n hx hb dL_law_1998 rfl (lv_at hl 3 rfl) ?_
  obtain ⟨r1, h2, h⟩ := x_bnd h
  refine xw_aci hI (xw_run (rest := []) F Z hI (mL_nextFreeByRooms l FF.2.1 X _ σ  r1 h2) gw_L_264 hd_L_nextFreeByRooms ⟨by decide, by decide⟩ ⟨rfl, rfl⟩ rfl hl.1 rfl (Nat.le_of_ble_eq_true rfl) dL_law_1999 hf1) (fun H locs hI => ?_)
  refine lv_istore (lv' := [(5, .int r1.1), (0, .ref b), (1, .ref (X.2.2 10 32)), (2, .ref (X.2.2 11 40)), (3, .ref (X.2.2 12 48)), (4, .int i)]) hx hb dL_law_2002 hl (by decide) rfl (fun ls hl => ?_)
  refine lv_aload_n hx hb dL_law_2004 rfl (lv_at hl 3 rfl) ?_
  obtain ⟨r3, h4, h⟩ := x_bnd h
  have hI := x_toH 11 hI
  refine x_aci hI (x_runV (rest := []) F hI (mX7_nextFreeByRooms l X r1.2 _ (r1.2 11)  r3 h4) g_L_266 ⟨rfl, hd_X7_nextFreeByRooms⟩ ⟨by decide, by decide⟩ ⟨rfl, rfl⟩ (x_inO (by decide)) rfl rfl rfl rfl hl.1 rfl (Nat.le_of_ble_eq_true rfl) dL_law_2005 hf1) (fun H locs hI => ?_)
  obtain ⟨τ5, e6⟩ : ∃ z : x_S, z = (x_sh r1.2 11 r3.2) := ⟨_, rfl⟩
  rw [← e6] at hI
  have h := x_let_at h e6
  refine lv_istore (lv' := [(6, .int r3.1), (5, .int r1.1), (0, .ref b), (1, .ref (X.2.2 10 32)), (2, .ref (X.2.2 11 40)), (3, .ref (X.2.2 12 48)), (4, .int i)]) hx hb dL_law_2008 hl (by decide) rfl (fun ls hl => ?_)
  refine lv_aload_n hx hb dL_law_2010 rfl (lv_at hl 4 rfl) ?_
  obtain ⟨r7, h8, h⟩ := x_bnd h
  have hI := x_toH 11 hI
  refine x_aci hI (x_runV (rest := []) F hI (mX7_thrown l X τ5 _ (τ5 11)  r7 h8) g_L_138 ⟨rfl, hd_X7_thrown⟩ ⟨by decide, by decide⟩ ⟨rfl, rfl⟩ (x_inO (by decide)) rfl rfl rfl rfl hl.1 rfl (Nat.le_of_ble_eq_true rfl) dL_law_2011 hf1) (fun H locs hI => ?_)
  rw [x_sh_self] at hI
  refine lv_iload hx hb dL_law_2014 (lv_at hl 1 rfl) ?_
  refine lv_icmp_eq (tgt := 2021) hx hb dL_law_2016 (by decide) (fun c9 => ?_) (fun c9 => ?_)
  · have h := x_ift h c9
    refine lv_iload hx hb dL_law_2021 (lv_at hl 1 rfl) ?_
    refine lv_if_ne (tgt := 2038) hx hb dL_law_2023 (by decide) (fun c10 => ?_) (fun c10 => ?_)
    · have h := x_iff h c10
      refine lv_goto (tgt := 2520) hx hb dL_law_2038 (by decide) ?_
      rw [x_some h] at kk
      exact W.widen (by omega) (by omega) (kk H locs ls hI (lv_sub hl [2, 3, 4, 5, 6] rfl))
    · have h := x_ift h c10
      refine lv_aload_n hx hb dL_law_2026 rfl (lv_at hl 5 rfl) ?_
      refine lv_iconst (v := 0) hx hb dL_law_2027 (by decide) ?_
      refine x_lald F hI (by decide) dL_law_2028 ?_
      refine lv_iload hx hb dL_law_2029 (lv_at hl 0 rfl) ?_
      refine lv_i2l hx hb dL_law_2031 rfl ?_
      refine W.lcmp hx hb dL_law_2032 ?_
      refine lv_if_eq (tgt := 2038) hx hb dL_law_2033 (by decide) (fun c11 => ?_) (fun c11 => ?_)
      · have h := x_ift h c11
        refine lv_goto (tgt := 2520) hx hb dL_law_2038 (by decide) ?_
        rw [x_some h] at kk
        exact W.widen (by omega) (by omega) (kk H locs ls hI (lv_sub hl [2, 3, 4, 5, 6] rfl))
      · have h := x_iff h c11
        refine lv_iconst (v := 0) hx hb dL_law_2036 (by decide) ?_
        cases h
  · have h := x_iff h c9
    refine lv_iconst (v := 0) hx hb dL_law_2019 (by decide) ?_
    cases h
def gL_39 (σ : x_S) (a1 a2 : Int32) : Option x_S := (Option.bind (fL_nextFreeByTicks σ ) fun r1 => (Option.bind (fX7_nextFreeByTicks (r1.2 11) ) fun r3 => x_let (x_sh r1.2 11 r3.2) fun τ5 => (Option.bind (fX7_thrown (τ5 11) ) fun r7 => (if r7 = r1.1 then (if r1.1 = 0 then (if (lg_cmp (τ5 12 48 (Int32.toNatClampNeg (0 : Int32))).toInt64 (r3.1).toInt64) = 0 then some τ5 else none) else some τ5) else none))))
set_option maxHeartbeats 4000000 in
set_option maxRecDepth 100000 in
theorem wL_39 {p : Program} {l : Launch} {e : Env} {s : State} {m : MethodId} {below : List Frame} {meth : Method} {c : Code} {H : Heap} {locs : List Loc} {cells slots : Nat} {Q : State → Prop} {X : x_T} {σ : x_S} {b L : Nat} {xs : Nat → Int32} {ls : Array Slot} {i a1 a2 : Int32} {r : x_S} (FF : xw_F p l s m meth c b L xs X) (hi1 : x_in (i + (1 : Int32)) L) (hi2 : x_in (i + (2 : Int32)) L) (he1 : xs (i + (1 : Int32)).toNatClampNeg = a1) (he2 : xs (i + (2 : Int32)).toNatClampNeg = a2) (hf0 : cells ≤ room_1.cells ∧ slots ≤ room_1.slots) (hf1 : cells + 1 ≤ room_1.cells ∧ slots + 6 ≤ room_1.slots) (h : gL_39 σ a1 a2 = some r) (hI : x_I X σ s H locs) (hl : lv_has ls 9 (xw_lv X b i)) (kk : ∀ (H1 : Heap) (locs1 : List Loc) (ls1 : Array Slot), x_I X r s H1 locs1 → lv_has ls1 9 (xw_lv X b i) → W p l e room_1 s m #[Value.ref b] below meth c H1 locs1 (cells + 1) (slots + 6) Q (F0 m 2520 ls1 [])) : W p l e room_1 s m #[Value.ref b] below meth c H locs cells slots Q (F0 m 2041 ls []) := by
  have F := FF.1
  have Z := FF.2.2.1
  have hx := F.1
  have hb := F.2.1
  have hml := F.2.2.1
  have hown := F.2.2.2.1
  have hts := F.2.2.2.2.1
  unfold gL_39 at h
  refine lv_aload_n hx hb dL_law_2041 rfl (lv_at hl 1 rfl) ?_
  refine lv_aload_n hx hb dL_law_2042 rfl (lv_at hl 3 rfl) ?_
  obtain ⟨r1, h2, h⟩ := x_bnd h
  refine xw_aci hI (xw_run (rest := []) F Z hI (mL_nextFreeByTicks l FF.2.1 X _ σ  r1 h2) gw_L_267 hd_L_nextFreeByTicks ⟨by decide, by decide⟩ ⟨rfl, rfl⟩ rfl hl.1 rfl (Nat.le_of_ble_eq_true rfl) dL_law_2043 hf1) (fun H locs hI => ?_)
  refine lv_istore (lv' := [(5, .int r1.1), (0, .ref b), (1, .ref (X.2.2 10 32)), (2, .ref (X.2.2 11 40)), (3, .ref (X.2.2 12 48)), (4, .int i)]) hx hb dL_law_2046 hl (by decide) rfl (fun ls hl => ?_)
  refine lv_aload_n hx hb dL_law_2048 rfl (lv_at hl 3 rfl) ?_
  obtain ⟨r3, h4, h⟩ := x_bnd h
  have hI := x_toH 11 hI
  refine x_aci hI (x_runV (rest := []) F hI (mX7_nextFreeByTicks l X r1.2 _ (r1.2 11)  r3 h4) g_L_269 ⟨rfl, hd_X7_nextFreeByTicks⟩ ⟨by decide, by decide⟩ ⟨rfl, rfl⟩ (x_inO (by decide)) rfl rfl rfl rfl hl.1 rfl (Nat.le_of_ble_eq_true rfl) dL_law_2049 hf1) (fun H locs hI => ?_)
  obtain ⟨τ5, e6⟩ : ∃ z : x_S, z = (x_sh r1.2 11 r3.2) := ⟨_, rfl⟩
  rw [← e6] at hI
  have h := x_let_at h e6
  refine lv_istore (lv' := [(6, .int r3.1), (5, .int r1.1), (0, .ref b), (1, .ref (X.2.2 10 32)), (2, .ref (X.2.2 11 40)), (3, .ref (X.2.2 12 48)), (4, .int i)]) hx hb dL_law_2052 hl (by decide) rfl (fun ls hl => ?_)
  refine lv_aload_n hx hb dL_law_2054 rfl (lv_at hl 4 rfl) ?_
  obtain ⟨r7, h8, h⟩ := x_bnd h
  have hI := x_toH 11 hI
  refine x_aci hI (x_runV (rest := []) F hI (mX7_thrown l X τ5 _ (τ5 11)  r7 h8) g_L_138 ⟨rfl, hd_X7_thrown⟩ ⟨by decide, by decide⟩ ⟨rfl, rfl⟩ (x_inO (by decide)) rfl rfl rfl rfl hl.1 rfl (Nat.le_of_ble_eq_true rfl) dL_law_2055 hf1) (fun H locs hI => ?_)
  rw [x_sh_self] at hI
  refine lv_iload hx hb dL_law_2058 (lv_at hl 1 rfl) ?_
  refine lv_icmp_eq (tgt := 2065) hx hb dL_law_2060 (by decide) (fun c9 => ?_) (fun c9 => ?_)
  · have h := x_ift h c9
    refine lv_iload hx hb dL_law_2065 (lv_at hl 1 rfl) ?_
    refine lv_if_ne (tgt := 2082) hx hb dL_law_2067 (by decide) (fun c10 => ?_) (fun c10 => ?_)
    · have h := x_iff h c10
      refine lv_goto (tgt := 2520) hx hb dL_law_2082 (by decide) ?_
      rw [x_some h] at kk
      exact W.widen (by omega) (by omega) (kk H locs ls hI (lv_sub hl [2, 3, 4, 5, 6] rfl))
    · have h := x_ift h c10
      refine lv_aload_n hx hb dL_law_2070 rfl (lv_at hl 5 rfl) ?_
      refine lv_iconst (v := 0) hx hb dL_law_2071 (by decide) ?_
      refine x_lald F hI (by decide) dL_law_2072 ?_
      refine lv_iload hx hb dL_law_2073 (lv_at hl 0 rfl) ?_
      refine lv_i2l hx hb dL_law_2075 rfl ?_
      refine W.lcmp hx hb dL_law_2076 ?_
      refine lv_if_eq (tgt := 2082) hx hb dL_law_2077 (by decide) (fun c11 => ?_) (fun c11 => ?_)
      · have h := x_ift h c11
        refine lv_goto (tgt := 2520) hx hb dL_law_2082 (by decide) ?_
        rw [x_some h] at kk
        exact W.widen (by omega) (by omega) (kk H locs ls hI (lv_sub hl [2, 3, 4, 5, 6] rfl))
      · have h := x_iff h c11
        refine lv_iconst (v := 0) hx hb dL_law_2080 (by decide) ?_
        cases h
  · have h := x_iff h c9
    refine lv_iconst (v := 0) hx hb dL_law_2063 (by decide) ?_
    cases h
def gL_40 (σ : x_S) (a1 a2 : Int32) : Option x_S := (Option.bind (fX6_leaseTicks σ ) fun r1 => (Option.bind (fX7_leaseTicks (σ 11) ) fun r3 => x_let (x_sh σ 11 r3.2) fun τ5 => (if r1 = r3.1 then some τ5 else none)))
set_option maxHeartbeats 4000000 in
set_option maxRecDepth 100000 in
theorem wL_40 {p : Program} {l : Launch} {e : Env} {s : State} {m : MethodId} {below : List Frame} {meth : Method} {c : Code} {H : Heap} {locs : List Loc} {cells slots : Nat} {Q : State → Prop} {X : x_T} {σ : x_S} {b L : Nat} {xs : Nat → Int32} {ls : Array Slot} {i a1 a2 : Int32} {r : x_S} (FF : xw_F p l s m meth c b L xs X) (hi1 : x_in (i + (1 : Int32)) L) (hi2 : x_in (i + (2 : Int32)) L) (he1 : xs (i + (1 : Int32)).toNatClampNeg = a1) (he2 : xs (i + (2 : Int32)).toNatClampNeg = a2) (hf0 : cells ≤ room_1.cells ∧ slots ≤ room_1.slots) (hf1 : cells + 1 ≤ room_1.cells ∧ slots + 6 ≤ room_1.slots) (h : gL_40 σ a1 a2 = some r) (hI : x_I X σ s H locs) (hl : lv_has ls 9 (xw_lv X b i)) (kk : ∀ (H1 : Heap) (locs1 : List Loc) (ls1 : Array Slot), x_I X r s H1 locs1 → lv_has ls1 9 (xw_lv X b i) → W p l e room_1 s m #[Value.ref b] below meth c H1 locs1 (cells + 1) (slots + 6) Q (F0 m 2520 ls1 [])) : W p l e room_1 s m #[Value.ref b] below meth c H locs cells slots Q (F0 m 2085 ls []) := by
  have F := FF.1
  have Z := FF.2.2.1
  have hx := F.1
  have hb := F.2.1
  have hml := F.2.2.1
  have hown := F.2.2.2.1
  have hts := F.2.2.2.2.1
  unfold gL_40 at h
  refine lv_aload_n hx hb dL_law_2085 rfl (lv_at hl 1 rfl) ?_
  obtain ⟨r1, h2, h⟩ := x_bnd h
  refine x_aci hI (x_runV (rest := []) F hI (mX6_leaseTicks l X _ σ  r1 h2) g_L_270 ⟨rfl, hd_X6_leaseTicks⟩ ⟨by decide, by decide⟩ ⟨rfl, rfl⟩ (x_inO (by decide)) rfl rfl rfl rfl hl.1 rfl (Nat.le_of_ble_eq_true rfl) dL_law_2086 hf0) (fun H locs hI => ?_)
  refine lv_aload_n hx hb dL_law_2089 rfl (lv_at hl 2 rfl) ?_
  obtain ⟨r3, h4, h⟩ := x_bnd h
  have hI := x_toH 11 hI
  refine x_aci hI (x_runV (rest := [.int r1]) F hI (mX7_leaseTicks l X σ _ (σ 11)  r3 h4) g_L_273 ⟨rfl, hd_X7_leaseTicks⟩ ⟨by decide, by decide⟩ ⟨rfl, rfl⟩ (x_inO (by decide)) rfl rfl rfl rfl hl.1 rfl (Nat.le_of_ble_eq_true rfl) dL_law_2090 hf0) (fun H locs hI => ?_)
  obtain ⟨τ5, e6⟩ : ∃ z : x_S, z = (x_sh σ 11 r3.2) := ⟨_, rfl⟩
  rw [← e6] at hI
  have h := x_let_at h e6
  refine lv_icmp_eq (tgt := 2520) hx hb dL_law_2093 (by decide) (fun c7 => ?_) (fun c7 => ?_)
  · have h := x_ift h c7
    rw [x_some h] at kk
    exact W.widen (by omega) (by omega) (kk H locs ls hI (lv_sub hl [0, 1, 2, 3, 4] rfl))
  · have h := x_iff h c7
    refine lv_iconst (v := 0) hx hb dL_law_2096 (by decide) ?_
    cases h
def gL_41 (σ : x_S) (a1 a2 : Int32) : Option x_S := (Option.bind (fX6_holdTicks σ ) fun r1 => (Option.bind (fX7_holdTicks (σ 11) ) fun r3 => x_let (x_sh σ 11 r3.2) fun τ5 => (if r1 = r3.1 then some τ5 else none)))
set_option maxHeartbeats 4000000 in
set_option maxRecDepth 100000 in
theorem wL_41 {p : Program} {l : Launch} {e : Env} {s : State} {m : MethodId} {below : List Frame} {meth : Method} {c : Code} {H : Heap} {locs : List Loc} {cells slots : Nat} {Q : State → Prop} {X : x_T} {σ : x_S} {b L : Nat} {xs : Nat → Int32} {ls : Array Slot} {i a1 a2 : Int32} {r : x_S} (FF : xw_F p l s m meth c b L xs X) (hi1 : x_in (i + (1 : Int32)) L) (hi2 : x_in (i + (2 : Int32)) L) (he1 : xs (i + (1 : Int32)).toNatClampNeg = a1) (he2 : xs (i + (2 : Int32)).toNatClampNeg = a2) (hf0 : cells ≤ room_1.cells ∧ slots ≤ room_1.slots) (hf1 : cells + 1 ≤ room_1.cells ∧ slots + 6 ≤ room_1.slots) (h : gL_41 σ a1 a2 = some r) (hI : x_I X σ s H locs) (hl : lv_has ls 9 (xw_lv X b i)) (kk : ∀ (H1 : Heap) (locs1 : List Loc) (ls1 : Array Slot), x_I X r s H1 locs1 → lv_has ls1 9 (xw_lv X b i) → W p l e room_1 s m #[Value.ref b] below meth c H1 locs1 (cells + 1) (slots + 6) Q (F0 m 2520 ls1 [])) : W p l e room_1 s m #[Value.ref b] below meth c H locs cells slots Q (F0 m 2098 ls []) := by
  have F := FF.1
  have Z := FF.2.2.1
  have hx := F.1
  have hb := F.2.1
  have hml := F.2.2.1
  have hown := F.2.2.2.1
  have hts := F.2.2.2.2.1
  unfold gL_41 at h
  refine lv_aload_n hx hb dL_law_2098 rfl (lv_at hl 1 rfl) ?_
  obtain ⟨r1, h2, h⟩ := x_bnd h
  refine x_aci hI (x_runV (rest := []) F hI (mX6_holdTicks l X _ σ  r1 h2) g_L_274 ⟨rfl, hd_X6_holdTicks⟩ ⟨by decide, by decide⟩ ⟨rfl, rfl⟩ (x_inO (by decide)) rfl rfl rfl rfl hl.1 rfl (Nat.le_of_ble_eq_true rfl) dL_law_2099 hf0) (fun H locs hI => ?_)
  refine lv_aload_n hx hb dL_law_2102 rfl (lv_at hl 2 rfl) ?_
  obtain ⟨r3, h4, h⟩ := x_bnd h
  have hI := x_toH 11 hI
  refine x_aci hI (x_runV (rest := [.int r1]) F hI (mX7_holdTicks l X σ _ (σ 11)  r3 h4) g_L_277 ⟨rfl, hd_X7_holdTicks⟩ ⟨by decide, by decide⟩ ⟨rfl, rfl⟩ (x_inO (by decide)) rfl rfl rfl rfl hl.1 rfl (Nat.le_of_ble_eq_true rfl) dL_law_2103 hf0) (fun H locs hI => ?_)
  obtain ⟨τ5, e6⟩ : ∃ z : x_S, z = (x_sh σ 11 r3.2) := ⟨_, rfl⟩
  rw [← e6] at hI
  have h := x_let_at h e6
  refine lv_icmp_eq (tgt := 2520) hx hb dL_law_2106 (by decide) (fun c7 => ?_) (fun c7 => ?_)
  · have h := x_ift h c7
    rw [x_some h] at kk
    exact W.widen (by omega) (by omega) (kk H locs ls hI (lv_sub hl [0, 1, 2, 3, 4] rfl))
  · have h := x_iff h c7
    refine lv_iconst (v := 0) hx hb dL_law_2109 (by decide) ?_
    cases h
def gL_42 (σ : x_S) (a1 a2 : Int32) : Option x_S := (Option.bind (fX6_shutTicks σ ) fun r1 => (Option.bind (fX7_shutTicks (σ 11) ) fun r3 => x_let (x_sh σ 11 r3.2) fun τ5 => (if r1 = r3.1 then some τ5 else none)))
set_option maxHeartbeats 4000000 in
set_option maxRecDepth 100000 in
theorem wL_42 {p : Program} {l : Launch} {e : Env} {s : State} {m : MethodId} {below : List Frame} {meth : Method} {c : Code} {H : Heap} {locs : List Loc} {cells slots : Nat} {Q : State → Prop} {X : x_T} {σ : x_S} {b L : Nat} {xs : Nat → Int32} {ls : Array Slot} {i a1 a2 : Int32} {r : x_S} (FF : xw_F p l s m meth c b L xs X) (hi1 : x_in (i + (1 : Int32)) L) (hi2 : x_in (i + (2 : Int32)) L) (he1 : xs (i + (1 : Int32)).toNatClampNeg = a1) (he2 : xs (i + (2 : Int32)).toNatClampNeg = a2) (hf0 : cells ≤ room_1.cells ∧ slots ≤ room_1.slots) (hf1 : cells + 1 ≤ room_1.cells ∧ slots + 6 ≤ room_1.slots) (h : gL_42 σ a1 a2 = some r) (hI : x_I X σ s H locs) (hl : lv_has ls 9 (xw_lv X b i)) (kk : ∀ (H1 : Heap) (locs1 : List Loc) (ls1 : Array Slot), x_I X r s H1 locs1 → lv_has ls1 9 (xw_lv X b i) → W p l e room_1 s m #[Value.ref b] below meth c H1 locs1 (cells + 1) (slots + 6) Q (F0 m 2520 ls1 [])) : W p l e room_1 s m #[Value.ref b] below meth c H locs cells slots Q (F0 m 2111 ls []) := by
  have F := FF.1
  have Z := FF.2.2.1
  have hx := F.1
  have hb := F.2.1
  have hml := F.2.2.1
  have hown := F.2.2.2.1
  have hts := F.2.2.2.2.1
  unfold gL_42 at h
  refine lv_aload_n hx hb dL_law_2111 rfl (lv_at hl 1 rfl) ?_
  obtain ⟨r1, h2, h⟩ := x_bnd h
  refine x_aci hI (x_runV (rest := []) F hI (mX6_shutTicks l X _ σ  r1 h2) g_L_278 ⟨rfl, hd_X6_shutTicks⟩ ⟨by decide, by decide⟩ ⟨rfl, rfl⟩ (x_inO (by decide)) rfl rfl rfl rfl hl.1 rfl (Nat.le_of_ble_eq_true rfl) dL_law_2112 hf0) (fun H locs hI => ?_)
  refine lv_aload_n hx hb dL_law_2115 rfl (lv_at hl 2 rfl) ?_
  obtain ⟨r3, h4, h⟩ := x_bnd h
  have hI := x_toH 11 hI
  refine x_aci hI (x_runV (rest := [.int r1]) F hI (mX7_shutTicks l X σ _ (σ 11)  r3 h4) g_L_281 ⟨rfl, hd_X7_shutTicks⟩ ⟨by decide, by decide⟩ ⟨rfl, rfl⟩ (x_inO (by decide)) rfl rfl rfl rfl hl.1 rfl (Nat.le_of_ble_eq_true rfl) dL_law_2116 hf0) (fun H locs hI => ?_)
  obtain ⟨τ5, e6⟩ : ∃ z : x_S, z = (x_sh σ 11 r3.2) := ⟨_, rfl⟩
  rw [← e6] at hI
  have h := x_let_at h e6
  refine lv_icmp_eq (tgt := 2520) hx hb dL_law_2119 (by decide) (fun c7 => ?_) (fun c7 => ?_)
  · have h := x_ift h c7
    rw [x_some h] at kk
    exact W.widen (by omega) (by omega) (kk H locs ls hI (lv_sub hl [0, 1, 2, 3, 4] rfl))
  · have h := x_iff h c7
    refine lv_iconst (v := 0) hx hb dL_law_2122 (by decide) ?_
    cases h
def gL_43 (σ : x_S) (a1 a2 : Int32) : Option x_S := (Option.bind (fX6_messages σ ) fun r1 => (Option.bind (fX7_messages (σ 11) ) fun r3 => x_let (x_sh σ 11 r3.2) fun τ5 => (if r1 = r3.1 then some τ5 else none)))
set_option maxHeartbeats 4000000 in
set_option maxRecDepth 100000 in
theorem wL_43 {p : Program} {l : Launch} {e : Env} {s : State} {m : MethodId} {below : List Frame} {meth : Method} {c : Code} {H : Heap} {locs : List Loc} {cells slots : Nat} {Q : State → Prop} {X : x_T} {σ : x_S} {b L : Nat} {xs : Nat → Int32} {ls : Array Slot} {i a1 a2 : Int32} {r : x_S} (FF : xw_F p l s m meth c b L xs X) (hi1 : x_in (i + (1 : Int32)) L) (hi2 : x_in (i + (2 : Int32)) L) (he1 : xs (i + (1 : Int32)).toNatClampNeg = a1) (he2 : xs (i + (2 : Int32)).toNatClampNeg = a2) (hf0 : cells ≤ room_1.cells ∧ slots ≤ room_1.slots) (hf1 : cells + 1 ≤ room_1.cells ∧ slots + 6 ≤ room_1.slots) (h : gL_43 σ a1 a2 = some r) (hI : x_I X σ s H locs) (hl : lv_has ls 9 (xw_lv X b i)) (kk : ∀ (H1 : Heap) (locs1 : List Loc) (ls1 : Array Slot), x_I X r s H1 locs1 → lv_has ls1 9 (xw_lv X b i) → W p l e room_1 s m #[Value.ref b] below meth c H1 locs1 (cells + 1) (slots + 6) Q (F0 m 2520 ls1 [])) : W p l e room_1 s m #[Value.ref b] below meth c H locs cells slots Q (F0 m 2124 ls []) := by
  have F := FF.1
  have Z := FF.2.2.1
  have hx := F.1
  have hb := F.2.1
  have hml := F.2.2.1
  have hown := F.2.2.2.1
  have hts := F.2.2.2.2.1
  unfold gL_43 at h
  refine lv_aload_n hx hb dL_law_2124 rfl (lv_at hl 1 rfl) ?_
  obtain ⟨r1, h2, h⟩ := x_bnd h
  refine x_aci hI (x_runV (rest := []) F hI (mX6_messages l X _ σ  r1 h2) g_L_282 ⟨rfl, hd_X6_messages⟩ ⟨by decide, by decide⟩ ⟨rfl, rfl⟩ (x_inO (by decide)) rfl rfl rfl rfl hl.1 rfl (Nat.le_of_ble_eq_true rfl) dL_law_2125 hf0) (fun H locs hI => ?_)
  refine lv_aload_n hx hb dL_law_2128 rfl (lv_at hl 2 rfl) ?_
  obtain ⟨r3, h4, h⟩ := x_bnd h
  have hI := x_toH 11 hI
  refine x_aci hI (x_runV (rest := [.int r1]) F hI (mX7_messages l X σ _ (σ 11)  r3 h4) g_L_285 ⟨rfl, hd_X7_messages⟩ ⟨by decide, by decide⟩ ⟨rfl, rfl⟩ (x_inO (by decide)) rfl rfl rfl rfl hl.1 rfl (Nat.le_of_ble_eq_true rfl) dL_law_2129 hf0) (fun H locs hI => ?_)
  obtain ⟨τ5, e6⟩ : ∃ z : x_S, z = (x_sh σ 11 r3.2) := ⟨_, rfl⟩
  rw [← e6] at hI
  have h := x_let_at h e6
  refine lv_icmp_eq (tgt := 2520) hx hb dL_law_2132 (by decide) (fun c7 => ?_) (fun c7 => ?_)
  · have h := x_ift h c7
    rw [x_some h] at kk
    exact W.widen (by omega) (by omega) (kk H locs ls hI (lv_sub hl [0, 1, 2, 3, 4] rfl))
  · have h := x_iff h c7
    refine lv_iconst (v := 0) hx hb dL_law_2135 (by decide) ?_
    cases h
def gL_44 (σ : x_S) (a1 a2 : Int32) : Option x_S := (Option.bind (fL_kindAt σ a1) fun r1 => (Option.bind (fX7_kindAt (r1.2 11) a1) fun r3 => x_let (x_sh r1.2 11 r3.2) fun τ5 => (Option.bind (fX7_thrown (τ5 11) ) fun r7 => (if r7 = r1.1 then (if r1.1 = 0 then (if (lg_cmp (τ5 12 48 (Int32.toNatClampNeg (0 : Int32))).toInt64 (r3.1).toInt64) = 0 then some τ5 else none) else some τ5) else none))))
set_option maxHeartbeats 4000000 in
set_option maxRecDepth 100000 in
theorem wL_44 {p : Program} {l : Launch} {e : Env} {s : State} {m : MethodId} {below : List Frame} {meth : Method} {c : Code} {H : Heap} {locs : List Loc} {cells slots : Nat} {Q : State → Prop} {X : x_T} {σ : x_S} {b L : Nat} {xs : Nat → Int32} {ls : Array Slot} {i a1 a2 : Int32} {r : x_S} (FF : xw_F p l s m meth c b L xs X) (hi1 : x_in (i + (1 : Int32)) L) (hi2 : x_in (i + (2 : Int32)) L) (he1 : xs (i + (1 : Int32)).toNatClampNeg = a1) (he2 : xs (i + (2 : Int32)).toNatClampNeg = a2) (hf0 : cells ≤ room_1.cells ∧ slots ≤ room_1.slots) (hf1 : cells + 1 ≤ room_1.cells ∧ slots + 6 ≤ room_1.slots) (h : gL_44 σ a1 a2 = some r) (hI : x_I X σ s H locs) (hl : lv_has ls 9 (xw_lv X b i)) (kk : ∀ (H1 : Heap) (locs1 : List Loc) (ls1 : Array Slot), x_I X r s H1 locs1 → lv_has ls1 9 (xw_lv X b i) → W p l e room_1 s m #[Value.ref b] below meth c H1 locs1 (cells + 1) (slots + 6) Q (F0 m 2520 ls1 [])) : W p l e room_1 s m #[Value.ref b] below meth c H locs cells slots Q (F0 m 2137 ls []) := by
  have F := FF.1
  have Z := FF.2.2.1
  have hx := F.1
  have hb := F.2.1
  have hml := F.2.2.1
  have hown := F.2.2.2.1
  have hts := F.2.2.2.2.1
  unfold gL_44 at h
  refine lv_aload_n hx hb dL_law_2137 rfl (lv_at hl 1 rfl) ?_
  refine lv_aload_n hx hb dL_law_2138 rfl (lv_at hl 0 rfl) ?_
  refine lv_iload hx hb dL_law_2139 (lv_at hl 4 rfl) ?_
  refine lv_iconst (v := 1) hx hb dL_law_2141 (by decide) ?_
  refine lv_iadd hx hb dL_law_2142 ?_
  refine xw_sld FF hI hi1 he1 dL_law_2143 ?_
  refine lv_aload_n hx hb dL_law_2144 rfl (lv_at hl 3 rfl) ?_
  obtain ⟨r1, h2, h⟩ := x_bnd h
  refine xw_aci hI (xw_run (rest := []) F Z hI (mL_kindAt l FF.2.1 X _ σ a1 r1 h2) gw_L_286 hd_L_kindAt ⟨by decide, by decide⟩ ⟨rfl, rfl⟩ rfl hl.1 rfl (Nat.le_of_ble_eq_true rfl) dL_law_2145 hf1) (fun H locs hI => ?_)
  refine lv_istore (lv' := [(5, .int r1.1), (0, .ref b), (1, .ref (X.2.2 10 32)), (2, .ref (X.2.2 11 40)), (3, .ref (X.2.2 12 48)), (4, .int i)]) hx hb dL_law_2148 hl (by decide) rfl (fun ls hl => ?_)
  refine lv_aload_n hx hb dL_law_2150 rfl (lv_at hl 3 rfl) ?_
  refine lv_aload_n hx hb dL_law_2151 rfl (lv_at hl 1 rfl) ?_
  refine lv_iload hx hb dL_law_2152 (lv_at hl 5 rfl) ?_
  refine lv_iconst (v := 1) hx hb dL_law_2154 (by decide) ?_
  refine lv_iadd hx hb dL_law_2155 ?_
  refine xw_sld FF hI hi1 he1 dL_law_2156 ?_
  obtain ⟨r3, h4, h⟩ := x_bnd h
  have hI := x_toH 11 hI
  refine x_aci hI (x_runV (rest := []) F hI (mX7_kindAt l X r1.2 _ (r1.2 11) a1 r3 h4) g_L_288 ⟨rfl, hd_X7_kindAt⟩ ⟨by decide, by decide⟩ ⟨rfl, rfl⟩ (x_inO (by decide)) rfl rfl rfl rfl hl.1 rfl (Nat.le_of_ble_eq_true rfl) dL_law_2157 hf1) (fun H locs hI => ?_)
  obtain ⟨τ5, e6⟩ : ∃ z : x_S, z = (x_sh r1.2 11 r3.2) := ⟨_, rfl⟩
  rw [← e6] at hI
  have h := x_let_at h e6
  refine lv_istore (lv' := [(6, .int r3.1), (5, .int r1.1), (0, .ref b), (1, .ref (X.2.2 10 32)), (2, .ref (X.2.2 11 40)), (3, .ref (X.2.2 12 48)), (4, .int i)]) hx hb dL_law_2160 hl (by decide) rfl (fun ls hl => ?_)
  refine lv_aload_n hx hb dL_law_2162 rfl (lv_at hl 4 rfl) ?_
  obtain ⟨r7, h8, h⟩ := x_bnd h
  have hI := x_toH 11 hI
  refine x_aci hI (x_runV (rest := []) F hI (mX7_thrown l X τ5 _ (τ5 11)  r7 h8) g_L_138 ⟨rfl, hd_X7_thrown⟩ ⟨by decide, by decide⟩ ⟨rfl, rfl⟩ (x_inO (by decide)) rfl rfl rfl rfl hl.1 rfl (Nat.le_of_ble_eq_true rfl) dL_law_2163 hf1) (fun H locs hI => ?_)
  rw [x_sh_self] at hI
  refine lv_iload hx hb dL_law_2166 (lv_at hl 1 rfl) ?_
  refine lv_icmp_eq (tgt := 2173) hx hb dL_law_2168 (by decide) (fun c9 => ?_) (fun c9 => ?_)
  · have h := x_ift h c9
    refine lv_iload hx hb dL_law_2173 (lv_at hl 1 rfl) ?_
    refine lv_if_ne (tgt := 2190) hx hb dL_law_2175 (by decide) (fun c10 => ?_) (fun c10 => ?_)
    · have h := x_iff h c10
      refine lv_goto (tgt := 2520) hx hb dL_law_2190 (by decide) ?_
      rw [x_some h] at kk
      exact W.widen (by omega) (by omega) (kk H locs ls hI (lv_sub hl [2, 3, 4, 5, 6] rfl))
    · have h := x_ift h c10
      refine lv_aload_n hx hb dL_law_2178 rfl (lv_at hl 5 rfl) ?_
      refine lv_iconst (v := 0) hx hb dL_law_2179 (by decide) ?_
      refine x_lald F hI (by decide) dL_law_2180 ?_
      refine lv_iload hx hb dL_law_2181 (lv_at hl 0 rfl) ?_
      refine lv_i2l hx hb dL_law_2183 rfl ?_
      refine W.lcmp hx hb dL_law_2184 ?_
      refine lv_if_eq (tgt := 2190) hx hb dL_law_2185 (by decide) (fun c11 => ?_) (fun c11 => ?_)
      · have h := x_ift h c11
        refine lv_goto (tgt := 2520) hx hb dL_law_2190 (by decide) ?_
        rw [x_some h] at kk
        exact W.widen (by omega) (by omega) (kk H locs ls hI (lv_sub hl [2, 3, 4, 5, 6] rfl))
      · have h := x_iff h c11
        refine lv_iconst (v := 0) hx hb dL_law_2188 (by decide) ?_
        cases h
  · have h := x_iff h c9
    refine lv_iconst (v := 0) hx hb dL_law_2171 (by decide) ?_
    cases h
def gL_45 (σ : x_S) (a1 a2 : Int32) : Option x_S := (Option.bind (fL_guestAt σ a1) fun r1 => (Option.bind (fX7_guestAt (r1.2 11) a1) fun r3 => x_let (x_sh r1.2 11 r3.2) fun τ5 => (Option.bind (fX7_thrown (τ5 11) ) fun r7 => (if r7 = r1.1 then (if r1.1 = 0 then (if (lg_cmp (τ5 12 48 (Int32.toNatClampNeg (0 : Int32))).toInt64 (r3.1).toInt64) = 0 then some τ5 else none) else some τ5) else none))))
set_option maxHeartbeats 4000000 in
set_option maxRecDepth 100000 in
theorem wL_45 {p : Program} {l : Launch} {e : Env} {s : State} {m : MethodId} {below : List Frame} {meth : Method} {c : Code} {H : Heap} {locs : List Loc} {cells slots : Nat} {Q : State → Prop} {X : x_T} {σ : x_S} {b L : Nat} {xs : Nat → Int32} {ls : Array Slot} {i a1 a2 : Int32} {r : x_S} (FF : xw_F p l s m meth c b L xs X) (hi1 : x_in (i + (1 : Int32)) L) (hi2 : x_in (i + (2 : Int32)) L) (he1 : xs (i + (1 : Int32)).toNatClampNeg = a1) (he2 : xs (i + (2 : Int32)).toNatClampNeg = a2) (hf0 : cells ≤ room_1.cells ∧ slots ≤ room_1.slots) (hf1 : cells + 1 ≤ room_1.cells ∧ slots + 6 ≤ room_1.slots) (h : gL_45 σ a1 a2 = some r) (hI : x_I X σ s H locs) (hl : lv_has ls 9 (xw_lv X b i)) (kk : ∀ (H1 : Heap) (locs1 : List Loc) (ls1 : Array Slot), x_I X r s H1 locs1 → lv_has ls1 9 (xw_lv X b i) → W p l e room_1 s m #[Value.ref b] below meth c H1 locs1 (cells + 1) (slots + 6) Q (F0 m 2520 ls1 [])) : W p l e room_1 s m #[Value.ref b] below meth c H locs cells slots Q (F0 m 2193 ls []) := by
  have F := FF.1
  have Z := FF.2.2.1
  have hx := F.1
  have hb := F.2.1
  have hml := F.2.2.1
  have hown := F.2.2.2.1
  have hts := F.2.2.2.2.1
  unfold gL_45 at h
  refine lv_aload_n hx hb dL_law_2193 rfl (lv_at hl 1 rfl) ?_
  refine lv_aload_n hx hb dL_law_2194 rfl (lv_at hl 0 rfl) ?_
  refine lv_iload hx hb dL_law_2195 (lv_at hl 4 rfl) ?_
  refine lv_iconst (v := 1) hx hb dL_law_2197 (by decide) ?_
  refine lv_iadd hx hb dL_law_2198 ?_
  refine xw_sld FF hI hi1 he1 dL_law_2199 ?_
  refine lv_aload_n hx hb dL_law_2200 rfl (lv_at hl 3 rfl) ?_
  obtain ⟨r1, h2, h⟩ := x_bnd h
  refine xw_aci hI (xw_run (rest := []) F Z hI (mL_guestAt l FF.2.1 X _ σ a1 r1 h2) gw_L_289 hd_L_guestAt ⟨by decide, by decide⟩ ⟨rfl, rfl⟩ rfl hl.1 rfl (Nat.le_of_ble_eq_true rfl) dL_law_2201 hf1) (fun H locs hI => ?_)
  refine lv_istore (lv' := [(5, .int r1.1), (0, .ref b), (1, .ref (X.2.2 10 32)), (2, .ref (X.2.2 11 40)), (3, .ref (X.2.2 12 48)), (4, .int i)]) hx hb dL_law_2204 hl (by decide) rfl (fun ls hl => ?_)
  refine lv_aload_n hx hb dL_law_2206 rfl (lv_at hl 3 rfl) ?_
  refine lv_aload_n hx hb dL_law_2207 rfl (lv_at hl 1 rfl) ?_
  refine lv_iload hx hb dL_law_2208 (lv_at hl 5 rfl) ?_
  refine lv_iconst (v := 1) hx hb dL_law_2210 (by decide) ?_
  refine lv_iadd hx hb dL_law_2211 ?_
  refine xw_sld FF hI hi1 he1 dL_law_2212 ?_
  obtain ⟨r3, h4, h⟩ := x_bnd h
  have hI := x_toH 11 hI
  refine x_aci hI (x_runV (rest := []) F hI (mX7_guestAt l X r1.2 _ (r1.2 11) a1 r3 h4) g_L_291 ⟨rfl, hd_X7_guestAt⟩ ⟨by decide, by decide⟩ ⟨rfl, rfl⟩ (x_inO (by decide)) rfl rfl rfl rfl hl.1 rfl (Nat.le_of_ble_eq_true rfl) dL_law_2213 hf1) (fun H locs hI => ?_)
  obtain ⟨τ5, e6⟩ : ∃ z : x_S, z = (x_sh r1.2 11 r3.2) := ⟨_, rfl⟩
  rw [← e6] at hI
  have h := x_let_at h e6
  refine lv_istore (lv' := [(6, .int r3.1), (5, .int r1.1), (0, .ref b), (1, .ref (X.2.2 10 32)), (2, .ref (X.2.2 11 40)), (3, .ref (X.2.2 12 48)), (4, .int i)]) hx hb dL_law_2216 hl (by decide) rfl (fun ls hl => ?_)
  refine lv_aload_n hx hb dL_law_2218 rfl (lv_at hl 4 rfl) ?_
  obtain ⟨r7, h8, h⟩ := x_bnd h
  have hI := x_toH 11 hI
  refine x_aci hI (x_runV (rest := []) F hI (mX7_thrown l X τ5 _ (τ5 11)  r7 h8) g_L_138 ⟨rfl, hd_X7_thrown⟩ ⟨by decide, by decide⟩ ⟨rfl, rfl⟩ (x_inO (by decide)) rfl rfl rfl rfl hl.1 rfl (Nat.le_of_ble_eq_true rfl) dL_law_2219 hf1) (fun H locs hI => ?_)
  rw [x_sh_self] at hI
  refine lv_iload hx hb dL_law_2222 (lv_at hl 1 rfl) ?_
  refine lv_icmp_eq (tgt := 2229) hx hb dL_law_2224 (by decide) (fun c9 => ?_) (fun c9 => ?_)
  · have h := x_ift h c9
    refine lv_iload hx hb dL_law_2229 (lv_at hl 1 rfl) ?_
    refine lv_if_ne (tgt := 2246) hx hb dL_law_2231 (by decide) (fun c10 => ?_) (fun c10 => ?_)
    · have h := x_iff h c10
      refine lv_goto (tgt := 2520) hx hb dL_law_2246 (by decide) ?_
      rw [x_some h] at kk
      exact W.widen (by omega) (by omega) (kk H locs ls hI (lv_sub hl [2, 3, 4, 5, 6] rfl))
    · have h := x_ift h c10
      refine lv_aload_n hx hb dL_law_2234 rfl (lv_at hl 5 rfl) ?_
      refine lv_iconst (v := 0) hx hb dL_law_2235 (by decide) ?_
      refine x_lald F hI (by decide) dL_law_2236 ?_
      refine lv_iload hx hb dL_law_2237 (lv_at hl 0 rfl) ?_
      refine lv_i2l hx hb dL_law_2239 rfl ?_
      refine W.lcmp hx hb dL_law_2240 ?_
      refine lv_if_eq (tgt := 2246) hx hb dL_law_2241 (by decide) (fun c11 => ?_) (fun c11 => ?_)
      · have h := x_ift h c11
        refine lv_goto (tgt := 2520) hx hb dL_law_2246 (by decide) ?_
        rw [x_some h] at kk
        exact W.widen (by omega) (by omega) (kk H locs ls hI (lv_sub hl [2, 3, 4, 5, 6] rfl))
      · have h := x_iff h c11
        refine lv_iconst (v := 0) hx hb dL_law_2244 (by decide) ?_
        cases h
  · have h := x_iff h c9
    refine lv_iconst (v := 0) hx hb dL_law_2227 (by decide) ?_
    cases h
def gL_46 (σ : x_S) (a1 a2 : Int32) : Option x_S := (Option.bind (fL_roomAt σ a1) fun r1 => (Option.bind (fX7_roomAt (r1.2 11) a1) fun r3 => x_let (x_sh r1.2 11 r3.2) fun τ5 => (Option.bind (fX7_thrown (τ5 11) ) fun r7 => (if r7 = r1.1 then (if r1.1 = 0 then (if (lg_cmp (τ5 12 48 (Int32.toNatClampNeg (0 : Int32))).toInt64 (r3.1).toInt64) = 0 then some τ5 else none) else some τ5) else none))))
set_option maxHeartbeats 4000000 in
set_option maxRecDepth 100000 in
theorem wL_46 {p : Program} {l : Launch} {e : Env} {s : State} {m : MethodId} {below : List Frame} {meth : Method} {c : Code} {H : Heap} {locs : List Loc} {cells slots : Nat} {Q : State → Prop} {X : x_T} {σ : x_S} {b L : Nat} {xs : Nat → Int32} {ls : Array Slot} {i a1 a2 : Int32} {r : x_S} (FF : xw_F p l s m meth c b L xs X) (hi1 : x_in (i + (1 : Int32)) L) (hi2 : x_in (i + (2 : Int32)) L) (he1 : xs (i + (1 : Int32)).toNatClampNeg = a1) (he2 : xs (i + (2 : Int32)).toNatClampNeg = a2) (hf0 : cells ≤ room_1.cells ∧ slots ≤ room_1.slots) (hf1 : cells + 1 ≤ room_1.cells ∧ slots + 6 ≤ room_1.slots) (h : gL_46 σ a1 a2 = some r) (hI : x_I X σ s H locs) (hl : lv_has ls 9 (xw_lv X b i)) (kk : ∀ (H1 : Heap) (locs1 : List Loc) (ls1 : Array Slot), x_I X r s H1 locs1 → lv_has ls1 9 (xw_lv X b i) → W p l e room_1 s m #[Value.ref b] below meth c H1 locs1 (cells + 1) (slots + 6) Q (F0 m 2520 ls1 [])) : W p l e room_1 s m #[Value.ref b] below meth c H locs cells slots Q (F0 m 2249 ls []) := by
  have F := FF.1
  have Z := FF.2.2.1
  have hx := F.1
  have hb := F.2.1
  have hml := F.2.2.1
  have hown := F.2.2.2.1
  have hts := F.2.2.2.2.1
  unfold gL_46 at h
  refine lv_aload_n hx hb dL_law_2249 rfl (lv_at hl 1 rfl) ?_
  refine lv_aload_n hx hb dL_law_2250 rfl (lv_at hl 0 rfl) ?_
  refine lv_iload hx hb dL_law_2251 (lv_at hl 4 rfl) ?_
  refine lv_iconst (v := 1) hx hb dL_law_2253 (by decide) ?_
  refine lv_iadd hx hb dL_law_2254 ?_
  refine xw_sld FF hI hi1 he1 dL_law_2255 ?_
  refine lv_aload_n hx hb dL_law_2256 rfl (lv_at hl 3 rfl) ?_
  obtain ⟨r1, h2, h⟩ := x_bnd h
  refine xw_aci hI (xw_run (rest := []) F Z hI (mL_roomAt l FF.2.1 X _ σ a1 r1 h2) gw_L_292 hd_L_roomAt ⟨by decide, by decide⟩ ⟨rfl, rfl⟩ rfl hl.1 rfl (Nat.le_of_ble_eq_true rfl) dL_law_2257 hf1) (fun H locs hI => ?_)
  refine lv_istore (lv' := [(5, .int r1.1), (0, .ref b), (1, .ref (X.2.2 10 32)), (2, .ref (X.2.2 11 40)), (3, .ref (X.2.2 12 48)), (4, .int i)]) hx hb dL_law_2260 hl (by decide) rfl (fun ls hl => ?_)
  refine lv_aload_n hx hb dL_law_2262 rfl (lv_at hl 3 rfl) ?_
  refine lv_aload_n hx hb dL_law_2263 rfl (lv_at hl 1 rfl) ?_
  refine lv_iload hx hb dL_law_2264 (lv_at hl 5 rfl) ?_
  refine lv_iconst (v := 1) hx hb dL_law_2266 (by decide) ?_
  refine lv_iadd hx hb dL_law_2267 ?_
  refine xw_sld FF hI hi1 he1 dL_law_2268 ?_
  obtain ⟨r3, h4, h⟩ := x_bnd h
  have hI := x_toH 11 hI
  refine x_aci hI (x_runV (rest := []) F hI (mX7_roomAt l X r1.2 _ (r1.2 11) a1 r3 h4) g_L_294 ⟨rfl, hd_X7_roomAt⟩ ⟨by decide, by decide⟩ ⟨rfl, rfl⟩ (x_inO (by decide)) rfl rfl rfl rfl hl.1 rfl (Nat.le_of_ble_eq_true rfl) dL_law_2269 hf1) (fun H locs hI => ?_)
  obtain ⟨τ5, e6⟩ : ∃ z : x_S, z = (x_sh r1.2 11 r3.2) := ⟨_, rfl⟩
  rw [← e6] at hI
  have h := x_let_at h e6
  refine lv_istore (lv' := [(6, .int r3.1), (5, .int r1.1), (0, .ref b), (1, .ref (X.2.2 10 32)), (2, .ref (X.2.2 11 40)), (3, .ref (X.2.2 12 48)), (4, .int i)]) hx hb dL_law_2272 hl (by decide) rfl (fun ls hl => ?_)
  refine lv_aload_n hx hb dL_law_2274 rfl (lv_at hl 4 rfl) ?_
  obtain ⟨r7, h8, h⟩ := x_bnd h
  have hI := x_toH 11 hI
  refine x_aci hI (x_runV (rest := []) F hI (mX7_thrown l X τ5 _ (τ5 11)  r7 h8) g_L_138 ⟨rfl, hd_X7_thrown⟩ ⟨by decide, by decide⟩ ⟨rfl, rfl⟩ (x_inO (by decide)) rfl rfl rfl rfl hl.1 rfl (Nat.le_of_ble_eq_true rfl) dL_law_2275 hf1) (fun H locs hI => ?_)
  rw [x_sh_self] at hI
  refine lv_iload hx hb dL_law_2278 (lv_at hl 1 rfl) ?_
  refine lv_icmp_eq (tgt := 2285) hx hb dL_law_2280 (by decide) (fun c9 => ?_) (fun c9 => ?_)
  · have h := x_ift h c9
    refine lv_iload hx hb dL_law_2285 (lv_at hl 1 rfl) ?_
    refine lv_if_ne (tgt := 2302) hx hb dL_law_2287 (by decide) (fun c10 => ?_) (fun c10 => ?_)
    · have h := x_iff h c10
      refine lv_goto (tgt := 2520) hx hb dL_law_2302 (by decide) ?_
      rw [x_some h] at kk
      exact W.widen (by omega) (by omega) (kk H locs ls hI (lv_sub hl [2, 3, 4, 5, 6] rfl))
    · have h := x_ift h c10
      refine lv_aload_n hx hb dL_law_2290 rfl (lv_at hl 5 rfl) ?_
      refine lv_iconst (v := 0) hx hb dL_law_2291 (by decide) ?_
      refine x_lald F hI (by decide) dL_law_2292 ?_
      refine lv_iload hx hb dL_law_2293 (lv_at hl 0 rfl) ?_
      refine lv_i2l hx hb dL_law_2295 rfl ?_
      refine W.lcmp hx hb dL_law_2296 ?_
      refine lv_if_eq (tgt := 2302) hx hb dL_law_2297 (by decide) (fun c11 => ?_) (fun c11 => ?_)
      · have h := x_ift h c11
        refine lv_goto (tgt := 2520) hx hb dL_law_2302 (by decide) ?_
        rw [x_some h] at kk
        exact W.widen (by omega) (by omega) (kk H locs ls hI (lv_sub hl [2, 3, 4, 5, 6] rfl))
      · have h := x_iff h c11
        refine lv_iconst (v := 0) hx hb dL_law_2300 (by decide) ?_
        cases h
  · have h := x_iff h c9
    refine lv_iconst (v := 0) hx hb dL_law_2283 (by decide) ?_
    cases h
def gL_47 (σ : x_S) (a1 a2 : Int32) : Option x_S := (Option.bind (fX6_time σ ) fun r1 => (Option.bind (fX7_time (σ 11) ) fun r3 => x_let (x_sh σ 11 r3.2) fun τ5 => (if r1 = r3.1 then some τ5 else none)))
set_option maxHeartbeats 4000000 in
set_option maxRecDepth 100000 in
theorem wL_47 {p : Program} {l : Launch} {e : Env} {s : State} {m : MethodId} {below : List Frame} {meth : Method} {c : Code} {H : Heap} {locs : List Loc} {cells slots : Nat} {Q : State → Prop} {X : x_T} {σ : x_S} {b L : Nat} {xs : Nat → Int32} {ls : Array Slot} {i a1 a2 : Int32} {r : x_S} (FF : xw_F p l s m meth c b L xs X) (hi1 : x_in (i + (1 : Int32)) L) (hi2 : x_in (i + (2 : Int32)) L) (he1 : xs (i + (1 : Int32)).toNatClampNeg = a1) (he2 : xs (i + (2 : Int32)).toNatClampNeg = a2) (hf0 : cells ≤ room_1.cells ∧ slots ≤ room_1.slots) (hf1 : cells + 1 ≤ room_1.cells ∧ slots + 6 ≤ room_1.slots) (h : gL_47 σ a1 a2 = some r) (hI : x_I X σ s H locs) (hl : lv_has ls 9 (xw_lv X b i)) (kk : ∀ (H1 : Heap) (locs1 : List Loc) (ls1 : Array Slot), x_I X r s H1 locs1 → lv_has ls1 9 (xw_lv X b i) → W p l e room_1 s m #[Value.ref b] below meth c H1 locs1 (cells + 1) (slots + 6) Q (F0 m 2520 ls1 [])) : W p l e room_1 s m #[Value.ref b] below meth c H locs cells slots Q (F0 m 2305 ls []) := by
  have F := FF.1
  have Z := FF.2.2.1
  have hx := F.1
  have hb := F.2.1
  have hml := F.2.2.1
  have hown := F.2.2.2.1
  have hts := F.2.2.2.2.1
  unfold gL_47 at h
  refine lv_aload_n hx hb dL_law_2305 rfl (lv_at hl 1 rfl) ?_
  obtain ⟨r1, h2, h⟩ := x_bnd h
  refine x_aci hI (x_runV (rest := []) F hI (mX6_time l X _ σ  r1 h2) g_L_295 ⟨rfl, hd_X6_time⟩ ⟨by decide, by decide⟩ ⟨rfl, rfl⟩ (x_inO (by decide)) rfl rfl rfl rfl hl.1 rfl (Nat.le_of_ble_eq_true rfl) dL_law_2306 hf0) (fun H locs hI => ?_)
  refine lv_aload_n hx hb dL_law_2309 rfl (lv_at hl 2 rfl) ?_
  obtain ⟨r3, h4, h⟩ := x_bnd h
  have hI := x_toH 11 hI
  refine x_aci hI (x_runV (rest := [.int r1]) F hI (mX7_time l X σ _ (σ 11)  r3 h4) g_L_298 ⟨rfl, hd_X7_time⟩ ⟨by decide, by decide⟩ ⟨rfl, rfl⟩ (x_inO (by decide)) rfl rfl rfl rfl hl.1 rfl (Nat.le_of_ble_eq_true rfl) dL_law_2310 hf0) (fun H locs hI => ?_)
  obtain ⟨τ5, e6⟩ : ∃ z : x_S, z = (x_sh σ 11 r3.2) := ⟨_, rfl⟩
  rw [← e6] at hI
  have h := x_let_at h e6
  refine lv_icmp_eq (tgt := 2520) hx hb dL_law_2313 (by decide) (fun c7 => ?_) (fun c7 => ?_)
  · have h := x_ift h c7
    rw [x_some h] at kk
    exact W.widen (by omega) (by omega) (kk H locs ls hI (lv_sub hl [0, 1, 2, 3, 4] rfl))
  · have h := x_iff h c7
    refine lv_iconst (v := 0) hx hb dL_law_2316 (by decide) ?_
    cases h
def gL_48 (σ : x_S) (a1 a2 : Int32) : Option x_S := (Option.bind (fL_sent σ a1) fun r1 => (Option.bind (fX7_sent (r1.2 11) a1) fun r3 => x_let (x_sh r1.2 11 r3.2) fun τ5 => (Option.bind (fX7_thrown (τ5 11) ) fun r7 => (if r7 = r1.1 then (if r1.1 = 0 then (if (lg_cmp (τ5 12 48 (Int32.toNatClampNeg (0 : Int32))).toInt64 (r3.1).toInt64) = 0 then some τ5 else none) else some τ5) else none))))
set_option maxHeartbeats 4000000 in
set_option maxRecDepth 100000 in
theorem wL_48 {p : Program} {l : Launch} {e : Env} {s : State} {m : MethodId} {below : List Frame} {meth : Method} {c : Code} {H : Heap} {locs : List Loc} {cells slots : Nat} {Q : State → Prop} {X : x_T} {σ : x_S} {b L : Nat} {xs : Nat → Int32} {ls : Array Slot} {i a1 a2 : Int32} {r : x_S} (FF : xw_F p l s m meth c b L xs X) (hi1 : x_in (i + (1 : Int32)) L) (hi2 : x_in (i + (2 : Int32)) L) (he1 : xs (i + (1 : Int32)).toNatClampNeg = a1) (he2 : xs (i + (2 : Int32)).toNatClampNeg = a2) (hf0 : cells ≤ room_1.cells ∧ slots ≤ room_1.slots) (hf1 : cells + 1 ≤ room_1.cells ∧ slots + 6 ≤ room_1.slots) (h : gL_48 σ a1 a2 = some r) (hI : x_I X σ s H locs) (hl : lv_has ls 9 (xw_lv X b i)) (kk : ∀ (H1 : Heap) (locs1 : List Loc) (ls1 : Array Slot), x_I X r s H1 locs1 → lv_has ls1 9 (xw_lv X b i) → W p l e room_1 s m #[Value.ref b] below meth c H1 locs1 (cells + 1) (slots + 6) Q (F0 m 2520 ls1 [])) : W p l e room_1 s m #[Value.ref b] below meth c H locs cells slots Q (F0 m 2318 ls []) := by
  have F := FF.1
  have Z := FF.2.2.1
  have hx := F.1
  have hb := F.2.1
  have hml := F.2.2.1
  have hown := F.2.2.2.1
  have hts := F.2.2.2.2.1
  unfold gL_48 at h
  refine lv_aload_n hx hb dL_law_2318 rfl (lv_at hl 1 rfl) ?_
  refine lv_aload_n hx hb dL_law_2319 rfl (lv_at hl 0 rfl) ?_
  refine lv_iload hx hb dL_law_2320 (lv_at hl 4 rfl) ?_
  refine lv_iconst (v := 1) hx hb dL_law_2322 (by decide) ?_
  refine lv_iadd hx hb dL_law_2323 ?_
  refine xw_sld FF hI hi1 he1 dL_law_2324 ?_
  refine lv_aload_n hx hb dL_law_2325 rfl (lv_at hl 3 rfl) ?_
  obtain ⟨r1, h2, h⟩ := x_bnd h
  refine xw_aci hI (xw_run (rest := []) F Z hI (mL_sent l FF.2.1 X _ σ a1 r1 h2) gw_L_299 hd_L_sent ⟨by decide, by decide⟩ ⟨rfl, rfl⟩ rfl hl.1 rfl (Nat.le_of_ble_eq_true rfl) dL_law_2326 hf1) (fun H locs hI => ?_)
  refine lv_istore (lv' := [(5, .int r1.1), (0, .ref b), (1, .ref (X.2.2 10 32)), (2, .ref (X.2.2 11 40)), (3, .ref (X.2.2 12 48)), (4, .int i)]) hx hb dL_law_2329 hl (by decide) rfl (fun ls hl => ?_)
  refine lv_aload_n hx hb dL_law_2331 rfl (lv_at hl 3 rfl) ?_
  refine lv_aload_n hx hb dL_law_2332 rfl (lv_at hl 1 rfl) ?_
  refine lv_iload hx hb dL_law_2333 (lv_at hl 5 rfl) ?_
  refine lv_iconst (v := 1) hx hb dL_law_2335 (by decide) ?_
  refine lv_iadd hx hb dL_law_2336 ?_
  refine xw_sld FF hI hi1 he1 dL_law_2337 ?_
  obtain ⟨r3, h4, h⟩ := x_bnd h
  have hI := x_toH 11 hI
  refine x_aci hI (x_runV (rest := []) F hI (mX7_sent l X r1.2 _ (r1.2 11) a1 r3 h4) g_L_301 ⟨rfl, hd_X7_sent⟩ ⟨by decide, by decide⟩ ⟨rfl, rfl⟩ (x_inO (by decide)) rfl rfl rfl rfl hl.1 rfl (Nat.le_of_ble_eq_true rfl) dL_law_2338 hf1) (fun H locs hI => ?_)
  obtain ⟨τ5, e6⟩ : ∃ z : x_S, z = (x_sh r1.2 11 r3.2) := ⟨_, rfl⟩
  rw [← e6] at hI
  have h := x_let_at h e6
  refine lv_istore (lv' := [(6, .int r3.1), (5, .int r1.1), (0, .ref b), (1, .ref (X.2.2 10 32)), (2, .ref (X.2.2 11 40)), (3, .ref (X.2.2 12 48)), (4, .int i)]) hx hb dL_law_2341 hl (by decide) rfl (fun ls hl => ?_)
  refine lv_aload_n hx hb dL_law_2343 rfl (lv_at hl 4 rfl) ?_
  obtain ⟨r7, h8, h⟩ := x_bnd h
  have hI := x_toH 11 hI
  refine x_aci hI (x_runV (rest := []) F hI (mX7_thrown l X τ5 _ (τ5 11)  r7 h8) g_L_138 ⟨rfl, hd_X7_thrown⟩ ⟨by decide, by decide⟩ ⟨rfl, rfl⟩ (x_inO (by decide)) rfl rfl rfl rfl hl.1 rfl (Nat.le_of_ble_eq_true rfl) dL_law_2344 hf1) (fun H locs hI => ?_)
  rw [x_sh_self] at hI
  refine lv_iload hx hb dL_law_2347 (lv_at hl 1 rfl) ?_
  refine lv_icmp_eq (tgt := 2354) hx hb dL_law_2349 (by decide) (fun c9 => ?_) (fun c9 => ?_)
  · have h := x_ift h c9
    refine lv_iload hx hb dL_law_2354 (lv_at hl 1 rfl) ?_
    refine lv_if_ne (tgt := 2371) hx hb dL_law_2356 (by decide) (fun c10 => ?_) (fun c10 => ?_)
    · have h := x_iff h c10
      refine lv_goto (tgt := 2520) hx hb dL_law_2371 (by decide) ?_
      rw [x_some h] at kk
      exact W.widen (by omega) (by omega) (kk H locs ls hI (lv_sub hl [2, 3, 4, 5, 6] rfl))
    · have h := x_ift h c10
      refine lv_aload_n hx hb dL_law_2359 rfl (lv_at hl 5 rfl) ?_
      refine lv_iconst (v := 0) hx hb dL_law_2360 (by decide) ?_
      refine x_lald F hI (by decide) dL_law_2361 ?_
      refine lv_iload hx hb dL_law_2362 (lv_at hl 0 rfl) ?_
      refine lv_i2l hx hb dL_law_2364 rfl ?_
      refine W.lcmp hx hb dL_law_2365 ?_
      refine lv_if_eq (tgt := 2371) hx hb dL_law_2366 (by decide) (fun c11 => ?_) (fun c11 => ?_)
      · have h := x_ift h c11
        refine lv_goto (tgt := 2520) hx hb dL_law_2371 (by decide) ?_
        rw [x_some h] at kk
        exact W.widen (by omega) (by omega) (kk H locs ls hI (lv_sub hl [2, 3, 4, 5, 6] rfl))
      · have h := x_iff h c11
        refine lv_iconst (v := 0) hx hb dL_law_2369 (by decide) ?_
        cases h
  · have h := x_iff h c9
    refine lv_iconst (v := 0) hx hb dL_law_2352 (by decide) ?_
    cases h
def gL_49 (σ : x_S) (a1 a2 : Int32) : Option x_S := (Option.bind (fX6_lost σ ) fun r1 => (Option.bind (fX7_lost (σ 11) ) fun r3 => x_let (x_sh σ 11 r3.2) fun τ5 => (if r1 = r3.1 then some τ5 else none)))
set_option maxHeartbeats 4000000 in
set_option maxRecDepth 100000 in
theorem wL_49 {p : Program} {l : Launch} {e : Env} {s : State} {m : MethodId} {below : List Frame} {meth : Method} {c : Code} {H : Heap} {locs : List Loc} {cells slots : Nat} {Q : State → Prop} {X : x_T} {σ : x_S} {b L : Nat} {xs : Nat → Int32} {ls : Array Slot} {i a1 a2 : Int32} {r : x_S} (FF : xw_F p l s m meth c b L xs X) (hi1 : x_in (i + (1 : Int32)) L) (hi2 : x_in (i + (2 : Int32)) L) (he1 : xs (i + (1 : Int32)).toNatClampNeg = a1) (he2 : xs (i + (2 : Int32)).toNatClampNeg = a2) (hf0 : cells ≤ room_1.cells ∧ slots ≤ room_1.slots) (hf1 : cells + 1 ≤ room_1.cells ∧ slots + 6 ≤ room_1.slots) (h : gL_49 σ a1 a2 = some r) (hI : x_I X σ s H locs) (hl : lv_has ls 9 (xw_lv X b i)) (kk : ∀ (H1 : Heap) (locs1 : List Loc) (ls1 : Array Slot), x_I X r s H1 locs1 → lv_has ls1 9 (xw_lv X b i) → W p l e room_1 s m #[Value.ref b] below meth c H1 locs1 (cells + 1) (slots + 6) Q (F0 m 2520 ls1 [])) : W p l e room_1 s m #[Value.ref b] below meth c H locs cells slots Q (F0 m 2374 ls []) := by
  have F := FF.1
  have Z := FF.2.2.1
  have hx := F.1
  have hb := F.2.1
  have hml := F.2.2.1
  have hown := F.2.2.2.1
  have hts := F.2.2.2.2.1
  unfold gL_49 at h
  refine lv_aload_n hx hb dL_law_2374 rfl (lv_at hl 1 rfl) ?_
  obtain ⟨r1, h2, h⟩ := x_bnd h
  refine x_aci hI (x_runV (rest := []) F hI (mX6_lost l X _ σ  r1 h2) g_L_302 ⟨rfl, hd_X6_lost⟩ ⟨by decide, by decide⟩ ⟨rfl, rfl⟩ (x_inO (by decide)) rfl rfl rfl rfl hl.1 rfl (Nat.le_of_ble_eq_true rfl) dL_law_2375 hf0) (fun H locs hI => ?_)
  refine lv_aload_n hx hb dL_law_2378 rfl (lv_at hl 2 rfl) ?_
  obtain ⟨r3, h4, h⟩ := x_bnd h
  have hI := x_toH 11 hI
  refine x_aci hI (x_runV (rest := [.int r1]) F hI (mX7_lost l X σ _ (σ 11)  r3 h4) g_L_305 ⟨rfl, hd_X7_lost⟩ ⟨by decide, by decide⟩ ⟨rfl, rfl⟩ (x_inO (by decide)) rfl rfl rfl rfl hl.1 rfl (Nat.le_of_ble_eq_true rfl) dL_law_2379 hf0) (fun H locs hI => ?_)
  obtain ⟨τ5, e6⟩ : ∃ z : x_S, z = (x_sh σ 11 r3.2) := ⟨_, rfl⟩
  rw [← e6] at hI
  have h := x_let_at h e6
  refine lv_icmp_eq (tgt := 2520) hx hb dL_law_2382 (by decide) (fun c7 => ?_) (fun c7 => ?_)
  · have h := x_ift h c7
    rw [x_some h] at kk
    exact W.widen (by omega) (by omega) (kk H locs ls hI (lv_sub hl [0, 1, 2, 3, 4] rfl))
  · have h := x_iff h c7
    refine lv_iconst (v := 0) hx hb dL_law_2385 (by decide) ?_
    cases h
def gL_50 (σ : x_S) (a1 a2 : Int32) : Option x_S := (Option.bind (fX6_delivered σ ) fun r1 => (Option.bind (fX7_delivered (σ 11) ) fun r3 => x_let (x_sh σ 11 r3.2) fun τ5 => (if r1 = r3.1 then some τ5 else none)))
set_option maxHeartbeats 4000000 in
set_option maxRecDepth 100000 in
theorem wL_50 {p : Program} {l : Launch} {e : Env} {s : State} {m : MethodId} {below : List Frame} {meth : Method} {c : Code} {H : Heap} {locs : List Loc} {cells slots : Nat} {Q : State → Prop} {X : x_T} {σ : x_S} {b L : Nat} {xs : Nat → Int32} {ls : Array Slot} {i a1 a2 : Int32} {r : x_S} (FF : xw_F p l s m meth c b L xs X) (hi1 : x_in (i + (1 : Int32)) L) (hi2 : x_in (i + (2 : Int32)) L) (he1 : xs (i + (1 : Int32)).toNatClampNeg = a1) (he2 : xs (i + (2 : Int32)).toNatClampNeg = a2) (hf0 : cells ≤ room_1.cells ∧ slots ≤ room_1.slots) (hf1 : cells + 1 ≤ room_1.cells ∧ slots + 6 ≤ room_1.slots) (h : gL_50 σ a1 a2 = some r) (hI : x_I X σ s H locs) (hl : lv_has ls 9 (xw_lv X b i)) (kk : ∀ (H1 : Heap) (locs1 : List Loc) (ls1 : Array Slot), x_I X r s H1 locs1 → lv_has ls1 9 (xw_lv X b i) → W p l e room_1 s m #[Value.ref b] below meth c H1 locs1 (cells + 1) (slots + 6) Q (F0 m 2520 ls1 [])) : W p l e room_1 s m #[Value.ref b] below meth c H locs cells slots Q (F0 m 2387 ls []) := by
  have F := FF.1
  have Z := FF.2.2.1
  have hx := F.1
  have hb := F.2.1
  have hml := F.2.2.1
  have hown := F.2.2.2.1
  have hts := F.2.2.2.2.1
  unfold gL_50 at h
  refine lv_aload_n hx hb dL_law_2387 rfl (lv_at hl 1 rfl) ?_
  obtain ⟨r1, h2, h⟩ := x_bnd h
  refine x_aci hI (x_runV (rest := []) F hI (mX6_delivered l X _ σ  r1 h2) g_L_306 ⟨rfl, hd_X6_delivered⟩ ⟨by decide, by decide⟩ ⟨rfl, rfl⟩ (x_inO (by decide)) rfl rfl rfl rfl hl.1 rfl (Nat.le_of_ble_eq_true rfl) dL_law_2388 hf0) (fun H locs hI => ?_)
  refine lv_aload_n hx hb dL_law_2391 rfl (lv_at hl 2 rfl) ?_
  obtain ⟨r3, h4, h⟩ := x_bnd h
  have hI := x_toH 11 hI
  refine x_aci hI (x_runV (rest := [.int r1]) F hI (mX7_delivered l X σ _ (σ 11)  r3 h4) g_L_309 ⟨rfl, hd_X7_delivered⟩ ⟨by decide, by decide⟩ ⟨rfl, rfl⟩ (x_inO (by decide)) rfl rfl rfl rfl hl.1 rfl (Nat.le_of_ble_eq_true rfl) dL_law_2392 hf0) (fun H locs hI => ?_)
  obtain ⟨τ5, e6⟩ : ∃ z : x_S, z = (x_sh σ 11 r3.2) := ⟨_, rfl⟩
  rw [← e6] at hI
  have h := x_let_at h e6
  refine lv_icmp_eq (tgt := 2520) hx hb dL_law_2395 (by decide) (fun c7 => ?_) (fun c7 => ?_)
  · have h := x_ift h c7
    rw [x_some h] at kk
    exact W.widen (by omega) (by omega) (kk H locs ls hI (lv_sub hl [0, 1, 2, 3, 4] rfl))
  · have h := x_iff h c7
    refine lv_iconst (v := 0) hx hb dL_law_2398 (by decide) ?_
    cases h
def gL_51 (σ : x_S) (a1 a2 : Int32) : Option x_S := (Option.bind (fX6_leases σ ) fun r1 => (Option.bind (fX7_leases (σ 11) ) fun r3 => x_let (x_sh σ 11 r3.2) fun τ5 => (if r1 = r3.1 then some τ5 else none)))
set_option maxHeartbeats 4000000 in
set_option maxRecDepth 100000 in
theorem wL_51 {p : Program} {l : Launch} {e : Env} {s : State} {m : MethodId} {below : List Frame} {meth : Method} {c : Code} {H : Heap} {locs : List Loc} {cells slots : Nat} {Q : State → Prop} {X : x_T} {σ : x_S} {b L : Nat} {xs : Nat → Int32} {ls : Array Slot} {i a1 a2 : Int32} {r : x_S} (FF : xw_F p l s m meth c b L xs X) (hi1 : x_in (i + (1 : Int32)) L) (hi2 : x_in (i + (2 : Int32)) L) (he1 : xs (i + (1 : Int32)).toNatClampNeg = a1) (he2 : xs (i + (2 : Int32)).toNatClampNeg = a2) (hf0 : cells ≤ room_1.cells ∧ slots ≤ room_1.slots) (hf1 : cells + 1 ≤ room_1.cells ∧ slots + 6 ≤ room_1.slots) (h : gL_51 σ a1 a2 = some r) (hI : x_I X σ s H locs) (hl : lv_has ls 9 (xw_lv X b i)) (kk : ∀ (H1 : Heap) (locs1 : List Loc) (ls1 : Array Slot), x_I X r s H1 locs1 → lv_has ls1 9 (xw_lv X b i) → W p l e room_1 s m #[Value.ref b] below meth c H1 locs1 (cells + 1) (slots + 6) Q (F0 m 2520 ls1 [])) : W p l e room_1 s m #[Value.ref b] below meth c H locs cells slots Q (F0 m 2400 ls []) := by
  have F := FF.1
  have Z := FF.2.2.1
  have hx := F.1
  have hb := F.2.1
  have hml := F.2.2.1
  have hown := F.2.2.2.1
  have hts := F.2.2.2.2.1
  unfold gL_51 at h
  refine lv_aload_n hx hb dL_law_2400 rfl (lv_at hl 1 rfl) ?_
  obtain ⟨r1, h2, h⟩ := x_bnd h
  refine x_aci hI (x_runV (rest := []) F hI (mX6_leases l X _ σ  r1 h2) g_L_310 ⟨rfl, hd_X6_leases⟩ ⟨by decide, by decide⟩ ⟨rfl, rfl⟩ (x_inO (by decide)) rfl rfl rfl rfl hl.1 rfl (Nat.le_of_ble_eq_true rfl) dL_law_2401 hf0) (fun H locs hI => ?_)
  refine lv_aload_n hx hb dL_law_2404 rfl (lv_at hl 2 rfl) ?_
  obtain ⟨r3, h4, h⟩ := x_bnd h
  have hI := x_toH 11 hI
  refine x_aci hI (x_runV (rest := [.int r1]) F hI (mX7_leases l X σ _ (σ 11)  r3 h4) g_L_313 ⟨rfl, hd_X7_leases⟩ ⟨by decide, by decide⟩ ⟨rfl, rfl⟩ (x_inO (by decide)) rfl rfl rfl rfl hl.1 rfl (Nat.le_of_ble_eq_true rfl) dL_law_2405 hf0) (fun H locs hI => ?_)
  obtain ⟨τ5, e6⟩ : ∃ z : x_S, z = (x_sh σ 11 r3.2) := ⟨_, rfl⟩
  rw [← e6] at hI
  have h := x_let_at h e6
  refine lv_icmp_eq (tgt := 2520) hx hb dL_law_2408 (by decide) (fun c7 => ?_) (fun c7 => ?_)
  · have h := x_ift h c7
    rw [x_some h] at kk
    exact W.widen (by omega) (by omega) (kk H locs ls hI (lv_sub hl [0, 1, 2, 3, 4] rfl))
  · have h := x_iff h c7
    refine lv_iconst (v := 0) hx hb dL_law_2411 (by decide) ?_
    cases h
def gL_52 (σ : x_S) (a1 a2 : Int32) : Option x_S := (Option.bind (fX6_evicted σ ) fun r1 => (Option.bind (fX7_evicted (σ 11) ) fun r3 => x_let (x_sh σ 11 r3.2) fun τ5 => (if r1 = r3.1 then some τ5 else none)))
set_option maxHeartbeats 4000000 in
set_option maxRecDepth 100000 in
theorem wL_52 {p : Program} {l : Launch} {e : Env} {s : State} {m : MethodId} {below : List Frame} {meth : Method} {c : Code} {H : Heap} {locs : List Loc} {cells slots : Nat} {Q : State → Prop} {X : x_T} {σ : x_S} {b L : Nat} {xs : Nat → Int32} {ls : Array Slot} {i a1 a2 : Int32} {r : x_S} (FF : xw_F p l s m meth c b L xs X) (hi1 : x_in (i + (1 : Int32)) L) (hi2 : x_in (i + (2 : Int32)) L) (he1 : xs (i + (1 : Int32)).toNatClampNeg = a1) (he2 : xs (i + (2 : Int32)).toNatClampNeg = a2) (hf0 : cells ≤ room_1.cells ∧ slots ≤ room_1.slots) (hf1 : cells + 1 ≤ room_1.cells ∧ slots + 6 ≤ room_1.slots) (h : gL_52 σ a1 a2 = some r) (hI : x_I X σ s H locs) (hl : lv_has ls 9 (xw_lv X b i)) (kk : ∀ (H1 : Heap) (locs1 : List Loc) (ls1 : Array Slot), x_I X r s H1 locs1 → lv_has ls1 9 (xw_lv X b i) → W p l e room_1 s m #[Value.ref b] below meth c H1 locs1 (cells + 1) (slots + 6) Q (F0 m 2520 ls1 [])) : W p l e room_1 s m #[Value.ref b] below meth c H locs cells slots Q (F0 m 2413 ls []) := by
  have F := FF.1
  have Z := FF.2.2.1
  have hx := F.1
  have hb := F.2.1
  have hml := F.2.2.1
  have hown := F.2.2.2.1
  have hts := F.2.2.2.2.1
  unfold gL_52 at h
  refine lv_aload_n hx hb dL_law_2413 rfl (lv_at hl 1 rfl) ?_
  obtain ⟨r1, h2, h⟩ := x_bnd h
  refine x_aci hI (x_runV (rest := []) F hI (mX6_evicted l X _ σ  r1 h2) g_L_314 ⟨rfl, hd_X6_evicted⟩ ⟨by decide, by decide⟩ ⟨rfl, rfl⟩ (x_inO (by decide)) rfl rfl rfl rfl hl.1 rfl (Nat.le_of_ble_eq_true rfl) dL_law_2414 hf0) (fun H locs hI => ?_)
  refine lv_aload_n hx hb dL_law_2417 rfl (lv_at hl 2 rfl) ?_
  obtain ⟨r3, h4, h⟩ := x_bnd h
  have hI := x_toH 11 hI
  refine x_aci hI (x_runV (rest := [.int r1]) F hI (mX7_evicted l X σ _ (σ 11)  r3 h4) g_L_317 ⟨rfl, hd_X7_evicted⟩ ⟨by decide, by decide⟩ ⟨rfl, rfl⟩ (x_inO (by decide)) rfl rfl rfl rfl hl.1 rfl (Nat.le_of_ble_eq_true rfl) dL_law_2418 hf0) (fun H locs hI => ?_)
  obtain ⟨τ5, e6⟩ : ∃ z : x_S, z = (x_sh σ 11 r3.2) := ⟨_, rfl⟩
  rw [← e6] at hI
  have h := x_let_at h e6
  refine lv_icmp_eq (tgt := 2520) hx hb dL_law_2421 (by decide) (fun c7 => ?_) (fun c7 => ?_)
  · have h := x_ift h c7
    rw [x_some h] at kk
    exact W.widen (by omega) (by omega) (kk H locs ls hI (lv_sub hl [0, 1, 2, 3, 4] rfl))
  · have h := x_iff h c7
    refine lv_iconst (v := 0) hx hb dL_law_2424 (by decide) ?_
    cases h
def gL_53 (σ : x_S) (a1 a2 : Int32) : Option x_S := (Option.bind (fX6_shutSoFar σ ) fun r1 => (Option.bind (fX7_shutSoFar (σ 11) ) fun r3 => x_let (x_sh σ 11 r3.2) fun τ5 => (if r1 = r3.1 then some τ5 else none)))
set_option maxHeartbeats 4000000 in
set_option maxRecDepth 100000 in
theorem wL_53 {p : Program} {l : Launch} {e : Env} {s : State} {m : MethodId} {below : List Frame} {meth : Method} {c : Code} {H : Heap} {locs : List Loc} {cells slots : Nat} {Q : State → Prop} {X : x_T} {σ : x_S} {b L : Nat} {xs : Nat → Int32} {ls : Array Slot} {i a1 a2 : Int32} {r : x_S} (FF : xw_F p l s m meth c b L xs X) (hi1 : x_in (i + (1 : Int32)) L) (hi2 : x_in (i + (2 : Int32)) L) (he1 : xs (i + (1 : Int32)).toNatClampNeg = a1) (he2 : xs (i + (2 : Int32)).toNatClampNeg = a2) (hf0 : cells ≤ room_1.cells ∧ slots ≤ room_1.slots) (hf1 : cells + 1 ≤ room_1.cells ∧ slots + 6 ≤ room_1.slots) (h : gL_53 σ a1 a2 = some r) (hI : x_I X σ s H locs) (hl : lv_has ls 9 (xw_lv X b i)) (kk : ∀ (H1 : Heap) (locs1 : List Loc) (ls1 : Array Slot), x_I X r s H1 locs1 → lv_has ls1 9 (xw_lv X b i) → W p l e room_1 s m #[Value.ref b] below meth c H1 locs1 (cells + 1) (slots + 6) Q (F0 m 2520 ls1 [])) : W p l e room_1 s m #[Value.ref b] below meth c H locs cells slots Q (F0 m 2426 ls []) := by
  have F := FF.1
  have Z := FF.2.2.1
  have hx := F.1
  have hb := F.2.1
  have hml := F.2.2.1
  have hown := F.2.2.2.1
  have hts := F.2.2.2.2.1
  unfold gL_53 at h
  refine lv_aload_n hx hb dL_law_2426 rfl (lv_at hl 1 rfl) ?_
  obtain ⟨r1, h2, h⟩ := x_bnd h
  refine x_aci hI (x_runV (rest := []) F hI (mX6_shutSoFar l X _ σ  r1 h2) g_L_318 ⟨rfl, hd_X6_shutSoFar⟩ ⟨by decide, by decide⟩ ⟨rfl, rfl⟩ (x_inO (by decide)) rfl rfl rfl rfl hl.1 rfl (Nat.le_of_ble_eq_true rfl) dL_law_2427 hf0) (fun H locs hI => ?_)
  refine lv_aload_n hx hb dL_law_2430 rfl (lv_at hl 2 rfl) ?_
  obtain ⟨r3, h4, h⟩ := x_bnd h
  have hI := x_toH 11 hI
  refine x_aci hI (x_runV (rest := [.int r1]) F hI (mX7_shutSoFar l X σ _ (σ 11)  r3 h4) g_L_321 ⟨rfl, hd_X7_shutSoFar⟩ ⟨by decide, by decide⟩ ⟨rfl, rfl⟩ (x_inO (by decide)) rfl rfl rfl rfl hl.1 rfl (Nat.le_of_ble_eq_true rfl) dL_law_2431 hf0) (fun H locs hI => ?_)
  obtain ⟨τ5, e6⟩ : ∃ z : x_S, z = (x_sh σ 11 r3.2) := ⟨_, rfl⟩
  rw [← e6] at hI
  have h := x_let_at h e6
  refine lv_icmp_eq (tgt := 2520) hx hb dL_law_2434 (by decide) (fun c7 => ?_) (fun c7 => ?_)
  · have h := x_ift h c7
    rw [x_some h] at kk
    exact W.widen (by omega) (by omega) (kk H locs ls hI (lv_sub hl [0, 1, 2, 3, 4] rfl))
  · have h := x_iff h c7
    refine lv_iconst (v := 0) hx hb dL_law_2437 (by decide) ?_
    cases h
def gL_54 (σ : x_S) (a1 a2 : Int32) : Option x_S := (Option.bind (fX6_wouldDeliver σ ) fun r1 => (Option.bind (fX7_wouldDeliver (r1.2 11) ) fun r3 => x_let (x_sh r1.2 11 r3.2) fun τ5 => (if r1.1 = r3.1 then some τ5 else none)))
set_option maxHeartbeats 4000000 in
set_option maxRecDepth 100000 in
theorem wL_54 {p : Program} {l : Launch} {e : Env} {s : State} {m : MethodId} {below : List Frame} {meth : Method} {c : Code} {H : Heap} {locs : List Loc} {cells slots : Nat} {Q : State → Prop} {X : x_T} {σ : x_S} {b L : Nat} {xs : Nat → Int32} {ls : Array Slot} {i a1 a2 : Int32} {r : x_S} (FF : xw_F p l s m meth c b L xs X) (hi1 : x_in (i + (1 : Int32)) L) (hi2 : x_in (i + (2 : Int32)) L) (he1 : xs (i + (1 : Int32)).toNatClampNeg = a1) (he2 : xs (i + (2 : Int32)).toNatClampNeg = a2) (hf0 : cells ≤ room_1.cells ∧ slots ≤ room_1.slots) (hf1 : cells + 1 ≤ room_1.cells ∧ slots + 6 ≤ room_1.slots) (h : gL_54 σ a1 a2 = some r) (hI : x_I X σ s H locs) (hl : lv_has ls 9 (xw_lv X b i)) (kk : ∀ (H1 : Heap) (locs1 : List Loc) (ls1 : Array Slot), x_I X r s H1 locs1 → lv_has ls1 9 (xw_lv X b i) → W p l e room_1 s m #[Value.ref b] below meth c H1 locs1 (cells + 1) (slots + 6) Q (F0 m 2520 ls1 [])) : W p l e room_1 s m #[Value.ref b] below meth c H locs cells slots Q (F0 m 2439 ls []) := by
  have F := FF.1
  have Z := FF.2.2.1
  have hx := F.1
  have hb := F.2.1
  have hml := F.2.2.1
  have hown := F.2.2.2.1
  have hts := F.2.2.2.2.1
  unfold gL_54 at h
  refine lv_aload_n hx hb dL_law_2439 rfl (lv_at hl 1 rfl) ?_
  obtain ⟨r1, h2, h⟩ := x_bnd h
  refine x_aci hI (x_runV (rest := []) F hI (mX6_wouldDeliver l X _ σ  r1 h2) g_L_322 ⟨rfl, hd_X6_wouldDeliver⟩ ⟨by decide, by decide⟩ ⟨rfl, rfl⟩ (x_inO (by decide)) rfl rfl rfl rfl hl.1 rfl (Nat.le_of_ble_eq_true rfl) dL_law_2440 hf0) (fun H locs hI => ?_)
  refine lv_aload_n hx hb dL_law_2443 rfl (lv_at hl 2 rfl) ?_
  obtain ⟨r3, h4, h⟩ := x_bnd h
  have hI := x_toH 11 hI
  refine x_aci hI (x_runV (rest := [.int r1.1]) F hI (mX7_wouldDeliver l X r1.2 _ (r1.2 11)  r3 h4) g_L_325 ⟨rfl, hd_X7_wouldDeliver⟩ ⟨by decide, by decide⟩ ⟨rfl, rfl⟩ (x_inO (by decide)) rfl rfl rfl rfl hl.1 rfl (Nat.le_of_ble_eq_true rfl) dL_law_2444 hf0) (fun H locs hI => ?_)
  obtain ⟨τ5, e6⟩ : ∃ z : x_S, z = (x_sh r1.2 11 r3.2) := ⟨_, rfl⟩
  rw [← e6] at hI
  have h := x_let_at h e6
  refine lv_icmp_eq (tgt := 2520) hx hb dL_law_2447 (by decide) (fun c7 => ?_) (fun c7 => ?_)
  · have h := x_ift h c7
    rw [x_some h] at kk
    exact W.widen (by omega) (by omega) (kk H locs ls hI (lv_sub hl [0, 1, 2, 3, 4] rfl))
  · have h := x_iff h c7
    refine lv_iconst (v := 0) hx hb dL_law_2450 (by decide) ?_
    cases h
def gL_55 (σ : x_S) (a1 a2 : Int32) : Option x_S := (Option.bind (fX6_wouldHouse σ ) fun r1 => (Option.bind (fX7_wouldHouse (r1.2 11) ) fun r3 => x_let (x_sh r1.2 11 r3.2) fun τ5 => (if r1.1 = r3.1 then some τ5 else none)))
set_option maxHeartbeats 4000000 in
set_option maxRecDepth 100000 in
theorem wL_55 {p : Program} {l : Launch} {e : Env} {s : State} {m : MethodId} {below : List Frame} {meth : Method} {c : Code} {H : Heap} {locs : List Loc} {cells slots : Nat} {Q : State → Prop} {X : x_T} {σ : x_S} {b L : Nat} {xs : Nat → Int32} {ls : Array Slot} {i a1 a2 : Int32} {r : x_S} (FF : xw_F p l s m meth c b L xs X) (hi1 : x_in (i + (1 : Int32)) L) (hi2 : x_in (i + (2 : Int32)) L) (he1 : xs (i + (1 : Int32)).toNatClampNeg = a1) (he2 : xs (i + (2 : Int32)).toNatClampNeg = a2) (hf0 : cells ≤ room_1.cells ∧ slots ≤ room_1.slots) (hf1 : cells + 1 ≤ room_1.cells ∧ slots + 6 ≤ room_1.slots) (h : gL_55 σ a1 a2 = some r) (hI : x_I X σ s H locs) (hl : lv_has ls 9 (xw_lv X b i)) (kk : ∀ (H1 : Heap) (locs1 : List Loc) (ls1 : Array Slot), x_I X r s H1 locs1 → lv_has ls1 9 (xw_lv X b i) → W p l e room_1 s m #[Value.ref b] below meth c H1 locs1 (cells + 1) (slots + 6) Q (F0 m 2520 ls1 [])) : W p l e room_1 s m #[Value.ref b] below meth c H locs cells slots Q (F0 m 2452 ls []) := by
  have F := FF.1
  have Z := FF.2.2.1
  have hx := F.1
  have hb := F.2.1
  have hml := F.2.2.1
  have hown := F.2.2.2.1
  have hts := F.2.2.2.2.1
  unfold gL_55 at h
  refine lv_aload_n hx hb dL_law_2452 rfl (lv_at hl 1 rfl) ?_
  obtain ⟨r1, h2, h⟩ := x_bnd h
  refine x_aci hI (x_runV (rest := []) F hI (mX6_wouldHouse l X _ σ  r1 h2) g_L_326 ⟨rfl, hd_X6_wouldHouse⟩ ⟨by decide, by decide⟩ ⟨rfl, rfl⟩ (x_inO (by decide)) rfl rfl rfl rfl hl.1 rfl (Nat.le_of_ble_eq_true rfl) dL_law_2453 hf0) (fun H locs hI => ?_)
  refine lv_aload_n hx hb dL_law_2456 rfl (lv_at hl 2 rfl) ?_
  obtain ⟨r3, h4, h⟩ := x_bnd h
  have hI := x_toH 11 hI
  refine x_aci hI (x_runV (rest := [.int r1.1]) F hI (mX7_wouldHouse l X r1.2 _ (r1.2 11)  r3 h4) g_L_329 ⟨rfl, hd_X7_wouldHouse⟩ ⟨by decide, by decide⟩ ⟨rfl, rfl⟩ (x_inO (by decide)) rfl rfl rfl rfl hl.1 rfl (Nat.le_of_ble_eq_true rfl) dL_law_2457 hf0) (fun H locs hI => ?_)
  obtain ⟨τ5, e6⟩ : ∃ z : x_S, z = (x_sh r1.2 11 r3.2) := ⟨_, rfl⟩
  rw [← e6] at hI
  have h := x_let_at h e6
  refine lv_icmp_eq (tgt := 2520) hx hb dL_law_2460 (by decide) (fun c7 => ?_) (fun c7 => ?_)
  · have h := x_ift h c7
    rw [x_some h] at kk
    exact W.widen (by omega) (by omega) (kk H locs ls hI (lv_sub hl [0, 1, 2, 3, 4] rfl))
  · have h := x_iff h c7
    refine lv_iconst (v := 0) hx hb dL_law_2463 (by decide) ?_
    cases h
def gL_56 (σ : x_S) (a1 a2 : Int32) : Option x_S := (Option.bind (fX6_leasedShare σ ) fun r1 => (Option.bind (fX7_leasedShare (σ 11) ) fun r3 => x_let (x_sh σ 11 r3.2) fun τ5 => (if (Op.cmpValue (FP.dcmp r1 r3.1) CmpOp.l) = 0 then some τ5 else (if (Op.cmpValue (FP.dcmp r1 r1) CmpOp.l) = 0 then none else (if (Op.cmpValue (FP.dcmp r3.1 r3.1) CmpOp.l) = 0 then none else some τ5)))))
set_option maxHeartbeats 4000000 in
set_option maxRecDepth 100000 in
theorem wL_56 {p : Program} {l : Launch} {e : Env} {s : State} {m : MethodId} {below : List Frame} {meth : Method} {c : Code} {H : Heap} {locs : List Loc} {cells slots : Nat} {Q : State → Prop} {X : x_T} {σ : x_S} {b L : Nat} {xs : Nat → Int32} {ls : Array Slot} {i a1 a2 : Int32} {r : x_S} (FF : xw_F p l s m meth c b L xs X) (hi1 : x_in (i + (1 : Int32)) L) (hi2 : x_in (i + (2 : Int32)) L) (he1 : xs (i + (1 : Int32)).toNatClampNeg = a1) (he2 : xs (i + (2 : Int32)).toNatClampNeg = a2) (hf0 : cells ≤ room_1.cells ∧ slots ≤ room_1.slots) (hf1 : cells + 1 ≤ room_1.cells ∧ slots + 6 ≤ room_1.slots) (h : gL_56 σ a1 a2 = some r) (hI : x_I X σ s H locs) (hl : lv_has ls 9 (xw_lv X b i)) (kk : ∀ (H1 : Heap) (locs1 : List Loc) (ls1 : Array Slot), x_I X r s H1 locs1 → lv_has ls1 9 (xw_lv X b i) → W p l e room_1 s m #[Value.ref b] below meth c H1 locs1 (cells + 1) (slots + 6) Q (F0 m 2520 ls1 [])) : W p l e room_1 s m #[Value.ref b] below meth c H locs cells slots Q (F0 m 2465 ls []) := by
  have F := FF.1
  have Z := FF.2.2.1
  have hx := F.1
  have hb := F.2.1
  have hml := F.2.2.1
  have hown := F.2.2.2.1
  have hts := F.2.2.2.2.1
  unfold gL_56 at h
  refine lv_aload_n hx hb dL_law_2465 rfl (lv_at hl 1 rfl) ?_
  obtain ⟨r1, h2, h⟩ := x_bnd h
  refine x_acd hI (x_runV (rest := []) F hI (mX6_leasedShare l X _ σ  r1 h2) g_L_330 ⟨rfl, hd_X6_leasedShare⟩ ⟨by decide, by decide⟩ ⟨rfl, rfl⟩ (x_inO (by decide)) rfl rfl rfl rfl hl.1 rfl (Nat.le_of_ble_eq_true rfl) dL_law_2466 hf0) (fun H locs hI => ?_)
  refine lv_dstore (lv' := [(5, .double r1), (0, .ref b), (1, .ref (X.2.2 10 32)), (2, .ref (X.2.2 11 40)), (3, .ref (X.2.2 12 48)), (4, .int i)]) hx hb dL_law_2469 hl (by decide) rfl (fun ls hl => ?_)
  refine lv_aload_n hx hb dL_law_2471 rfl (lv_at hl 3 rfl) ?_
  obtain ⟨r3, h4, h⟩ := x_bnd h
  have hI := x_toH 11 hI
  refine x_acd hI (x_runV (rest := []) F hI (mX7_leasedShare l X σ _ (σ 11)  r3 h4) g_L_334 ⟨rfl, hd_X7_leasedShare⟩ ⟨by decide, by decide⟩ ⟨rfl, rfl⟩ (x_inO (by decide)) rfl rfl rfl rfl hl.1 rfl (Nat.le_of_ble_eq_true rfl) dL_law_2472 hf0) (fun H locs hI => ?_)
  obtain ⟨τ5, e6⟩ : ∃ z : x_S, z = (x_sh σ 11 r3.2) := ⟨_, rfl⟩
  rw [← e6] at hI
  have h := x_let_at h e6
  refine lv_dstore (lv' := [(7, .double r3.1), (5, .double r1), (0, .ref b), (1, .ref (X.2.2 10 32)), (2, .ref (X.2.2 11 40)), (3, .ref (X.2.2 12 48)), (4, .int i)]) hx hb dL_law_2475 hl (by decide) rfl (fun ls hl => ?_)
  refine lv_dload hx hb dL_law_2477 (lv_at hl 1 rfl) ?_
  refine lv_dload hx hb dL_law_2479 (lv_at hl 0 rfl) ?_
  refine lv_dcmp hx hb dL_law_2481 ?_
  refine lv_if_eq (tgt := 2503) hx hb dL_law_2482 (by decide) (fun c7 => ?_) (fun c7 => ?_)
  · have h := x_ift h c7
    refine lv_goto (tgt := 2520) hx hb dL_law_2503 (by decide) ?_
    rw [x_some h] at kk
    exact W.widen (by omega) (by omega) (kk H locs ls hI (lv_sub hl [2, 3, 4, 5, 6] rfl))
  · have h := x_iff h c7
    refine lv_dload hx hb dL_law_2485 (lv_at hl 1 rfl) ?_
    refine lv_dload hx hb dL_law_2487 (lv_at hl 1 rfl) ?_
    refine lv_dcmp hx hb dL_law_2489 ?_
    refine lv_if_eq (tgt := 2501) hx hb dL_law_2490 (by decide) (fun c8 => ?_) (fun c8 => ?_)
    · have h := x_ift h c8
      refine lv_iconst (v := 0) hx hb dL_law_2501 (by decide) ?_
      cases h
    · have h := x_iff h c8
      refine lv_dload hx hb dL_law_2493 (lv_at hl 0 rfl) ?_
      refine lv_dload hx hb dL_law_2495 (lv_at hl 0 rfl) ?_
      refine lv_dcmp hx hb dL_law_2497 ?_
      refine lv_if_ne (tgt := 2503) hx hb dL_law_2498 (by decide) (fun c9 => ?_) (fun c9 => ?_)
      · have h := x_iff h c9
        refine lv_goto (tgt := 2520) hx hb dL_law_2503 (by decide) ?_
        rw [x_some h] at kk
        exact W.widen (by omega) (by omega) (kk H locs ls hI (lv_sub hl [2, 3, 4, 5, 6] rfl))
      · have h := x_ift h c9
        refine lv_iconst (v := 0) hx hb dL_law_2501 (by decide) ?_
        cases h
def gL_57 (σ : x_S) (a1 a2 : Int32) : Option x_S := (Option.bind (fX6_digest σ ) fun r1 => (Option.bind (fX7_digest (r1.2 11) ) fun r3 => x_let (x_sh r1.2 11 r3.2) fun τ5 => (if (lg_cmp r1.1 r3.1) = 0 then some τ5 else none)))
set_option maxHeartbeats 4000000 in
set_option maxRecDepth 100000 in
theorem wL_57 {p : Program} {l : Launch} {e : Env} {s : State} {m : MethodId} {below : List Frame} {meth : Method} {c : Code} {H : Heap} {locs : List Loc} {cells slots : Nat} {Q : State → Prop} {X : x_T} {σ : x_S} {b L : Nat} {xs : Nat → Int32} {ls : Array Slot} {i a1 a2 : Int32} {r : x_S} (FF : xw_F p l s m meth c b L xs X) (hi1 : x_in (i + (1 : Int32)) L) (hi2 : x_in (i + (2 : Int32)) L) (he1 : xs (i + (1 : Int32)).toNatClampNeg = a1) (he2 : xs (i + (2 : Int32)).toNatClampNeg = a2) (hf0 : cells ≤ room_1.cells ∧ slots ≤ room_1.slots) (hf1 : cells + 1 ≤ room_1.cells ∧ slots + 6 ≤ room_1.slots) (h : gL_57 σ a1 a2 = some r) (hI : x_I X σ s H locs) (hl : lv_has ls 9 (xw_lv X b i)) (kk : ∀ (H1 : Heap) (locs1 : List Loc) (ls1 : Array Slot), x_I X r s H1 locs1 → lv_has ls1 9 (xw_lv X b i) → W p l e room_1 s m #[Value.ref b] below meth c H1 locs1 (cells + 1) (slots + 6) Q (F0 m 2520 ls1 [])) : W p l e room_1 s m #[Value.ref b] below meth c H locs cells slots Q (F0 m 2506 ls []) := by
  have F := FF.1
  have Z := FF.2.2.1
  have hx := F.1
  have hb := F.2.1
  have hml := F.2.2.1
  have hown := F.2.2.2.1
  have hts := F.2.2.2.2.1
  unfold gL_57 at h
  refine lv_aload_n hx hb dL_law_2506 rfl (lv_at hl 1 rfl) ?_
  obtain ⟨r1, h2, h⟩ := x_bnd h
  refine x_acl hI (x_runV (rest := []) F hI (mX6_digest l X _ σ  r1 h2) g_L_335 ⟨rfl, hd_X6_digest⟩ ⟨by decide, by decide⟩ ⟨rfl, rfl⟩ (x_inO (by decide)) rfl rfl rfl rfl hl.1 rfl (Nat.le_of_ble_eq_true rfl) dL_law_2507 hf0) (fun H locs hI => ?_)
  refine lv_aload_n hx hb dL_law_2510 rfl (lv_at hl 2 rfl) ?_
  obtain ⟨r3, h4, h⟩ := x_bnd h
  have hI := x_toH 11 hI
  refine x_acl hI (x_runV (rest := [.long r1.1]) F hI (mX7_digest l X r1.2 _ (r1.2 11)  r3 h4) g_L_339 ⟨rfl, hd_X7_digest⟩ ⟨by decide, by decide⟩ ⟨rfl, rfl⟩ (x_inO (by decide)) rfl rfl rfl rfl hl.1 rfl (Nat.le_of_ble_eq_true rfl) dL_law_2511 hf0) (fun H locs hI => ?_)
  obtain ⟨τ5, e6⟩ : ∃ z : x_S, z = (x_sh r1.2 11 r3.2) := ⟨_, rfl⟩
  rw [← e6] at hI
  have h := x_let_at h e6
  refine W.lcmp hx hb dL_law_2514 ?_
  refine lv_if_eq (tgt := 2520) hx hb dL_law_2515 (by decide) (fun c7 => ?_) (fun c7 => ?_)
  · have h := x_ift h c7
    rw [x_some h] at kk
    exact W.widen (by omega) (by omega) (kk H locs ls hI (lv_sub hl [0, 1, 2, 3, 4] rfl))
  · have h := x_iff h c7
    refine lv_iconst (v := 0) hx hb dL_law_2518 (by decide) ?_
    cases h
