def gL_list : List (x_S → Int32 → Int32 → Option x_S) := [gL_0, gL_1, gL_2, gL_3, gL_4, gL_5, gL_6, gL_7, gL_8, gL_9, gL_10, gL_11, gL_12, gL_13, gL_14, gL_15, gL_16, gL_17, gL_18, gL_19, gL_20, gL_21, gL_22, gL_23, gL_24, gL_25, gL_26, gL_27, gL_28, gL_29, gL_30, gL_31, gL_32, gL_33, gL_34, gL_35, gL_36, gL_37, gL_38, gL_39, gL_40, gL_41, gL_42, gL_43, gL_44, gL_45, gL_46, gL_47, gL_48, gL_49, gL_50, gL_51, gL_52, gL_53, gL_54, gL_55, gL_56, gL_57]
def gL_step (σ : x_S) (a0 a1 a2 : Int32) : Option x_S := if (a0 &&& 63).toInt < 0 then some σ else match gL_list[(a0 &&& 63).toInt.toNat]? with
  | some f => f σ a1 a2
  | none => some σ
def gL_run : Nat → (Nat → Int32) → Nat → x_S → Nat → Option Unit
  | 0, _, _, _, _ => none
  | n + 1, xs, L, σ, j => if j + 3 ≤ L then (gL_step σ (xs j) (xs (j + 1)) (xs (j + 2))).bind (fun τ => gL_run n xs L τ (j + 3)) else some ()
set_option maxHeartbeats 4000000 in
set_option maxRecDepth 100000 in
theorem wL_step {p : Program} {l : Launch} {e : Env} {s : State} {m : MethodId} {below : List Frame} {meth : Method} {c : Code} {H : Heap} {locs : List Loc} {cells slots : Nat} {Q : State → Prop} {X : x_T} {σ : x_S} {b L : Nat} {xs : Nat → Int32} {ls : Array Slot} {i a0 a1 a2 : Int32} {r : x_S} (FF : xw_F p l s m meth c b L xs X) (hi0 : x_in i L) (hi1 : x_in (i + (1 : Int32)) L) (hi2 : x_in (i + (2 : Int32)) L) (he0 : xs i.toNatClampNeg = a0) (he1 : xs (i + (1 : Int32)).toNatClampNeg = a1) (he2 : xs (i + (2 : Int32)).toNatClampNeg = a2) (hf0 : cells ≤ room_1.cells ∧ slots ≤ room_1.slots) (hf1 : cells + 1 ≤ room_1.cells ∧ slots + 6 ≤ room_1.slots) (h : gL_step σ a0 a1 a2 = some r) (hI : x_I X σ s H locs) (hl : lv_has ls 9 (xw_lv X b i)) (kk : ∀ (H1 : Heap) (locs1 : List Loc) (ls1 : Array Slot), x_I X r s H1 locs1 → lv_has ls1 9 (xw_lv X b i) → W p l e room_1 s m #[Value.ref b] below meth c H1 locs1 (cells + 1) (slots + 6) Q (F0 m 2520 ls1 [])) : W p l e room_1 s m #[Value.ref b] below meth c H locs cells slots Q (F0 m 32 ls []) := by
  have F := FF.1
  have hx := F.1
  have hb := F.2.1
  refine lv_aload_n hx hb dL_law_32 rfl (lv_at hl 0 rfl) ?_
  refine lv_iload hx hb dL_law_33 (lv_at hl 4 rfl) ?_
  refine xw_sld FF hI hi0 he0 dL_law_35 ?_
  refine lv_bipush (v := 63) hx hb dL_law_36 (by decide) ?_
  refine lv_iand hx hb dL_law_38 ?_
  unfold gL_step at h
  generalize a0 &&& 63 = x at h ⊢
  by_cases h0 : x.toInt < 0
  · rw [if_pos h0] at h
    rw [x_some h] at kk
    exact lv_tableOut (tgt := 2520) hx hb dL_law_39 (Or.inl h0) (by decide) (W.widen (by omega) (by omega) (kk H locs ls hI hl))
  rw [if_neg h0] at h
  by_cases h1 : 57 < x.toInt
  · have e1 : gL_list[x.toInt.toNat]? = none := List.getElem?_eq_none (show 58 ≤ x.toInt.toNat by omega)
    rw [e1] at h
    rw [x_some h] at kk
    exact lv_tableOut (tgt := 2520) hx hb dL_law_39 (Or.inr h1) (by decide) (W.widen (by omega) (by omega) (kk H locs ls hI hl))
  obtain ⟨k, hk⟩ : ∃ k : Nat, x.toInt = (k : Int) := ⟨x.toInt.toNat, by omega⟩
  have hk58 : k < 58 := by omega
  have hz : (x.toInt - 0).toNat = k := by omega
  have hz2 : x.toInt.toNat = k := by omega
  rw [hz2] at h
  clear hz2 hk
  match k, hk58, h, hz with
  | 0, _, h, hz => exact lv_tableIn (tgt := 284) (off := 245) hx hb dL_law_39 (by omega) (by omega) (by rw [hz]; rfl) (by decide) (wL_0 FF hi1 hi2 he1 he2 hf0 hf1 h hI hl kk)
  | 1, _, h, hz => exact lv_tableIn (tgt := 340) (off := 301) hx hb dL_law_39 (by omega) (by omega) (by rw [hz]; rfl) (by decide) (wL_1 FF hi1 hi2 he1 he2 hf0 hf1 h hI hl kk)
  | 2, _, h, hz => exact lv_tableIn (tgt := 396) (off := 357) hx hb dL_law_39 (by omega) (by omega) (by rw [hz]; rfl) (by decide) (wL_2 FF hi1 hi2 he1 he2 hf0 hf1 h hI hl kk)
  | 3, _, h, hz => exact lv_tableIn (tgt := 452) (off := 413) hx hb dL_law_39 (by omega) (by omega) (by rw [hz]; rfl) (by decide) (wL_3 FF hi1 hi2 he1 he2 hf0 hf1 h hI hl kk)
  | 4, _, h, hz => exact lv_tableIn (tgt := 508) (off := 469) hx hb dL_law_39 (by omega) (by omega) (by rw [hz]; rfl) (by decide) (wL_4 FF hi1 hi2 he1 he2 hf0 hf1 h hI hl kk)
  | 5, _, h, hz => exact lv_tableIn (tgt := 556) (off := 517) hx hb dL_law_39 (by omega) (by omega) (by rw [hz]; rfl) (by decide) (wL_5 FF hi1 hi2 he1 he2 hf0 hf1 h hI hl kk)
  | 6, _, h, hz => exact lv_tableIn (tgt := 612) (off := 573) hx hb dL_law_39 (by omega) (by omega) (by rw [hz]; rfl) (by decide) (wL_6 FF hi1 hi2 he1 he2 hf0 hf1 h hI hl kk)
  | 7, _, h, hz => exact lv_tableIn (tgt := 675) (off := 636) hx hb dL_law_39 (by omega) (by omega) (by rw [hz]; rfl) (by decide) (wL_7 FF hi1 hi2 he1 he2 hf0 hf1 h hI hl kk)
  | 8, _, h, hz => exact lv_tableIn (tgt := 731) (off := 692) hx hb dL_law_39 (by omega) (by omega) (by rw [hz]; rfl) (by decide) (wL_8 FF hi1 hi2 he1 he2 hf0 hf1 h hI hl kk)
  | 9, _, h, hz => exact lv_tableIn (tgt := 787) (off := 748) hx hb dL_law_39 (by omega) (by omega) (by rw [hz]; rfl) (by decide) (wL_9 FF hi1 hi2 he1 he2 hf0 hf1 h hI hl kk)
  | 10, _, h, hz => exact lv_tableIn (tgt := 843) (off := 804) hx hb dL_law_39 (by omega) (by omega) (by rw [hz]; rfl) (by decide) (wL_10 FF hi1 hi2 he1 he2 hf0 hf1 h hI hl kk)
  | 11, _, h, hz => exact lv_tableIn (tgt := 899) (off := 860) hx hb dL_law_39 (by omega) (by omega) (by rw [hz]; rfl) (by decide) (wL_11 FF hi1 hi2 he1 he2 hf0 hf1 h hI hl kk)
  | 12, _, h, hz => exact lv_tableIn (tgt := 955) (off := 916) hx hb dL_law_39 (by omega) (by omega) (by rw [hz]; rfl) (by decide) (wL_12 FF hi1 hi2 he1 he2 hf0 hf1 h hI hl kk)
  | 13, _, h, hz => exact lv_tableIn (tgt := 968) (off := 929) hx hb dL_law_39 (by omega) (by omega) (by rw [hz]; rfl) (by decide) (wL_13 FF hi1 hi2 he1 he2 hf0 hf1 h hI hl kk)
  | 14, _, h, hz => exact lv_tableIn (tgt := 1024) (off := 985) hx hb dL_law_39 (by omega) (by omega) (by rw [hz]; rfl) (by decide) (wL_14 FF hi1 hi2 he1 he2 hf0 hf1 h hI hl kk)
  | 15, _, h, hz => exact lv_tableIn (tgt := 1080) (off := 1041) hx hb dL_law_39 (by omega) (by omega) (by rw [hz]; rfl) (by decide) (wL_15 FF hi1 hi2 he1 he2 hf0 hf1 h hI hl kk)
  | 16, _, h, hz => exact lv_tableIn (tgt := 1093) (off := 1054) hx hb dL_law_39 (by omega) (by omega) (by rw [hz]; rfl) (by decide) (wL_16 FF hi1 hi2 he1 he2 hf0 hf1 h hI hl kk)
  | 17, _, h, hz => exact lv_tableIn (tgt := 1106) (off := 1067) hx hb dL_law_39 (by omega) (by omega) (by rw [hz]; rfl) (by decide) (wL_17 FF hi1 hi2 he1 he2 hf0 hf1 h hI hl kk)
  | 18, _, h, hz => exact lv_tableIn (tgt := 1150) (off := 1111) hx hb dL_law_39 (by omega) (by omega) (by rw [hz]; rfl) (by decide) (wL_18 FF hi1 hi2 he1 he2 hf0 hf1 h hI hl kk)
  | 19, _, h, hz => exact lv_tableIn (tgt := 1186) (off := 1147) hx hb dL_law_39 (by omega) (by omega) (by rw [hz]; rfl) (by decide) (wL_19 FF hi1 hi2 he1 he2 hf0 hf1 h hI hl kk)
  | 20, _, h, hz => exact lv_tableIn (tgt := 1222) (off := 1183) hx hb dL_law_39 (by omega) (by omega) (by rw [hz]; rfl) (by decide) (wL_20 FF hi1 hi2 he1 he2 hf0 hf1 h hI hl kk)
  | 21, _, h, hz => exact lv_tableIn (tgt := 1246) (off := 1207) hx hb dL_law_39 (by omega) (by omega) (by rw [hz]; rfl) (by decide) (wL_21 FF hi1 hi2 he1 he2 hf0 hf1 h hI hl kk)
  | 22, _, h, hz => exact lv_tableIn (tgt := 1259) (off := 1220) hx hb dL_law_39 (by omega) (by omega) (by rw [hz]; rfl) (by decide) (wL_22 FF hi1 hi2 he1 he2 hf0 hf1 h hI hl kk)
  | 23, _, h, hz => exact lv_tableIn (tgt := 1315) (off := 1276) hx hb dL_law_39 (by omega) (by omega) (by rw [hz]; rfl) (by decide) (wL_23 FF hi1 hi2 he1 he2 hf0 hf1 h hI hl kk)
  | 24, _, h, hz => exact lv_tableIn (tgt := 1371) (off := 1332) hx hb dL_law_39 (by omega) (by omega) (by rw [hz]; rfl) (by decide) (wL_24 FF hi1 hi2 he1 he2 hf0 hf1 h hI hl kk)
  | 25, _, h, hz => exact lv_tableIn (tgt := 1427) (off := 1388) hx hb dL_law_39 (by omega) (by omega) (by rw [hz]; rfl) (by decide) (wL_25 FF hi1 hi2 he1 he2 hf0 hf1 h hI hl kk)
  | 26, _, h, hz => exact lv_tableIn (tgt := 1483) (off := 1444) hx hb dL_law_39 (by omega) (by omega) (by rw [hz]; rfl) (by decide) (wL_26 FF hi1 hi2 he1 he2 hf0 hf1 h hI hl kk)
  | 27, _, h, hz => exact lv_tableIn (tgt := 1546) (off := 1507) hx hb dL_law_39 (by omega) (by omega) (by rw [hz]; rfl) (by decide) (wL_27 FF hi1 hi2 he1 he2 hf0 hf1 h hI hl kk)
  | 28, _, h, hz => exact lv_tableIn (tgt := 1602) (off := 1563) hx hb dL_law_39 (by omega) (by omega) (by rw [hz]; rfl) (by decide) (wL_28 FF hi1 hi2 he1 he2 hf0 hf1 h hI hl kk)
  | 29, _, h, hz => exact lv_tableIn (tgt := 1615) (off := 1576) hx hb dL_law_39 (by omega) (by omega) (by rw [hz]; rfl) (by decide) (wL_29 FF hi1 hi2 he1 he2 hf0 hf1 h hI hl kk)
  | 30, _, h, hz => exact lv_tableIn (tgt := 1671) (off := 1632) hx hb dL_law_39 (by omega) (by omega) (by rw [hz]; rfl) (by decide) (wL_30 FF hi1 hi2 he1 he2 hf0 hf1 h hI hl kk)
  | 31, _, h, hz => exact lv_tableIn (tgt := 1727) (off := 1688) hx hb dL_law_39 (by omega) (by omega) (by rw [hz]; rfl) (by decide) (wL_31 FF hi1 hi2 he1 he2 hf0 hf1 h hI hl kk)
  | 32, _, h, hz => exact lv_tableIn (tgt := 1783) (off := 1744) hx hb dL_law_39 (by omega) (by omega) (by rw [hz]; rfl) (by decide) (wL_32 FF hi1 hi2 he1 he2 hf0 hf1 h hI hl kk)
  | 33, _, h, hz => exact lv_tableIn (tgt := 1839) (off := 1800) hx hb dL_law_39 (by omega) (by omega) (by rw [hz]; rfl) (by decide) (wL_33 FF hi1 hi2 he1 he2 hf0 hf1 h hI hl kk)
  | 34, _, h, hz => exact lv_tableIn (tgt := 1902) (off := 1863) hx hb dL_law_39 (by omega) (by omega) (by rw [hz]; rfl) (by decide) (wL_34 FF hi1 hi2 he1 he2 hf0 hf1 h hI hl kk)
  | 35, _, h, hz => exact lv_tableIn (tgt := 1958) (off := 1919) hx hb dL_law_39 (by omega) (by omega) (by rw [hz]; rfl) (by decide) (wL_35 FF hi1 hi2 he1 he2 hf0 hf1 h hI hl kk)
  | 36, _, h, hz => exact lv_tableIn (tgt := 1971) (off := 1932) hx hb dL_law_39 (by omega) (by omega) (by rw [hz]; rfl) (by decide) (wL_36 FF hi1 hi2 he1 he2 hf0 hf1 h hI hl kk)
  | 37, _, h, hz => exact lv_tableIn (tgt := 1984) (off := 1945) hx hb dL_law_39 (by omega) (by omega) (by rw [hz]; rfl) (by decide) (wL_37 FF hi1 hi2 he1 he2 hf0 hf1 h hI hl kk)
  | 38, _, h, hz => exact lv_tableIn (tgt := 1997) (off := 1958) hx hb dL_law_39 (by omega) (by omega) (by rw [hz]; rfl) (by decide) (wL_38 FF hi1 hi2 he1 he2 hf0 hf1 h hI hl kk)
  | 39, _, h, hz => exact lv_tableIn (tgt := 2041) (off := 2002) hx hb dL_law_39 (by omega) (by omega) (by rw [hz]; rfl) (by decide) (wL_39 FF hi1 hi2 he1 he2 hf0 hf1 h hI hl kk)
  | 40, _, h, hz => exact lv_tableIn (tgt := 2085) (off := 2046) hx hb dL_law_39 (by omega) (by omega) (by rw [hz]; rfl) (by decide) (wL_40 FF hi1 hi2 he1 he2 hf0 hf1 h hI hl kk)
  | 41, _, h, hz => exact lv_tableIn (tgt := 2098) (off := 2059) hx hb dL_law_39 (by omega) (by omega) (by rw [hz]; rfl) (by decide) (wL_41 FF hi1 hi2 he1 he2 hf0 hf1 h hI hl kk)
  | 42, _, h, hz => exact lv_tableIn (tgt := 2111) (off := 2072) hx hb dL_law_39 (by omega) (by omega) (by rw [hz]; rfl) (by decide) (wL_42 FF hi1 hi2 he1 he2 hf0 hf1 h hI hl kk)
  | 43, _, h, hz => exact lv_tableIn (tgt := 2124) (off := 2085) hx hb dL_law_39 (by omega) (by omega) (by rw [hz]; rfl) (by decide) (wL_43 FF hi1 hi2 he1 he2 hf0 hf1 h hI hl kk)
  | 44, _, h, hz => exact lv_tableIn (tgt := 2137) (off := 2098) hx hb dL_law_39 (by omega) (by omega) (by rw [hz]; rfl) (by decide) (wL_44 FF hi1 hi2 he1 he2 hf0 hf1 h hI hl kk)
  | 45, _, h, hz => exact lv_tableIn (tgt := 2193) (off := 2154) hx hb dL_law_39 (by omega) (by omega) (by rw [hz]; rfl) (by decide) (wL_45 FF hi1 hi2 he1 he2 hf0 hf1 h hI hl kk)
  | 46, _, h, hz => exact lv_tableIn (tgt := 2249) (off := 2210) hx hb dL_law_39 (by omega) (by omega) (by rw [hz]; rfl) (by decide) (wL_46 FF hi1 hi2 he1 he2 hf0 hf1 h hI hl kk)
  | 47, _, h, hz => exact lv_tableIn (tgt := 2305) (off := 2266) hx hb dL_law_39 (by omega) (by omega) (by rw [hz]; rfl) (by decide) (wL_47 FF hi1 hi2 he1 he2 hf0 hf1 h hI hl kk)
  | 48, _, h, hz => exact lv_tableIn (tgt := 2318) (off := 2279) hx hb dL_law_39 (by omega) (by omega) (by rw [hz]; rfl) (by decide) (wL_48 FF hi1 hi2 he1 he2 hf0 hf1 h hI hl kk)
  | 49, _, h, hz => exact lv_tableIn (tgt := 2374) (off := 2335) hx hb dL_law_39 (by omega) (by omega) (by rw [hz]; rfl) (by decide) (wL_49 FF hi1 hi2 he1 he2 hf0 hf1 h hI hl kk)
  | 50, _, h, hz => exact lv_tableIn (tgt := 2387) (off := 2348) hx hb dL_law_39 (by omega) (by omega) (by rw [hz]; rfl) (by decide) (wL_50 FF hi1 hi2 he1 he2 hf0 hf1 h hI hl kk)
  | 51, _, h, hz => exact lv_tableIn (tgt := 2400) (off := 2361) hx hb dL_law_39 (by omega) (by omega) (by rw [hz]; rfl) (by decide) (wL_51 FF hi1 hi2 he1 he2 hf0 hf1 h hI hl kk)
  | 52, _, h, hz => exact lv_tableIn (tgt := 2413) (off := 2374) hx hb dL_law_39 (by omega) (by omega) (by rw [hz]; rfl) (by decide) (wL_52 FF hi1 hi2 he1 he2 hf0 hf1 h hI hl kk)
  | 53, _, h, hz => exact lv_tableIn (tgt := 2426) (off := 2387) hx hb dL_law_39 (by omega) (by omega) (by rw [hz]; rfl) (by decide) (wL_53 FF hi1 hi2 he1 he2 hf0 hf1 h hI hl kk)
  | 54, _, h, hz => exact lv_tableIn (tgt := 2439) (off := 2400) hx hb dL_law_39 (by omega) (by omega) (by rw [hz]; rfl) (by decide) (wL_54 FF hi1 hi2 he1 he2 hf0 hf1 h hI hl kk)
  | 55, _, h, hz => exact lv_tableIn (tgt := 2452) (off := 2413) hx hb dL_law_39 (by omega) (by omega) (by rw [hz]; rfl) (by decide) (wL_55 FF hi1 hi2 he1 he2 hf0 hf1 h hI hl kk)
  | 56, _, h, hz => exact lv_tableIn (tgt := 2465) (off := 2426) hx hb dL_law_39 (by omega) (by omega) (by rw [hz]; rfl) (by decide) (wL_56 FF hi1 hi2 he1 he2 hf0 hf1 h hI hl kk)
  | 57, _, h, hz => exact lv_tableIn (tgt := 2506) (off := 2467) hx hb dL_law_39 (by omega) (by omega) (by rw [hz]; rfl) (by decide) (wL_57 FF hi1 hi2 he1 he2 hf0 hf1 h hI hl kk)
  | k + 58, hk58, _, _ => omega
theorem xn_ofNat {n : Nat} (h : n < 2147483648) : (Int32.ofNat n).toInt = (n : Int) := Int32.toInt_ofNat_of_lt h
theorem xn_clamp {n : Nat} (h : n < 2147483648) : (Int32.ofNat n).toNatClampNeg = n := by
  show (Int32.ofNat n).toInt.toNat = n
  rw [xn_ofNat h]; rfl
theorem xn_in {n L : Nat} (h : n < 2147483648) (hL : n < L) : x_in (Int32.ofNat n) L := by
  rintro (h1 | h1)
  · rw [Int32.lt_iff_toInt_lt, xn_ofNat h] at h1
    have : (0 : Int32).toInt = 0 := rfl
    omega
  · rw [xn_clamp h] at h1
    omega
set_option maxHeartbeats 4000000 in
theorem wL_loop {p : Program} {l : Launch} {e : Env} {s : State} {m : MethodId} {below : List Frame} {meth : Method} {c : Code} {X : x_T} {b L : Nat} {xs : Nat → Int32} (FF : xw_F p l s m meth c b L xs X) (hL : L ≤ 1536) (hr : meth.sig.returnType = ret) (hnew : ∀ q, x_A X s.heap.size q → s.heap.size ≤ q) : ∀ (n j : Nat) (σ : x_S) (cells slots : Nat) (H : Heap) (locs : List Loc) (ls : Array Slot), gL_run n xs L σ j = some () → j ≤ 1600 → cells + n ≤ 601024 → slots + 6 * n ≤ 7293034 → x_I X σ s H locs → lv_has ls 9 (xw_lv X b (Int32.ofNat j)) → W p l e room_1 s m #[Value.ref b] below meth c H locs cells slots (lw_Z below #[Value.ref b] s) (F0 m 23 ls []) := by
  have F := FF.1
  have hx := F.1
  have hb := F.2.1
  intro n
  induction n with
  | zero => intro j σ cells slots H locs ls h; cases h
  | succ n ih =>
    intro j σ cells slots H locs ls h hj hc hs hI hl
    rw [gL_run] at h
    refine lv_iload hx hb dL_law_23 (lv_at hl 4 rfl) ?_
    refine lv_aload_n hx hb dL_law_25 rfl (lv_at hl 0 rfl) ?_
    refine xw_slen FF hI dL_law_26 ?_
    refine lv_iconst (v := 3) hx hb dL_law_27 (by decide) ?_
    refine lv_isub hx hb dL_law_28 ?_
    have e1 : (Int32.ofNat L - 3).toInt = (L : Int) - 3 := by
      rw [Int32.toInt_sub, xn_ofNat (by omega), show (3 : Int32).toInt = 3 from rfl, Int.bmod_eq_of_le (by omega) (by omega)]
    have e2 : (Int32.ofNat j).toInt = (j : Int) := xn_ofNat (by omega)
    refine lv_icmp_gt (tgt := 2526) hx hb dL_law_29 (by decide) (fun hgt => ?_) (fun hgt => ?_)
    · refine lv_iconst (v := 1) hx hb dL_law_2526 (by decide) ?_
      refine W.widen (k := 601024) (n := 7293034) (by omega) (by omega) ?_
      refine va_forget (fun q hq => hnew _ (hI.2.2.2.2.2 q hq)) ?_
      exact lw_ret (d0 := s.drawn) (Drawn.sameBut.refl s.drawn lw_cs) hx hb hr F.2.2.2.2.2.2.2 dL_law_2527
    · rw [Int32.lt_iff_toInt_lt, e1, e2] at hgt
      have hjL : j + 3 ≤ L := by omega
      rw [if_pos hjL] at h
      obtain ⟨τ, h1, h2⟩ := x_bnd h
      have a1 : Int32.ofNat j + (1 : Int32) = Int32.ofNat (j + 1) := (Int32.ofNat_add j 1).symm
      have a2 : Int32.ofNat j + (2 : Int32) = Int32.ofNat (j + 2) := (Int32.ofNat_add j 2).symm
      refine wL_step (a0 := xs j) (a1 := xs (j + 1)) (a2 := xs (j + 2)) FF (xn_in (by omega) (by omega)) (by rw [a1]; exact xn_in (by omega) (by omega)) (by rw [a2]; exact xn_in (by omega) (by omega)) (by rw [xn_clamp (by omega)]) (by rw [a1, xn_clamp (by omega)]) (by rw [a2, xn_clamp (by omega)]) ⟨by show cells ≤ 601024; omega, by show slots ≤ 7293034; omega⟩ ⟨by show cells + 1 ≤ 601024; omega, by show slots + 6 ≤ 7293034; omega⟩ h1 hI hl (fun H1 locs1 ls1 hI1 hl1 => ?_)
      refine lv_iinc (v := Int32.ofNat (j + 3)) (lv' := [(4, .int (Int32.ofNat (j + 3))), (0, .ref b), (1, .ref (X.2.2 10 32)), (2, .ref (X.2.2 11 40)), (3, .ref (X.2.2 12 48))]) hx hb dL_law_2520 hl1 (k := 4) rfl (Int32.ofNat_add j 3).symm (by decide) rfl (fun ls2 hl2 => ?_)
      refine lv_goto (tgt := 23) hx hb dL_law_2523 (by decide) ?_
      exact ih (j + 3) τ (cells + 1) (slots + 6) H1 locs1 ls2 h2 (by omega) (by omega) (by omega) hI1 (lv_sub hl2 [1, 2, 3, 4, 0] rfl)
