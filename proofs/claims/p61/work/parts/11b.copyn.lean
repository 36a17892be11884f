abbrev rm_X6_copyNumbers : Room := { frames := 1, cells := 0, slots := 0, locals := 26 }
set_option maxHeartbeats 4000000 in
set_option maxRecDepth 100000 in
/-- copyNumbers(from, to), two rows of one length -/
theorem mX6_copyNumbers (l : Launch) (X : x_T) (σ : x_S) (sz : Nat) {i k0 j k n : Nat} (hm0 : (i, k0) ∈ x_ids) (hm : (j, k) ∈ x_ids) (hc0 : ∀ v : x_V, x_cell X i k0 v = .inl (X.2.1 0, n, .inl v)) (hc : ∀ v : x_V, x_cell X j k v = .inl (X.2.1 0, n, .inl v)) (hn : n < 2 ^ 31) : Met l yX6_copyNumbers (x_ws yX6_copyNumbers cX6_copyNumbers 2 none) rm_X6_copyNumbers (x_Pc X σ sz [.ref (X.2.2 i k0), .ref (X.2.2 j k)]) (x_Qv X (x_sh σ j (x_hs (σ j) k (σ i k0))) sz) 0 0 (x_A X sz) := by
  refine Met.ofW (cc := cX6_copyNumbers) (maxL := 2) (ret := none) (by decide) rfl ?_
  intro p e s m args below meth c s₁ B hml hv
  obtain ⟨F, hI, rfl, rfl⟩ := x_begin B hml hv
  replace F : x_F p s m _ meth c cX6_copyNumbers 2 RX6 none := F
  have hx := F.1
  have hb := F.2.1
  have hml := F.2.2.1
  have hown := F.2.2.2.1
  have hts := F.2.2.2.2.1
  refine x_entry (vs := [.ref (X.2.2 i k0), .ref (X.2.2 j k)]) (n := 2) (Nat.le_of_ble_eq_true rfl) (fun ls hl => ?_)
  replace hl : lv_has ls 2 [(0, .ref (X.2.2 i k0)), (1, .ref (X.2.2 j k))] := hl
  refine lv_aload_n hx hb dX6_copyNumbers_0 rfl (lv_at hl 0 rfl) ?_
  refine lv_iconst (v := 0) hx hb dX6_copyNumbers_1 (by decide) ?_
  refine lv_aload_n hx hb dX6_copyNumbers_2 rfl (lv_at hl 1 rfl) ?_
  refine lv_iconst (v := 0) hx hb dX6_copyNumbers_3 (by decide) ?_
  refine lv_aload_n hx hb dX6_copyNumbers_4 rfl (lv_at hl 0 rfl) ?_
  refine x_alen F hI hm0 hc0 dX6_copyNumbers_5 ?_
  refine lv_aload_n hx hb dX6_copyNumbers_6 rfl (lv_at hl 1 rfl) ?_
  refine x_alen F hI hm hc dX6_copyNumbers_7 ?_
  refine va_mmin hx hb (hml.trans hl.1.symm) hown (hts _ u_ml_X6_315) (hts _ u_st_java_lang_Mathmin) (hts _ u_ini_java_lang_Math) (hts _ u_co_java_lang_Mathmin) (by decide) (Nat.le_of_ble_eq_true rfl) (Nat.zero_le _) (Nat.zero_le _) dX6_copyNumbers_8 ?_
  have e1 : (if nI n < nI n then nI n else nI n) = nI n := ite_self _
  rw [e1]
  have z0 : (0 : Int32).toNatClampNeg = 0 := by decide
  refine x_acopy F hI hm0 hm hc0 hc ⟨by decide, by decide, nI_pos hn, ?_, ?_⟩ u_ml_X6_320 u_na_java_lang_Systemarraycopy u_st_java_lang_Systemarraycopy u_ini_java_lang_System hl.1 (by decide) (Nat.le_of_ble_eq_true rfl) dX6_copyNumbers_11 (fun H locs hI => ?_)
  · rw [nI_clamp hn, z0]; omega
  · rw [nI_clamp hn, z0]; omega
  have hI := x_norm1 (v' := σ i k0) hc (fun q hq => by
    rw [nI_clamp hn, z0]
    unfold va_cpy
    rw [if_pos ⟨Nat.zero_le _, by omega⟩]
    congr 1
    omega) hI
  exact x_vret F hI dX6_copyNumbers_14
