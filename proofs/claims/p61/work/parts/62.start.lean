/-! ===== the law's start: two objects ===== -/
def fL_law (xs : Nat → Int32) (L : Nat) : Option Int32 := Option.bind (fL_alike x_s0 x_s0) fun r1 => (if r1.1 = 0 then fL_law_b47 xs L 41 r1.2.1 r1.2.2 (0 : Int32) (0 : Int32) else Option.bind (fL_errors r1.2.1) fun r2 => (if r2.1 = 0 then fL_law_b47 xs L 41 r2.2 r1.2.2 (0 : Int32) (0 : Int32) else Option.bind (fL_kept r2.2) fun r3 => (if r3.1 = 0 then fL_law_b47 xs L 41 r3.2 r1.2.2 (0 : Int32) (0 : Int32) else fL_law_b47 xs L 41 r3.2 r1.2.2 (1 : Int32) (0 : Int32))))
theorem xs_str {args : Array Value} {s : State} {own tx : String} {k : Nat} (h : (Cond.stringRef own k tx).before args s = true) : ∃ a, vk_R own k tx a s := by
  have h1 : (Cond.stringRef own k tx).before #[] s = true := h
  have hcur : ∃ cur, s.vm.findClass own = some cur := by
    have h2 := h1
    simp only [Cond.before, Cond.holds, Cond.value] at h2
    cases hc : s.vm.findClass own with
    | none => simp [hc] at h2
    | some cur => exact ⟨cur, rfl⟩
  obtain ⟨cur, hcur⟩ := hcur
  obtain ⟨_, _, _, a, _, _, _, _, _, h9⟩ := Cond.stringRef_spec hcur h1
  exact ⟨a, h1, h9⟩
theorem xs_arr {args : Array Value} {s : State} {ty : FieldType} (h : (Cond.arrayClass ty).before args s = true) : ∃ cA, ArrOfT s cA ty ∧ s.vm.findClass ("[" ++ ty.toString) = some cA := by
  obtain ⟨c, k, comp, h1, h2, h3⟩ := Cond.arrayClass_spec h
  exact ⟨c, fun n z => ⟨fun k h => (by cases h), k, h2, comp, h3⟩, h1⟩
theorem xs_arrq {args : Array Value} {s : State} {C : String} (h : (Cond.arrayOver (.object C)).before args s = true) : ∃ cA, ArrOfT s cA (.object C) ∧ va_RA s cA (.object C) := by
  obtain ⟨comp, c, k, h1, -, h2, h3, h4⟩ := Cond.arrayOver_spec h
  exact ⟨c, fun n z => ⟨fun k h => (by cases h), k, h2, comp, h3⟩, k, comp, h2, h3, h1, h4⟩
theorem xs_inj {α β : Type} {l : List α} {f : α → β} (h : (l.map f).Nodup) {a b : α} (ha : a ∈ l) (hb : b ∈ l) (he : f a = f b) : a = b := by
  obtain ⟨i, hi⟩ := List.getElem?_of_mem ha
  obtain ⟨j, hj⟩ := List.getElem?_of_mem hb
  have h1 : (l.map f)[i]? = some (f a) := by rw [List.getElem?_map, hi]; rfl
  have h2 : (l.map f)[j]? = some (f a) := by rw [List.getElem?_map, hj, he]; rfl
  have e := (List.getElem?_inj (List.getElem?_eq_some_iff.mp h1).1 h).mp (h1.trans h2.symm)
  subst e
  exact Option.some.inj (hi.symm.trans hj)
theorem xi_sub : ∀ q ∈ x_ids, q ∈ xi_X6 := by decide +kernel
/-- one object out of the cells that its constructor made -/
theorem xs_one {Y : x_T} {G : Nat → Nat → Nat} {s : State} {H : Heap} {ws : va_W} (hK : va_K Y.1 vwCl (x_tys Y) s) (hP : va_P Y.1 vwCl ws H) (hn : ((xc_w Y G x_s0 xi_X6).map Prod.fst).Nodup) (hs : ∀ q ∈ xc_w Y G x_s0 xi_X6, q ∈ ws) : x_W1 (Y.1, Y.2.1, G) x_s0 s H := by
  have hn2 : (xi_X6.map (fun q => G q.1 q.2)).Nodup := by
    have e : (xc_w Y G x_s0 xi_X6).map Prod.fst = xi_X6.map (fun q => G q.1 q.2) := by unfold xc_w; rw [List.map_map]; rfl
    rw [← e]; exact hn
  refine ⟨fun a ha z hz he => xs_inj hn2 (xi_sub a ha) (xi_sub z hz) he, hK, xc_P_iff.mpr (fun z hz => ?_)⟩
  obtain ⟨w, hw, rfl⟩ := List.mem_map.mp hz
  exact xc_P_iff.mp hP _ (hs _ (List.mem_map_of_mem (f := fun q : Nat × Nat => (G q.1 q.2, x_cell (Y.1, Y.2.1, G) q.1 q.2 (x_s0 q.1 q.2))) (xi_sub w hw)))
set_option maxHeartbeats 8000000 in
set_option maxRecDepth 100000 in
/-- the law, if its run over the numbers comes to its end -/
theorem whole_start0 {p : Program} {e : Env} {s : State} {m : MethodId} {below : List Frame} {meth : Method} {c : Code} (l : Launch) (hflags : l.flags = flags0) {b L : Nat} {xs : Nat → Int32} (C0 : lw_At p s m meth c b L xs) (T : fL_law xs L = some (1 : Int32)) : W p l e room_1 s m #[Value.ref b] below meth c s.heap [] 0 0 (lw_Z below #[Value.ref b] s) (entryFrame m ([Value.ref b] : List Value).toArray 8) := by
  obtain ⟨hx, hb, hr, hml, hown, hts, hX, hbl, hlocks, hgv⟩ := id C0
  have hl0 : l.stackTraces = false := by
    unfold Launch.stackTraces
    rw [hflags]
    decide
  have F : x_F p s m #[Value.ref b] meth c cL_law 8 RL ret := ⟨hx, hb, hml, hown, fun w hw => hts w (x_Ul w hw), fun w hw => va_Nw.of (by
      have hn : x_isNest w = true := (List.mem_filter.mp hw).2
      cases w <;> first | rfl | (simp [x_isNest] at hn)) (hts w (List.mem_append_right _ (List.mem_filter.mp hw).1)), hr, hlocks⟩
  have hO : va_AO RX2 s := va_AO.of (hts (.arrayOver (.object RX2)) (List.mem_append_right _ (List.mem_of_getElem? (i := 204) (by decide +kernel))))
  obtain ⟨c0, i0, k0⟩ := u_known (C := RX0) (T := TX0) (N := 4) (n := 4) F.2.2.2.2.1 xin_0 (F.2.2.2.2.1 _ u_inst_X0)
  obtain ⟨c1, i1, k1⟩ := u_known (C := RX1) (T := TX1) (N := 7) (n := 7) F.2.2.2.2.1 xin_1 (F.2.2.2.2.1 _ u_inst_X1)
  obtain ⟨c2, i2, k2⟩ := u_known (C := RX2) (T := TX2) (N := 11) (n := 11) F.2.2.2.2.1 xin_2 (F.2.2.2.2.1 _ u_inst_X2)
  obtain ⟨c3, i3, k3⟩ := u_known (C := RX3) (T := TX3) (N := 11) (n := 11) F.2.2.2.2.1 xin_3 (F.2.2.2.2.1 _ u_inst_X3)
  obtain ⟨c4, i4, k4⟩ := u_known (C := RX4) (T := TX4) (N := 7) (n := 7) F.2.2.2.2.1 xin_4 (F.2.2.2.2.1 _ u_inst_X4)
  obtain ⟨c5, i5, k5⟩ := u_known (C := RX5) (T := TX5) (N := 2) (n := 2) F.2.2.2.2.1 xin_5 (F.2.2.2.2.1 _ u_inst_X5)
  obtain ⟨c6, i6, k6⟩ := u_known (C := RX6) (T := TX6) (N := 6) (n := 6) F.2.2.2.2.1 xin_6 (F.2.2.2.2.1 _ (x_ut 17 (by decide +kernel) rfl))
  obtain ⟨D, hKc⟩ : ∃ D : va_G, ∀ (k : Nat) (q : vw_C), vwCl[k]? = some q → u_Kn s q.1 q.2.1 q.2.2 (D.1 k) (D.2 k) := by
    refine ⟨(fun k => [c0, c1, c2, c3, c4, c5, c6].getD k c0, fun k => [i0, i1, i2, i3, i4, i5, i6].getD k i0), ?_⟩
    intro k q hq
    match k, hq with
    | 0, hq => cases hq; exact k0
    | 1, hq => cases hq; exact k1
    | 2, hq => cases hq; exact k2
    | 3, hq => cases hq; exact k3
    | 4, hq => cases hq; exact k4
    | 5, hq => cases hq; exact k5
    | 6, hq => cases hq; exact k6
    | k + 7, hq => simp [vwCl] at hq
  obtain ⟨a0, g0, f0⟩ := xs_arr (F.2.2.2.2.1 _ u_arr_int)
  obtain ⟨a1, g1, f1⟩ := xs_arr (F.2.2.2.2.1 _ u_arr_char)
  obtain ⟨a2, g2, f2⟩ := xs_arr (F.2.2.2.2.1 _ u_arr_boolean)
  obtain ⟨a3, g3, f3⟩ := xs_arrq (va_AO.use (A := #[Value.ref b]) hO)
  obtain ⟨ac, hac⟩ : ∃ ac : Nat → ClassId, ∀ G : Nat → Nat → Nat, va_K D vwCl (x_tys (D, ac, G)) s := by
    refine ⟨fun k => [a0, a1, a2, a3].getD k a0, fun G => ⟨hKc, ?_⟩⟩
    intro k q hq
    match k, hq with
    | 0, hq => cases hq; exact ⟨g0, f0⟩
    | 1, hq => cases hq; exact ⟨g1, f1⟩
    | 2, hq => cases hq; exact ⟨g2, f2⟩
    | 3, hq => cases hq; exact ⟨g3, f3⟩
    | k + 4, hq => simp [x_tys] at hq
  obtain ⟨V, hV⟩ : ∃ V : x_T, V = (D, ac, fun _ _ => 0) := ⟨_, rfl⟩
  have hKV : va_K V.1 vwCl (x_tys V) s := by rw [hV]; exact hac _
  have hI : xc_I V (fun q => s.heap.size ≤ q) s s.heap [] [] := ⟨hKV, fun k q h => by simp at h, ⟨fun i j p q h => by simp at h, fun k q h => by simp at h⟩, va_S.rf, fun q h => h⟩
  refine x_entry (vs := [.ref b]) (n := 8) (Nat.le_of_ble_eq_true rfl) (fun ls hl => ?_)
  replace hl : lv_has ls 8 [(0, .ref b)] := hl
  refine xc_new (ci := 6) (fs := [.null, .null, .null, .null, .null, .null]) F hI xin_6 tyX6 tyX6_ok (x_ut 16 (by decide +kernel) rfl) (x_ut 17 (by decide +kernel) rfl) u_ini_X6 rfl (fun j hj => by rcases (show j = 0 ∨ j = 1 ∨ j = 2 ∨ j = 3 ∨ j = 4 ∨ j = 5 by omega) with rfl | rfl | rfl | rfl | rfl | rfl <;> rfl) (Nat.le_of_ble_eq_true rfl) (Nat.le_of_ble_eq_true rfl) dL_law_0 (fun q1 H hI => ?_)
  refine lv_dup hx hb dL_law_3 rfl ?_
  refine xc_made hI (xc_runI F hO hI (cX6 l V q1 H.size) u_ml_L_297 u_co_X6_init u_ini_X6 u_in_X6_init rfl hd_X6_init ⟨by decide, by decide⟩ ⟨rfl, rfl⟩ hl.1 (Nat.le_of_ble_eq_true rfl) dL_law_4 ⟨by decide, by decide⟩) (fun G1 H locs hG hJ => ?_)
  obtain rfl := hG
  have hI := hJ
  refine lv_astore_n (lv' := [(1, .ref (G1 10 32)), (0, .ref b)]) hx hb dL_law_7 rfl hl (by decide) rfl (fun ls hl => ?_)
  refine xc_new (ci := 6) (fs := [.null, .null, .null, .null, .null, .null]) F hI xin_6 tyX6 tyX6_ok (x_ut 16 (by decide +kernel) rfl) (x_ut 17 (by decide +kernel) rfl) u_ini_X6 rfl (fun j hj => by rcases (show j = 0 ∨ j = 1 ∨ j = 2 ∨ j = 3 ∨ j = 4 ∨ j = 5 by omega) with rfl | rfl | rfl | rfl | rfl | rfl <;> rfl) (Nat.le_of_ble_eq_true rfl) (Nat.le_of_ble_eq_true rfl) dL_law_8 (fun q2 H hI => ?_)
  refine lv_dup hx hb dL_law_11 rfl ?_
  refine xc_made hI (xc_runI F hO hI (cX6 l V q2 H.size) u_ml_L_297 u_co_X6_init u_ini_X6 u_in_X6_init rfl hd_X6_init ⟨by decide, by decide⟩ ⟨rfl, rfl⟩ hl.1 (Nat.le_of_ble_eq_true rfl) dL_law_12 ⟨by decide, by decide⟩) (fun G2 H locs hG hJ => ?_)
  obtain rfl := hG
  have hI := hJ
  refine lv_astore_n (lv' := [(2, .ref (G2 10 32)), (1, .ref (G1 10 32)), (0, .ref b)]) hx hb dL_law_15 rfl hl (by decide) rfl (fun ls hl => ?_)
  obtain ⟨X, hXe⟩ : ∃ X : x_T, X = (V.1, V.2.1, G1) := ⟨_, rfl⟩
  obtain ⟨Y, hYe⟩ : ∃ Y : x_T, Y = (V.1, V.2.1, G2) := ⟨_, rfl⟩
  obtain ⟨hK9, hP9, hD9, hS9, -⟩ := hI
  obtain ⟨n9, d9⟩ := xc_D_iff.mp hD9
  rw [List.map_append, List.nodup_append, List.map_append] at n9
  obtain ⟨n2, n1, n12⟩ := n9
  have n1' : ((xc_w V G1 x_s0 xi_X6).map Prod.fst).Nodup := (List.nodup_append.mp n1).1
  have hX0 : X.2.2 10 32 = G1 10 32 := by rw [hXe]
  have hY0 : Y.2.2 10 32 = G2 10 32 := by rw [hYe]
  have m1 : ∀ q ∈ x_ids, (G1 q.1 q.2, x_cell (V.1, V.2.1, G1) q.1 q.2 (x_s0 q.1 q.2)) ∈ xc_w V G1 x_s0 xi_X6 := fun w hw => List.mem_map_of_mem (f := fun q : Nat × Nat => (G1 q.1 q.2, x_cell (V.1, V.2.1, G1) q.1 q.2 (x_s0 q.1 q.2))) (xi_sub w hw)
  have m2 : ∀ q ∈ x_ids, (G2 q.1 q.2, x_cell (V.1, V.2.1, G2) q.1 q.2 (x_s0 q.1 q.2)) ∈ xc_w V G2 x_s0 xi_X6 := fun w hw => List.mem_map_of_mem (f := fun q : Nat × Nat => (G2 q.1 q.2, x_cell (V.1, V.2.1, G2) q.1 q.2 (x_s0 q.1 q.2))) (xi_sub w hw)
  have hX1 : x_W1 X x_s0 s H := by rw [hXe]; exact xs_one hK9 hP9 n1' (fun q hq => List.mem_append_right _ (List.mem_append_left _ hq))
  have hY1 : x_W1 Y x_s0 s H := by rw [hYe]; exact xs_one hK9 hP9 n2 (fun q hq => List.mem_append_left _ hq)
  have hDis : x_Dis X Y := by
    intro a ha z hz he
    rw [hXe, hYe] at he
    exact n12 _ (List.mem_map_of_mem (f := Prod.fst) (m2 z hz)) _ (List.mem_append_left _ (List.mem_map_of_mem (f := Prod.fst) (m1 a ha))) he.symm
  have hJ : x_J (xj_A s) X Y x_s0 x_s0 s H _ := ⟨hX1, hY1, hDis, hS9⟩
  have hA : x_AJ (xj_A s) X Y s := by
    refine ⟨?_, ?_⟩
    · rintro q (⟨z, hz, rfl⟩ | h)
      · rw [hXe]; exact d9 _ (List.mem_append_right _ (List.mem_append_left _ (m1 z hz)))
      · exact h
    · rintro q (⟨z, hz, rfl⟩ | h)
      · rw [hYe]; exact d9 _ (List.mem_append_left _ (m2 z hz))
      · exact h
  have hsub : ∀ a : Nat, a < s.heap.size → ¬ xj_A s a := fun a h1 => Nat.not_le.mpr h1
  have hn := flat_of_before _ hgv
  have Z : x_ZJ (xj_A s) s := by
    refine ⟨vx_Zqof (hts (.laysStatic Bundle.tN "UNASSIGNED_STACK" Bundle.steD) (List.mem_append_right _ (List.mem_of_getElem? (i := 299) (by decide +kernel)))) (hts (.initialized Bundle.tN) (List.mem_append_right _ (List.mem_of_getElem? (i := 10) (by decide +kernel)))) (hn _ (by decide +kernel)) hsub, vx_Zqof (hts (.laysStatic Bundle.tN "SUPPRESSED_SENTINEL" Bundle.listD) (List.mem_append_right _ (List.mem_of_getElem? (i := 301) (by decide +kernel)))) (hts (.initialized Bundle.tN) (List.mem_append_right _ (List.mem_of_getElem? (i := 10) (by decide +kernel)))) (hn _ (by decide +kernel)) hsub, ?_, xt_Fs.of (fun w hw => hts w (List.mem_append_right _ (List.mem_filter.mp hw).1)), va_Nc.of (hn _ (by decide +kernel)), va_Nc.of (hn _ (by decide +kernel))⟩
    intro q hq
    simp only [xt_strs, List.mem_cons, List.not_mem_nil, or_false] at hq
    rcases hq with rfl | rfl | rfl | rfl | rfl | rfl
    · exact xs_str (hts _ (List.mem_append_right _ (List.mem_of_getElem? (i := 655) (by decide +kernel))))
    · exact xs_str (hts _ (List.mem_append_right _ (List.mem_of_getElem? (i := 705) (by decide +kernel))))
    · exact xs_str (hts _ (List.mem_append_right _ (List.mem_of_getElem? (i := 758) (by decide +kernel))))
    · exact xs_str (hts _ (List.mem_append_right _ (List.mem_of_getElem? (i := 313) (by decide +kernel))))
    · exact xs_str (hts _ (List.mem_append_right _ (List.mem_of_getElem? (i := 389) (by decide +kernel))))
    · exact xs_str (hts _ (List.mem_append_right _ (List.mem_of_getElem? (i := 1068) (by decide +kernel))))
  have FF : xj_F p l s m meth c b L xs X Y := ⟨F, hl0, Z, hX, hbl, hA, hr⟩
  rw [← hX0, ← hY0] at hl
  clear hX0 hY0 hX1 hY1 hDis m1 m2 n1 n1' n2 n12 d9 hD9 hP9 hK9 hS9
  unfold fL_law at T
  refine lv_aload_n hx hb dL_law_16 rfl (lv_at hl 1 rfl) ?_
  refine lv_aload_n hx hb dL_law_17 rfl (lv_at hl 0 rfl) ?_
  obtain ⟨r1, h1, h⟩ := x_bnd T
  refine xj_alike FF hJ (rest := []) h1 hl.1 rfl (Nat.le_of_ble_eq_true rfl) dL_law_18 ⟨by decide, by decide⟩ (fun H locs hJ => ?_)
  have END : ∀ (v : Int32) (σ τ : x_S) (H : Heap) (locs : List Loc) (ls : Array Slot) (cells slots : Nat), cells ≤ 10000 → slots ≤ 60000 → fL_law_b47 xs L 41 σ τ v (0 : Int32) = some (1 : Int32) → x_J (xj_A s) X Y σ τ s H locs → lv_has ls 8 [(2, .ref (Y.2.2 10 32)), (1, .ref (X.2.2 10 32)), (0, .ref b)] → W p l e room_1 s m #[Value.ref b] below meth c H locs cells slots (lw_Z below #[Value.ref b] s) (F0 m 43 ls [.int v]) := by
    intro v σ τ H locs ls cells slots hc hs h hJ hl
    refine lv_istore_n (lv' := [(3, .int v), (2, .ref (Y.2.2 10 32)), (1, .ref (X.2.2 10 32)), (0, .ref b)]) hx hb dL_law_43 rfl hl (by decide) rfl (fun ls hl => ?_)
    refine lv_iconst (v := 0) hx hb dL_law_44 (by decide) ?_
    refine lv_istore (lv' := [(4, .int 0), (3, .int v), (2, .ref (Y.2.2 10 32)), (1, .ref (X.2.2 10 32)), (0, .ref b)]) hx hb dL_law_45 hl (by decide) rfl (fun ls hl => ?_)
    exact wL_law_b47 FF 41 σ τ v (0 : Int32) H locs ls cells slots ⟨by omega, by omega⟩ h hJ (lv_sub hl [4, 3, 2, 1, 0] rfl)
  have NO : ∀ (σ τ : x_S) (H : Heap) (locs : List Loc) (ls : Array Slot) (cells slots : Nat), cells ≤ 10000 → slots ≤ 60000 → fL_law_b47 xs L 41 σ τ (0 : Int32) (0 : Int32) = some (1 : Int32) → x_J (xj_A s) X Y σ τ s H locs → lv_has ls 8 [(2, .ref (Y.2.2 10 32)), (1, .ref (X.2.2 10 32)), (0, .ref b)] → W p l e room_1 s m #[Value.ref b] below meth c H locs cells slots (lw_Z below #[Value.ref b] s) (F0 m 42 ls []) := by
    intro σ τ H locs ls cells slots hc hs h hJ hl
    refine lv_iconst (v := 0) hx hb dL_law_42 (by decide) ?_
    exact END 0 σ τ H locs ls cells slots hc hs h hJ hl
  refine lv_if_eq (tgt := 42) hx hb dL_law_21 (by decide) (fun c1 => ?_) (fun c1 => ?_)
  · have h := x_ift h c1
    exact NO _ _ _ _ _ _ _ (by decide) (by decide) h hJ hl
  have h := x_iff h c1
  refine lv_aload_n hx hb dL_law_24 rfl (lv_at hl 1 rfl) ?_
  obtain ⟨r2, h2, h⟩ := x_bnd h
  refine xz_aci hA hJ (xz_runM (rest := []) F Z hA hJ (mL_errors l hl0 X _ r1.2.1 r2 h2) gm_L_302 hd_L_errors ⟨by decide, by decide⟩ ⟨rfl, rfl⟩ rfl hl.1 rfl (Nat.le_of_ble_eq_true rfl) dL_law_25 ⟨by decide, by decide⟩) (fun H locs hJ => ?_)
  refine lv_if_eq (tgt := 42) hx hb dL_law_28 (by decide) (fun c2 => ?_) (fun c2 => ?_)
  · have h := x_ift h c2
    exact NO _ _ _ _ _ _ _ (by decide) (by decide) h hJ hl
  have h := x_iff h c2
  refine lv_aload_n hx hb dL_law_31 rfl (lv_at hl 1 rfl) ?_
  obtain ⟨r3, h3, h⟩ := x_bnd h
  refine xz_aci hA hJ (xz_runM (rest := []) F Z hA hJ (mL_kept l hl0 X _ r2.2 r3 h3) gm_L_306 hd_L_kept ⟨by decide, by decide⟩ ⟨rfl, rfl⟩ rfl hl.1 rfl (Nat.le_of_ble_eq_true rfl) dL_law_32 ⟨by decide, by decide⟩) (fun H locs hJ => ?_)
  refine lv_if_eq (tgt := 42) hx hb dL_law_35 (by decide) (fun c3 => ?_) (fun c3 => ?_)
  · have h := x_ift h c3
    exact NO _ _ _ _ _ _ _ (by decide) (by decide) h hJ hl
  have h := x_iff h c3
  refine lv_iconst (v := 1) hx hb dL_law_38 (by decide) ?_
  refine lv_goto (tgt := 43) hx hb dL_law_39 (by decide) ?_
  exact END 1 _ _ _ _ _ _ _ (by decide) (by decide) h hJ hl
