theorem xs_str {args : Array Value} {s : State} {own tx : String} {k : Nat} (h : (Cond.stringRef own k tx).before args s = true) : ∃ a, vk_R own k tx a s := by
  have h1 : (Cond.stringRef own k tx).before #[] s = true := h
  have hcur : ∃ cur, s.vm.findClass own = some cur := by
    have h2 := h1
    simp only [Cond.before, Cond.holds, Cond.value] at h2
    cases hc : s.vm.findClass own with
    | none => simp [hc] at h2
    | some cur => exact ⟨cur, rfl⟩
  obtain ⟨cur, hcur⟩ := hcur
  obtain ⟨_, _, _, a, _, _, _, _, _, h9⟩ := Cond.stringRef_spec hcur h1
  exact ⟨a, h1, h9⟩
theorem xs_arr {args : Array Value} {s : State} {ty : FieldType} (h : (Cond.arrayClass ty).before args s = true) : ∃ cA, ArrOfT s cA ty ∧ s.vm.findClass ("[" ++ ty.toString) = some cA := by
  obtain ⟨c, k, comp, h1, h2, h3⟩ := Cond.arrayClass_spec h
  exact ⟨c, fun n z => ⟨fun k h => (by cases h), k, h2, comp, h3⟩, h1⟩
theorem xs_arrq {args : Array Value} {s : State} {C : String} (h : (Cond.arrayOver (.object C)).before args s = true) : ∃ cA, ArrOfT s cA (.object C) ∧ va_RA s cA (.object C) := by
  obtain ⟨comp, c, k, h1, -, h2, h3, h4⟩ := Cond.arrayOver_spec h
  exact ⟨c, fun n z => ⟨fun k h => (by cases h), k, h2, comp, h3⟩, k, comp, h2, h3, h1, h4⟩
theorem xs_inj {α β : Type} {l : List α} {f : α → β} (h : (l.map f).Nodup) {a b : α} (ha : a ∈ l) (hb : b ∈ l) (he : f a = f b) : a = b := by
  obtain ⟨i, hi⟩ := List.getElem?_of_mem ha
  obtain ⟨j, hj⟩ := List.getElem?_of_mem hb
  have h1 : (l.map f)[i]? = some (f a) := by rw [List.getElem?_map, hi]; rfl
  have h2 : (l.map f)[j]? = some (f a) := by rw [List.getElem?_map, hj, he]; rfl
  have e := (List.getElem?_inj (List.getElem?_eq_some_iff.mp h1).1 h).mp (h1.trans h2.symm)
  subst e
  exact Option.some.inj (hi.symm.trans hj)
def xi_all : List (Nat × Nat) := (12, 48) :: (xi_X7 ++ (xi_X6 ++ []))
theorem xi_sub : ∀ q ∈ x_ids, q ∈ xi_all := by decide +kernel
theorem xi_sub2 : ∀ q ∈ xi_all, q ∈ x_ids := by decide +kernel
def xg_all (q3 : Nat) (G2 G1 : Nat → Nat → Nat) : Nat → Nat → Nat := fun j k => match j with
  | 12 => q3
  | 11 => G2 11 k
  | j => G1 j k
section XS
variable {p : Program} {l : Launch} {e : Env} {R : Room} {s : State} {m : MethodId} {args : Array Value} {below : List Frame} {meth : Method} {c : Code} {H : Heap} {locs : List Loc} {cells slots : Nat} {Q : State → Prop}
variable {cc : ByteArray} {nL : Nat} {own : String} {ret' : Option FieldType} {pc : Nat} {ls : Array Slot} {rest : List Value} {Y : x_T} {A : Nat → Prop} {ws : va_W}
theorem xc_newl (F : x_F p s m args meth c cc nL own ret') (hI : xc_I Y A s H locs ws) (harr : Cond.arrayClass (newarray.typeOf .long) ∈ x_U) (hcells : cells + 1 ≤ R.cells) (hslots : slots + 1 ≤ R.slots) (hdg : decode cc pc = .ok (.newarray .long, 2))
    (kk : ∀ (q : Nat) (H1 : Heap), xc_I Y A s H1 locs ((q, .inl (Y.2.1 4, 1, .inr (.inl (fun _ => 0)))) :: ws) → W p l e R s m args below meth c H1 locs (cells + 1) (slots + 1) Q (F0 m (pc + 2) ls (.ref q :: rest))) : W p l e R s m args below meth c H locs cells slots Q (F0 m pc ls (.int 1 :: rest)) := by
  obtain ⟨hK, hP, hD, hS, hA⟩ := hI
  refine va_newa (a0 := (1, .inr (.inl (fun _ => 0)))) F.1 F.2.1 (F.2.2.2.2.1 _ harr) (ty := .long) rfl hK hP hD hS hA (fun _ => rfl) (by decide) (N' := 1) (by decide) (by decide) hcells hslots hdg (fun q cA' H1 k1 k2 k3 k4 => ?_)
  have e1 : s.vm.findClass ("[" ++ FieldType.long.toString) = some (Y.2.1 4) := (hK.2 4 (Y.2.1 4, .long) rfl).2
  have e2 : s.vm.findClass ("[" ++ FieldType.long.toString) = some cA' := (k1.2 (x_tys Y).length (cA', .long) (by rw [List.getElem?_append_right (Nat.le_refl _), Nat.sub_self]; rfl)).2
  have he : cA' = Y.2.1 4 := Option.some.inj (e2.symm.trans e1)
  subst he
  have hp : (ws ++ [(q, .inl (Y.2.1 4, 1, .inr (.inl (fun _ => 0))))] : va_W).Perm ((q, .inl (Y.2.1 4, 1, .inr (.inl (fun _ => 0)))) :: ws) := List.perm_append_singleton _ ws
  exact kk q H1 ⟨hK, xc_P_perm k2 hp, xc_D_perm k3 hp, k4, hA⟩
end XS
set_option maxHeartbeats 8000000 in
set_option maxRecDepth 100000 in
/-- the law, if its run over the numbers comes to its end -/
theorem whole_start0 {p : Program} {e : Env} {s : State} {m : MethodId} {below : List Frame} {meth : Method} {c : Code} (l : Launch) (hflags : l.flags = flags0) {b L : Nat} {xs : Nat → Int32} (hL : L ≤ 1536) (C0 : lw_At p s m meth c b L xs) (T : gL_run 513 xs L x_s0 0 = some ()) : W p l e room_1 s m #[Value.ref b] below meth c s.heap [] 0 0 (lw_Z below #[Value.ref b] s) (entryFrame m ([Value.ref b] : List Value).toArray 9) := by
  obtain ⟨hx, hb, hr, hml, hown, hts, hX, hbl, hlocks, hgv⟩ := id C0
  have hl0 : l.stackTraces = false := by
    unfold Launch.stackTraces
    rw [hflags]
    decide
  have F : x_F p s m #[Value.ref b] meth c cL_law 9 RL ret := ⟨hx, hb, hml, hown, fun w hw => hts w (x_Ul w hw), fun w hw => va_Nw.of (by
      have hn : x_isNest w = true := (List.mem_filter.mp hw).2
      cases w <;> first | rfl | (simp [x_isNest] at hn)) (hts w (List.mem_append_right _ (List.mem_filter.mp hw).1)), hr, hlocks⟩
  have hO : va_AO RX2 s := va_AO.of (hts (.arrayOver (.object RX2)) (List.mem_append_right _ (List.mem_of_getElem? (i := 206) (by decide +kernel))))
  obtain ⟨c0, i0, k0⟩ := u_known (C := RX0) (T := TX0) (N := 4) (n := 4) F.2.2.2.2.1 xin_0 (F.2.2.2.2.1 _ u_inst_X0)
  obtain ⟨c1, i1, k1⟩ := u_known (C := RX1) (T := TX1) (N := 7) (n := 7) F.2.2.2.2.1 xin_1 (F.2.2.2.2.1 _ u_inst_X1)
  obtain ⟨c2, i2, k2⟩ := u_known (C := RX2) (T := TX2) (N := 11) (n := 11) F.2.2.2.2.1 xin_2 (F.2.2.2.2.1 _ u_inst_X2)
  obtain ⟨c3, i3, k3⟩ := u_known (C := RX3) (T := TX3) (N := 11) (n := 11) F.2.2.2.2.1 xin_3 (F.2.2.2.2.1 _ u_inst_X3)
  obtain ⟨c4, i4, k4⟩ := u_known (C := RX4) (T := TX4) (N := 7) (n := 7) F.2.2.2.2.1 xin_4 (F.2.2.2.2.1 _ u_inst_X4)
  obtain ⟨c5, i5, k5⟩ := u_known (C := RX5) (T := TX5) (N := 2) (n := 2) F.2.2.2.2.1 xin_5 (F.2.2.2.2.1 _ u_inst_X5)
  obtain ⟨c6, i6, k6⟩ := u_known (C := RX6) (T := TX6) (N := 6) (n := 6) F.2.2.2.2.1 xin_6 (F.2.2.2.2.1 _ (x_ut 19 (by decide +kernel) rfl))
  obtain ⟨c7, i7, k7⟩ := u_known (C := RX7) (T := TX7) (N := 12) (n := 12) F.2.2.2.2.1 xin_7 (F.2.2.2.2.1 _ (x_ut 1065 (by decide +kernel) rfl))
  obtain ⟨D, hKc⟩ : ∃ D : va_G, ∀ (k : Nat) (q : vw_C), vwCl[k]? = some q → u_Kn s q.1 q.2.1 q.2.2 (D.1 k) (D.2 k) := by
    refine ⟨(fun k => [c0, c1, c2, c3, c4, c5, c6, c7].getD k c0, fun k => [i0, i1, i2, i3, i4, i5, i6, i7].getD k i0), ?_⟩
    intro k q hq
    match k, hq with
    | 0, hq => cases hq; exact k0
    | 1, hq => cases hq; exact k1
    | 2, hq => cases hq; exact k2
    | 3, hq => cases hq; exact k3
    | 4, hq => cases hq; exact k4
    | 5, hq => cases hq; exact k5
    | 6, hq => cases hq; exact k6
    | 7, hq => cases hq; exact k7
    | k + 8, hq => simp [vwCl] at hq
  obtain ⟨a0, g0, f0⟩ := xs_arr (F.2.2.2.2.1 _ u_arr_int)
  obtain ⟨a1, g1, f1⟩ := xs_arr (F.2.2.2.2.1 _ u_arr_char)
  obtain ⟨a2, g2, f2⟩ := xs_arr (F.2.2.2.2.1 _ u_arr_boolean)
  obtain ⟨a3, g3, f3⟩ := xs_arrq (va_AO.use (A := #[Value.ref b]) hO)
  have hlong : Cond.arrayClass (newarray.typeOf .long) ∈ x_U := x_ut 1543 (by decide +kernel) rfl
  obtain ⟨a4, g4, f4⟩ := xs_arr (F.2.2.2.2.1 _ hlong)
  obtain ⟨ac, hac⟩ : ∃ ac : Nat → ClassId, ∀ G : Nat → Nat → Nat, va_K D vwCl (x_tys (D, ac, G)) s := by
    refine ⟨fun k => [a0, a1, a2, a3, a4].getD k a0, fun G => ⟨hKc, ?_⟩⟩
    intro k q hq
    match k, hq with
    | 0, hq => cases hq; exact ⟨g0, f0⟩
    | 1, hq => cases hq; exact ⟨g1, f1⟩
    | 2, hq => cases hq; exact ⟨g2, f2⟩
    | 3, hq => cases hq; exact ⟨g3, f3⟩
    | 4, hq => cases hq; exact ⟨g4, f4⟩
    | k + 5, hq => simp [x_tys] at hq
  obtain ⟨Y, hY⟩ : ∃ Y : x_T, Y = (D, ac, fun _ _ => 0) := ⟨_, rfl⟩
  have hY1 : Y.1 = D := by rw [hY]
  have hY2 : Y.2.1 = ac := by rw [hY]
  have hKY : ∀ G : Nat → Nat → Nat, va_K Y.1 vwCl (x_tys (Y.1, Y.2.1, G)) s := fun G => by rw [hY1, hY2]; exact hac G
  have hI : xc_I Y (fun q => s.heap.size ≤ q) s s.heap [] [] := ⟨by have := hac (fun _ _ => 0); rw [hY]; exact this, fun k q h => by simp at h, ⟨fun i j p q h => by simp at h, fun k q h => by simp at h⟩, va_S.rf, fun q h => h⟩
  refine x_entry (vs := [.ref b]) (n := 9) (Nat.le_of_ble_eq_true rfl) (fun ls hl => ?_)
  replace hl : lv_has ls 9 [(0, .ref b)] := hl
  refine xc_new (ci := 6) (fs := [.null, .null, .null, .null, .null, .null]) F hI xin_6 tyX6 tyX6_ok (x_ut 18 (by decide +kernel) rfl) (x_ut 19 (by decide +kernel) rfl) (x_ut 1 (by decide +kernel) rfl) rfl (fun j hj => by rcases (show j = 0 ∨ j = 1 ∨ j = 2 ∨ j = 3 ∨ j = 4 ∨ j = 5 by omega) with rfl | rfl | rfl | rfl | rfl | rfl <;> rfl) (Nat.le_of_ble_eq_true rfl) (Nat.le_of_ble_eq_true rfl) dL_law_0 (fun q1 H hI => ?_)
  refine lv_dup hx hb dL_law_3 rfl ?_
  refine xc_made hI (xc_runI F hO hI (cX6 l Y q1 H.size) (x_ut 20 (by decide +kernel) rfl) (x_ut 22 (by decide +kernel) rfl) (x_ut 1 (by decide +kernel) rfl) (x_ut 21 (by decide +kernel) rfl) rfl (by decide +kernel) ⟨by decide, by decide⟩ ⟨rfl, rfl⟩ hl.1 (Nat.le_of_ble_eq_true rfl) dL_law_4 ⟨by decide, by decide⟩) (fun G1 H locs hG hJ => ?_)
  obtain rfl := hG
  have hI := hJ
  refine lv_astore_n (lv' := [(1, .ref (G1 10 32)), (0, .ref b)]) hx hb dL_law_7 rfl hl (by decide) rfl (fun ls hl => ?_)
  refine xc_new (ci := 7) (fs := [.int 0, .null, .null, .null, .int 0, .null, .null, .null, .int 0, .int 0, .int 0, .int 0]) F hI xin_7 tyX7 tyX7_ok (x_ut 1064 (by decide +kernel) rfl) (x_ut 1065 (by decide +kernel) rfl) (x_ut 8 (by decide +kernel) rfl) rfl (fun j hj => by rcases (show j = 0 ∨ j = 1 ∨ j = 2 ∨ j = 3 ∨ j = 4 ∨ j = 5 ∨ j = 6 ∨ j = 7 ∨ j = 8 ∨ j = 9 ∨ j = 10 ∨ j = 11 by omega) with rfl | rfl | rfl | rfl | rfl | rfl | rfl | rfl | rfl | rfl | rfl | rfl <;> rfl) (Nat.le_of_ble_eq_true rfl) (Nat.le_of_ble_eq_true rfl) dL_law_8 (fun q2 H hI => ?_)
  refine lv_dup hx hb dL_law_11 rfl ?_
  refine xc_made hI (xc_runI F hO hI (cX7 l Y q2 H.size) (x_ut 1066 (by decide +kernel) rfl) (x_ut 1068 (by decide +kernel) rfl) (x_ut 8 (by decide +kernel) rfl) (x_ut 1067 (by decide +kernel) rfl) rfl (by decide +kernel) ⟨by decide, by decide⟩ ⟨rfl, rfl⟩ hl.1 (Nat.le_of_ble_eq_true rfl) dL_law_12 ⟨by decide, by decide⟩) (fun G2 H locs hG hJ => ?_)
  obtain rfl := hG
  have hI := hJ
  refine lv_astore_n (lv' := [(2, .ref (G2 11 40)), (1, .ref (G1 10 32)), (0, .ref b)]) hx hb dL_law_15 rfl hl (by decide) rfl (fun ls hl => ?_)
  refine lv_iconst (v := 1) hx hb dL_law_16 (by decide) ?_
  refine xc_newl F hI hlong (Nat.le_of_ble_eq_true rfl) (Nat.le_of_ble_eq_true rfl) dL_law_17 (fun q3 H hI => ?_)
  refine lv_astore_n (lv' := [(3, .ref q3), (2, .ref (G2 11 40)), (1, .ref (G1 10 32)), (0, .ref b)]) hx hb dL_law_19 rfl hl (by decide) rfl (fun ls hl => ?_)
  refine lv_iconst (v := 0) hx hb dL_law_20 (by decide) ?_
  refine lv_istore (lv' := [(4, .int 0), (3, .ref q3), (2, .ref (G2 11 40)), (1, .ref (G1 10 32)), (0, .ref b)]) hx hb dL_law_21 hl (by decide) rfl (fun ls hl => ?_)
  obtain ⟨G, hG⟩ : ∃ G, G = xg_all q3 G2 G1 := ⟨_, rfl⟩
  have hI := xc_refs hI (1 + (7 + 56)) (a := G1 10 34) (n := 6) (cA := Y.2.1 3) (f := fun i => some (G1 (Int32.toNatClampNeg (x_s0 10 34 i)) 0)) rfl (g := fun i => some (G (Int32.toNatClampNeg (x_s0 10 34 i)) 0)) (fun i hi => by rw [hG]; rcases (show i = 0 ∨ i = 1 ∨ i = 2 ∨ i = 3 ∨ i = 4 ∨ i = 5 by omega) with rfl | rfl | rfl | rfl | rfl | rfl <;> rfl) rfl
  have hI := xc_refs hI (1 + (7 + 4)) (a := G1 10 35) (n := 2) (cA := Y.2.1 3) (f := fun i => some (G1 (Int32.toNatClampNeg (x_s0 10 35 i)) 0)) rfl (g := fun i => some (G (Int32.toNatClampNeg (x_s0 10 35 i)) 0)) (fun i hi => by rw [hG]; rcases (show i = 0 ∨ i = 1 by omega) with rfl | rfl <;> rfl) (ws' := xc_w Y G x_s0 xi_all) (by rw [hG]; rfl)
  obtain ⟨X, hXe⟩ : ∃ X : x_T, X = (Y.1, Y.2.1, G) := ⟨_, rfl⟩
  have hX0 : X.2.2 10 32 = G1 10 32 := by rw [hXe, hG]; rfl
  have hX1 : X.2.2 11 40 = G2 11 40 := by rw [hXe, hG]; rfl
  have hX2 : X.2.2 12 48 = q3 := by rw [hXe, hG]; rfl
  obtain ⟨hK9, hP9, hD9, hS9, -⟩ := hI
  have hw9 : xc_w Y G x_s0 xi_all = xi_all.map (fun q => (X.2.2 q.1 q.2, x_cell X q.1 q.2 (x_s0 q.1 q.2))) := by rw [hXe]; rfl
  rw [hw9] at hP9 hD9
  obtain ⟨n9, d9⟩ := xc_D_iff.mp hD9
  rw [List.map_map] at n9
  have hnew : ∀ q, x_A X s.heap.size q → s.heap.size ≤ q := by
    rintro q (⟨z, hz, rfl⟩ | h)
    · exact d9 _ (List.mem_map_of_mem (xi_sub z hz))
    · exact h
  have hXI : x_I X x_s0 s H locs := by
    refine ⟨fun a ha z hz he => xs_inj n9 (xi_sub a ha) (xi_sub z hz) he, by rw [hXe]; exact hKY G, ?_, hS9.1, fun q h1 h2 => hS9.2.1 q h1 (fun h => h2 (Or.inr h)), fun z hz => Or.inr (hS9.2.2 z hz)⟩
    have e1 : X.1 = Y.1 := by rw [hXe]
    rw [e1]
    refine xc_P_iff.mpr (fun z hz => ?_)
    obtain ⟨w, hw, rfl⟩ := List.mem_map.mp hz
    exact xc_P_iff.mp hP9 _ (List.mem_map_of_mem (f := fun q : Nat × Nat => (X.2.2 q.1 q.2, x_cell X q.1 q.2 (x_s0 q.1 q.2))) (xi_sub w hw))
  have hsub : ∀ a : Nat, a < s.heap.size → ¬ x_A X s.heap.size a := fun a h1 h2 => absurd (hnew a h2) (Nat.not_le.mpr h1)
  have hn := flat_of_before _ hgv
  have Z : xt_Zs X s.heap.size s s.heap := by
    refine ⟨vx_Zqof (hts (.laysStatic Bundle.tN "UNASSIGNED_STACK" Bundle.steD) (List.mem_append_right _ (List.mem_of_getElem? (i := 668) (by decide +kernel)))) (hts (.initialized Bundle.tN) (List.mem_append_right _ (List.mem_of_getElem? (i := 9) (by decide +kernel)))) (hn _ (by decide +kernel)) hsub, vx_Zqof (hts (.laysStatic Bundle.tN "SUPPRESSED_SENTINEL" Bundle.listD) (List.mem_append_right _ (List.mem_of_getElem? (i := 670) (by decide +kernel)))) (hts (.initialized Bundle.tN) (List.mem_append_right _ (List.mem_of_getElem? (i := 9) (by decide +kernel)))) (hn _ (by decide +kernel)) hsub, ?_, xt_Fs.of (fun w hw => hts w (List.mem_append_right _ (List.mem_filter.mp hw).1)), va_Nc.of (hn _ (by decide +kernel)), va_Nc.of (hn _ (by decide +kernel))⟩
    intro q hq
    simp only [xt_strs, List.mem_cons, List.not_mem_nil, or_false] at hq
    rcases hq with rfl | rfl | rfl | rfl | rfl | rfl
    · exact xs_str (hts _ (List.mem_append_right _ (List.mem_of_getElem? (i := 682) (by decide +kernel))))
    · exact xs_str (hts _ (List.mem_append_right _ (List.mem_of_getElem? (i := 770) (by decide +kernel))))
    · exact xs_str (hts _ (List.mem_append_right _ (List.mem_of_getElem? (i := 843) (by decide +kernel))))
    · exact xs_str (hts _ (List.mem_append_right _ (List.mem_of_getElem? (i := 810) (by decide +kernel))))
    · exact xs_str (hts _ (List.mem_append_right _ (List.mem_of_getElem? (i := 721) (by decide +kernel))))
    · exact xs_str (hts _ (List.mem_append_right _ (List.mem_of_getElem? (i := 900) (by decide +kernel))))
  have FF : xw_F p l s m meth c b L xs X := ⟨F, hl0, Z, hX, hbl, hsub b hbl⟩
  refine wL_loop FF hL hr hnew 513 0 x_s0 _ _ H locs ls T (by omega) (Nat.le_of_ble_eq_true rfl) (Nat.le_of_ble_eq_true rfl) hXI ?_
  show lv_has ls 9 [(0, .ref b), (1, .ref (X.2.2 10 32)), (2, .ref (X.2.2 11 40)), (3, .ref (X.2.2 12 48)), (4, .int 0)]
  rw [hX0, hX1, hX2]
  exact lv_sub hl [4, 3, 2, 1, 0] rfl
