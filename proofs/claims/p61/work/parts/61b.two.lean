/-! ===== two objects ===== -/
def x_Dis (X Y : x_T) : Prop := ∀ p ∈ x_ids, ∀ q ∈ x_ids, X.2.2 p.1 p.2 ≠ Y.2.2 q.1 q.2
theorem x_Dis.symm {X Y : x_T} (h : x_Dis X Y) : x_Dis Y X := fun p hp q hq e => h q hq p hp e.symm
/-- one object in a heap -/
def x_W1 (X : x_T) (σ : x_S) (s : State) (H : Heap) : Prop := x_Inj X ∧ va_K X.1 vwCl (x_tys X) s ∧ va_P X.1 vwCl (wd X σ) H
/-- two objects, apart; what may be written -/
def x_J (A : Nat → Prop) (X Y : x_T) (σ τ : x_S) (s : State) (H : Heap) (locs : List Loc) : Prop := x_W1 X σ s H ∧ x_W1 Y τ s H ∧ x_Dis X Y ∧ va_S A s.heap H locs
def x_AJ (A : Nat → Prop) (X Y : x_T) (s : State) : Prop := (∀ q, x_A X s.heap.size q → A q) ∧ (∀ q, x_A Y s.heap.size q → A q)
theorem x_J.symm {A : Nat → Prop} {X Y : x_T} {σ τ : x_S} {s : State} {H : Heap} {locs : List Loc} (h : x_J A X Y σ τ s H locs) : x_J A Y X τ σ s H locs := ⟨h.2.1, h.1, h.2.2.1.symm, h.2.2.2⟩
theorem x_AJ.symm {A : Nat → Prop} {X Y : x_T} {s : State} (h : x_AJ A X Y s) : x_AJ A Y X s := ⟨h.2, h.1⟩
theorem x_W1.lt {X : x_T} {σ : x_S} {s : State} {H : Heap} (h : x_W1 X σ s H) {q : Nat × Nat} (hq : q ∈ x_ids) : X.2.2 q.1 q.2 < H.size :=
  (xc_P_iff.mp h.2.2 _ (List.mem_map_of_mem (f := fun q : Nat × Nat => (X.2.2 q.1 q.2, x_cell X q.1 q.2 (σ q.1 q.2))) hq)).lt
theorem x_W1.kept {X : x_T} {σ : x_S} {s : State} {H H1 : Heap} {A1 : Nat → Prop} (h : x_W1 X σ s H) (hk : ∀ q : Nat, q < H.size → ¬ A1 q → H1[q]? = H[q]?) (hd : ∀ q ∈ x_ids, ¬ A1 (X.2.2 q.1 q.2)) : x_W1 X σ s H1 := by
  refine ⟨h.1, h.2.1, xc_P_iff.mpr (fun z hz => ?_)⟩
  have h1 := xc_P_iff.mp h.2.2 z hz
  obtain ⟨w, hw, rfl⟩ := List.mem_map.mp hz
  exact h1.kept (hk _ h1.lt (hd w hw))
theorem x_Dis.notA {X Y : x_T} {τ : x_S} {s : State} {H : Heap} (h : x_Dis X Y) (hW : x_W1 Y τ s H) : ∀ q ∈ x_ids, ¬ x_A X H.size (Y.2.2 q.1 q.2) := by
  rintro q hq (⟨z, hz, e⟩ | h9)
  · exact h z hz q hq e
  · exact absurd (hW.lt hq) (Nat.not_lt.mpr h9)
/-- what the exceptions need -/
def x_ZJ (A : Nat → Prop) (s : State) : Prop := vx_Zq Bundle.tN "UNASSIGNED_STACK" Bundle.steD A s s.heap ∧ vx_Zq Bundle.tN "SUPPRESSED_SENTINEL" Bundle.listD A s s.heap ∧ (∀ q ∈ xt_strs, ∃ sa, vk_R RX6 q.1 q.2 sa s) ∧ xt_Fs s ∧ va_Nc (xt_en 2) (xt_en 0) s ∧ va_Nc (xt_en 2) (xt_en 1) s
section XZ
variable {p : Program} {l : Launch} {e : Env} {R : Room} {s : State} {m : MethodId} {args : Array Value} {below : List Frame} {meth : Method} {c : Code} {H : Heap} {locs : List Loc} {cells slots : Nat} {Q : State → Prop}
variable {cc : ByteArray} {nL : Nat} {own : String} {ret' : Option FieldType} {pc : Nat} {ls : Array Slot} {rest : List Value} {X Y : x_T} {σ σ' τ τ' : x_S} {A : Nat → Prop}
variable {y : MethodName} {bytes : ByteArray} {maxL n index mc ms : Nat} {rt : Option FieldType} {rm : Room} {As : List Value} {hh : List (Nat × Nat × Nat × Nat)} {st0 : List Value} {a : Array Value}
theorem xz_preS (F : x_F p s m args meth c cc nL own ret') (Z : x_ZJ A s) (hA : x_AJ A X Y s) (hJ : x_J A X Y σ τ s H locs) : PreS s H (x_PcT X σ H.size As) As := by
  obtain ⟨h1, -, -, hS⟩ := hJ
  have Z1 : xt_Zs X H.size s H := ⟨(Z.1.kept hS.2.1).narrow (fun q h => hA.1 q (x_A_mono hS.1 q h)), (Z.2.1.kept hS.2.1).narrow (fun q h => hA.1 q (x_A_mono hS.1 q h)), Z.2.2⟩
  exact ⟨x_PcT_blind, fun U hU hW => ⟨rfl, h1.1, by rw [hU], ⟨by rw [hU]; exact h1.2.2, va_K.moved hW.alike h1.2.1⟩, F.2.2.2.2.2.1.warm hW, by rw [hU]; exact xt_Zs.warm hW Z1⟩⟩
theorem xz_preV (F : x_F p s m args meth c cc nL own ret') (hJ : x_J A X Y σ τ s H locs) {j k : Nat} (hm : (j, k) ∈ x_ids) {ci : Nat} {q : vw_C} {fs : List Value} (hcell : x_cell X j k (σ j k) = .inr (ci, fs)) (hc : vwCl[ci]? = some q) {As : List Value} : PreV s H q.1 (X.2.2 j k) (x_Pc X σ H.size (.ref (X.2.2 j k) :: As)) As := by
  obtain ⟨h1, -, -, -⟩ := hJ
  obtain ⟨q0, hq, -⟩ := wd_at (X := X) σ hm
  exact ⟨x_Pc_blind, va_recv h1.2.1 h1.2.2 hc (by rw [hq, hcell]), fun U hU hW => ⟨rfl, h1.1, by rw [hU], ⟨by rw [hU]; exact h1.2.2, va_K.moved hW.alike h1.2.1⟩, F.2.2.2.2.2.1.warm hW⟩⟩
theorem xz_runW (F : x_F p s m args meth c cc nL own ret') (Z : x_ZJ A s) (hA : x_AJ A X Y s) (hJ : x_J A X Y σ τ s H locs) {Qc : Array Value → State → Outcome → State → Prop} (hM : Met l y (xl_ws y bytes maxL rt hh) rm (x_PcT X σ H.size As) Qc 1 6 (x_A X H.size)) (hg : GoodIn x_U (va_wsS own index y (xl_ws y bytes maxL rt hh))) (hd : y.cls ≠ "java/lang/invoke/MethodHandle" ∧ y.cls ≠ "java/lang/invoke/VarHandle" ∧ (parseMethodDescriptor y.desc).map (fun d => d.parameters.length) = some n) (hR : rm.frames + 1 ≤ R.frames ∧ 8 + (maxL + 11) + rm.locals ≤ R.locals) (hz : rm.cells = 1 ∧ rm.slots = 6) (hn : As.length = n) (hsize : ls.size = nL) (hst : st0 = As.reverse ++ rest) (hW : (rest.map fun v => v.category).sum ≤ 8) (hdg : decode cc pc = .ok (.invokestatic index, 3)) (hf : cells + 1 ≤ R.cells ∧ slots + 6 ≤ R.slots) :
    va_Run p l e R s m args below meth c H locs cells slots 1 6 (F0 m pc ls st0) rest (Qc As.toArray) (x_A X H.size) :=
  vx_runSW (x_fix F) hM (vx_cwSW n F.2.2.2.2.1 hg rfl hz.1 hz.2 hd hR) (xz_preS F Z hA hJ) rfl hn hsize hst (lv_room hW) hdg hf
theorem xz_runM (F : x_F p s m args meth c cc nL own ret') (Z : x_ZJ A s) (hA : x_AJ A X Y s) (hJ : x_J A X Y σ τ s H locs) {Qc : Array Value → State → Outcome → State → Prop} (hM : Met l y (x_ws y bytes maxL rt) rm (x_PcT X σ H.size As) Qc mc ms (x_A X H.size)) (hg : GoodIn x_U (va_wsS own index y (x_ws y bytes maxL rt))) (hd : y.cls ≠ "java/lang/invoke/MethodHandle" ∧ y.cls ≠ "java/lang/invoke/VarHandle" ∧ (parseMethodDescriptor y.desc).map (fun d => d.parameters.length) = some n) (hR : rm.frames + 1 ≤ R.frames ∧ 8 + (maxL + 11) + rm.locals ≤ R.locals) (hz : rm.cells = mc ∧ rm.slots = ms) (hn : As.length = n) (hsize : ls.size = nL) (hst : st0 = As.reverse ++ rest) (hW : (rest.map fun v => v.category).sum ≤ 8) (hdg : decode cc pc = .ok (.invokestatic index, 3)) (hf : cells + mc ≤ R.cells ∧ slots + ms ≤ R.slots) :
    va_Run p l e R s m args below meth c H locs cells slots mc ms (F0 m pc ls st0) rest (Qc As.toArray) (x_A X H.size) :=
  va_runS (x_fix F) hM (va_cwS n F.2.2.2.2.1 hg rfl hz.1 hz.2 hd hR) (xz_preS F Z hA hJ) rfl hn hsize hst (lv_room hW) hdg hf
theorem xz_runV (F : x_F p s m args meth c cc nL own ret') (hJ : x_J A X Y σ τ s H locs) {Qc : Array Value → State → Outcome → State → Prop} {j k : Nat} (hM : Met l y (x_ws y bytes maxL rt) rm (x_Pc X σ H.size (.ref (X.2.2 j k) :: As)) Qc 0 0 (x_A X H.size)) {C : String} (hg : GoodIn x_U (wsV own index C y (x_ws y bytes maxL rt))) (hd : y.cls = C ∧ y.cls ≠ "java/lang/invoke/MethodHandle" ∧ y.cls ≠ "java/lang/invoke/VarHandle" ∧ (parseMethodDescriptor y.desc).map (fun d => d.parameters.length) = some n) (hR : rm.frames + 1 ≤ R.frames ∧ 8 + (maxL + 11) + rm.locals ≤ R.locals) (hz : rm.cells = 0 ∧ rm.slots = 0) (hm : (j, k) ∈ x_ids) {ci : Nat} {q : vw_C} {fs : List Value} (hcell : x_cell X j k (σ j k) = .inr (ci, fs)) (hc : vwCl[ci]? = some q) (hC : q.1 = C) (hn : As.length = n) (hsize : ls.size = nL) {st0 : List Value} (hst : st0 = As.reverse ++ .ref (X.2.2 j k) :: rest) (hW : (rest.map fun v => v.category).sum ≤ 8) (hdg : decode cc pc = .ok (.invokevirtual index, 3)) (hf : cells ≤ R.cells ∧ slots ≤ R.slots) :
    va_Run p l e R s m args below meth c H locs cells slots 0 0 (F0 m pc ls st0) rest (Qc (Value.ref (X.2.2 j k) :: As).toArray) (x_A X H.size) := by
  subst hC
  exact va_runV (x_fix F) hM (cwV n F.2.2.2.2.1 hg rfl hz.1 hz.2 hd hR) (xz_preV F hJ hm hcell hc) rfl hn hsize hst (lv_room hW) hdg hf
theorem xz_aci {r0 : Int32} (hA : x_AJ A X Y s) (hJ : x_J A X Y σ τ s H locs) (hr : va_Run p l e R s m args below meth c H locs cells slots mc ms (F0 m pc ls st0) rest (x_Qi X r0 σ' H.size a) (x_A X H.size))
    (kk : ∀ (H1 : Heap) (locs1 : List Loc), x_J A X Y σ' τ s H1 locs1 → W p l e R s m args below meth c H1 locs1 (cells + mc) (slots + ms) Q (F0 m (pc + 3) ls (.int r0 :: rest))) : W p l e R s m args below meth c H locs cells slots Q (F0 m pc ls st0) := by
  obtain ⟨h1, h2, h3, hS⟩ := hJ
  refine va_calli (A0 := A) (A1 := x_A X H.size) (free := x_A X H.size) hr hS (fun q _ h => hA.1 q (x_A_mono hS.1 q h)) (fun q h => hA.1 q (x_A_mono hS.1 q h)) (fun r u t H1 locs1 ht hvm hw hB hz1 hk1 hS1 => ?_)
  subst hw
  exact kk H1 locs1 ⟨⟨h1.1, h1.2.1, by rw [← ht]; exact hB.1⟩, h2.kept hk1 (h3.notA h2), h3, hS1⟩
theorem xz_acl {r0 : Int64} (hA : x_AJ A X Y s) (hJ : x_J A X Y σ τ s H locs) (hr : va_Run p l e R s m args below meth c H locs cells slots mc ms (F0 m pc ls st0) rest (x_Ql X r0 σ' H.size a) (x_A X H.size))
    (kk : ∀ (H1 : Heap) (locs1 : List Loc), x_J A X Y σ' τ s H1 locs1 → W p l e R s m args below meth c H1 locs1 (cells + mc) (slots + ms) Q (F0 m (pc + 3) ls (.long r0 :: rest))) : W p l e R s m args below meth c H locs cells slots Q (F0 m pc ls st0) := by
  obtain ⟨h1, h2, h3, hS⟩ := hJ
  refine va_calll (A0 := A) (A1 := x_A X H.size) (free := x_A X H.size) hr hS (fun q _ h => hA.1 q (x_A_mono hS.1 q h)) (fun q h => hA.1 q (x_A_mono hS.1 q h)) (fun r u t H1 locs1 ht hvm hw hB hz1 hk1 hS1 => ?_)
  subst hw
  exact kk H1 locs1 ⟨⟨h1.1, h1.2.1, by rw [← ht]; exact hB.1⟩, h2.kept hk1 (h3.notA h2), h3, hS1⟩
theorem xz_aciY {r0 : Int32} (hA : x_AJ A X Y s) (hJ : x_J A X Y σ τ s H locs) (hr : va_Run p l e R s m args below meth c H locs cells slots mc ms (F0 m pc ls st0) rest (x_Qi Y r0 τ' H.size a) (x_A Y H.size))
    (kk : ∀ (H1 : Heap) (locs1 : List Loc), x_J A X Y σ τ' s H1 locs1 → W p l e R s m args below meth c H1 locs1 (cells + mc) (slots + ms) Q (F0 m (pc + 3) ls (.int r0 :: rest))) : W p l e R s m args below meth c H locs cells slots Q (F0 m pc ls st0) :=
  xz_aci hA.symm hJ.symm hr (fun H1 locs1 h => kk H1 locs1 h.symm)
theorem xz_aclY {r0 : Int64} (hA : x_AJ A X Y s) (hJ : x_J A X Y σ τ s H locs) (hr : va_Run p l e R s m args below meth c H locs cells slots mc ms (F0 m pc ls st0) rest (x_Ql Y r0 τ' H.size a) (x_A Y H.size))
    (kk : ∀ (H1 : Heap) (locs1 : List Loc), x_J A X Y σ τ' s H1 locs1 → W p l e R s m args below meth c H1 locs1 (cells + mc) (slots + ms) Q (F0 m (pc + 3) ls (.long r0 :: rest))) : W p l e R s m args below meth c H locs cells slots Q (F0 m pc ls st0) :=
  xz_acl hA.symm hJ.symm hr (fun H1 locs1 h => kk H1 locs1 h.symm)
end XZ
/-! ===== draw() ===== -/
def xd_Pc (b L : Nat) (xs : Nat → Int32) (sz : Nat) (av : List Value) : Array Value → State → Prop := va_Pc av (fun U => U.heap.size = sz ∧ b < sz ∧ va_X b L xs U U.heap)
theorem xd_Pc_blind {b L : Nat} {xs : Nat → Int32} {sz : Nat} {av : List Value} : FrameBlind (xd_Pc b L xs sz av) := fun a U g mk q => ⟨q.1, q.2.1, q.2.2.1, va_X.moved (u := U) (U := U.calling g mk a) (Vm.Alike.refl U.vm) q.2.2.2⟩
def xd_Q (r : Int32) (sz : Nat) : Array Value → State → Outcome → State → Prop := va_Qi (fun (r' : Int32) (_ : Unit) => r' = r) (fun _ _ => True) (fun q => sz ≤ q)
abbrev rm_L_draw : Room := { frames := 0, cells := 0, slots := 0, locals := 0 }
def fL_draw (xs : Nat → Int32) (L : Nat) (k : Int32) : Option Int32 := if Int32.ofNat L ≤ k then some (((15595201 : Int32) * k + (11243 : Int32)) &&& (2147483647 : Int32)) else (if x_in k L then some (xs k.toNatClampNeg &&& (2147483647 : Int32)) else none)
set_option maxHeartbeats 4000000 in
set_option maxRecDepth 100000 in
theorem mL_draw (l : Launch) (b L : Nat) (xs : Nat → Int32) (sz : Nat) (k : Int32) (r : Int32) (h : fL_draw xs L k = some r) : Met l yL_draw (x_ws yL_draw cL_draw 2 (some .int)) rm_L_draw (xd_Pc b L xs sz [.ref b, .int k]) (xd_Q r sz) 0 0 (fun q => sz ≤ q) := by
  refine Met.ofW (cc := cL_draw) (maxL := 2) (ret := (some .int)) (by decide) rfl ?_
  intro p e s m args below meth c s₁ B hml hv
  obtain ⟨h1, h2, h3, h4⟩ := hv
  subst h2
  subst h1
  have hx := B.exec
  have hb := B.bytes
  have hown : s.vm.findClass RL = some m.cls := findClass_of_methodNamed B.named
  have hts0 := atoms_spec (ws := x_ws yL_draw cL_draw 2 (some .int)) B.pre
  have hts : ∀ w ∈ x_U, w.before _ s = true := fun w hw => hts0 w (List.mem_cons_of_mem _ hw)
  have hbA : ¬ s.heap.size ≤ b := Nat.not_le.mpr h3
  have hS : va_S (fun q => s.heap.size ≤ q) s.heap s.heap [] := va_S.rf
  refine x_entry (vs := [.ref b, .int k]) (n := 2) (Nat.le_of_ble_eq_true rfl) (fun ls hl => ?_)
  replace hl : lv_has ls 2 [(0, .ref b), (1, .int k)] := hl
  unfold fL_draw at h
  refine lv_iload_n hx hb dL_draw_0 rfl (lv_at hl 1 rfl) ?_
  refine lv_aload_n hx hb dL_draw_1 rfl (lv_at hl 0 rfl) ?_
  refine va_slen hx hb h4 h3 hbA hS dL_draw_2 ?_
  refine lv_icmp_ge (tgt := 12) hx hb dL_draw_3 (by decide) (fun c1 => ?_) (fun c1 => ?_)
  · have h := x_ift h c1
    refine lv_ldc hx hb hown (hts _ u_ci_L_7) dL_draw_12 ?_
    refine lv_iload_n hx hb dL_draw_14 rfl (lv_at hl 1 rfl) ?_
    refine lv_imul hx hb dL_draw_15 ?_
    refine lv_sipush (v := 11243) hx hb dL_draw_16 (by decide) ?_
    refine lv_iadd hx hb dL_draw_19 ?_
    refine lv_ldc hx hb hown (hts _ u_ci_L_8) dL_draw_20 ?_
    refine lv_iand hx hb dL_draw_22 ?_
    rw [x_some h]
    exact W.iret hx hb B.returns (fun t ht hW => ⟨⟨_, (), rfl, rfl, trivial⟩, hS.F ht⟩) hS.2.2 dL_draw_23 B.notSynchronized
  · have h := x_iff h c1
    obtain ⟨g1, h⟩ := x_chk h
    refine lv_aload_n hx hb dL_draw_6 rfl (lv_at hl 0 rfl) ?_
    refine lv_iload_n hx hb dL_draw_7 rfl (lv_at hl 1 rfl) ?_
    refine va_sld hx hb h4 h3 hbA hS g1 dL_draw_8 ?_
    refine lv_goto (tgt := 20) hx hb dL_draw_9 (by decide) ?_
    refine lv_ldc hx hb hown (hts _ u_ci_L_8) dL_draw_20 ?_
    refine lv_iand hx hb dL_draw_22 ?_
    rw [x_some h]
    exact W.iret hx hb B.returns (fun t ht hW => ⟨⟨_, (), rfl, rfl, trivial⟩, hS.F ht⟩) hS.2.2 dL_draw_23 B.notSynchronized
/-! ===== alike() ===== -/
def xa_A (X Y : x_T) (sz : Nat) : Nat → Prop := fun q => x_A X sz q ∨ x_A Y sz q
def xa_Pc (X Y : x_T) (σ τ : x_S) (sz : Nat) (av : List Value) : Array Value → State → Prop := va_Pc av (fun U => x_Inj X ∧ x_Inj Y ∧ x_Dis X Y ∧ U.heap.size = sz ∧ x_W X σ U ∧ x_W Y τ U ∧ x_Ns U)
theorem xa_Pc_blind {X Y : x_T} {σ τ : x_S} {sz : Nat} {av : List Value} : FrameBlind (xa_Pc X Y σ τ sz av) := fun a U g mk q => ⟨q.1, q.2.1, q.2.2.1, q.2.2.2.1, q.2.2.2.2.1, ⟨q.2.2.2.2.2.1.1, va_K.moved (u := U) (U := U.calling g mk a) (Vm.Alike.refl U.vm) q.2.2.2.2.2.1.2⟩, ⟨q.2.2.2.2.2.2.1.1, va_K.moved (u := U) (U := U.calling g mk a) (Vm.Alike.refl U.vm) q.2.2.2.2.2.2.1.2⟩, x_Ns.same (u := U) (U := U.calling g mk a) rfl q.2.2.2.2.2.2.2⟩
def xa_Q (X Y : x_T) (r : Int32) (σ τ : x_S) (sz : Nat) : Array Value → State → Outcome → State → Prop := va_Qi (fun (r' : Int32) (_ : Unit) => r' = r) (fun _ t => x_W X σ t ∧ x_W Y τ t) (xa_A X Y sz)
abbrev rm_L_alike : Room := { frames := 7, cells := 0, slots := 0, locals := 161 }
def fL_alike (σ τ : x_S) : Option (Int32 × x_S × x_S) := Option.bind (fX6_digest σ) fun r1 => Option.bind (fX6_digest τ) fun r2 => (if lg_cmp r1.1 r2.1 = 0 then Option.bind (fX6_firstError r1.2) fun r3 => Option.bind (fX6_firstError r2.2) fun r4 => (if r3.1 = r4.1 then some ((1 : Int32), r3.2, r4.2) else some ((0 : Int32), r3.2, r4.2)) else some ((0 : Int32), r1.2, r2.2))
theorem xa_zret {p : Program} {l : Launch} {e : Env} {R : Room} {s : State} {m : MethodId} {args : Array Value} {below : List Frame} {meth : Method} {c : Code} {H : Heap} {locs : List Loc} {cells slots : Nat} {cc : ByteArray} {nL : Nat} {own : String} {pc : Nat} {ls : Array Slot} {X Y : x_T} {σ τ : x_S} (F : x_F p s m args meth c cc nL own (some .boolean)) (hJ : x_J (xa_A X Y s.heap.size) X Y σ τ s H locs) {v : Int32} (hn : vp_nar .boolean v = v) (hdg : decode cc pc = .ok (.ireturn, 1)) : W p l e R s m args below meth c H locs cells slots (MQ below (xa_Q X Y v σ τ s.heap.size) args s cells slots (xa_A X Y s.heap.size)) (F0 m pc ls [.int v]) :=
  W.zret F.1 F.2.1 F.2.2.2.2.2.2.1 (show narrow .boolean (.int v) = .int v from congrArg Value.int hn) (fun t ht hW => ⟨⟨v, (), rfl, rfl, ⟨by rw [ht]; exact hJ.1.2.2, va_K.moved hW.alike hJ.1.2.1⟩, by rw [ht]; exact hJ.2.1.2.2, va_K.moved hW.alike hJ.2.1.2.1⟩, hJ.2.2.2.F ht⟩) hJ.2.2.2.2.2 hdg F.2.2.2.2.2.2.2
set_option maxHeartbeats 4000000 in
set_option maxRecDepth 100000 in
theorem mL_alike (l : Launch) (X Y : x_T) (sz : Nat) (σ τ : x_S) (r : Int32 × x_S × x_S) (h : fL_alike σ τ = some r) : Met l yL_alike (x_ws yL_alike cL_alike 2 (some .boolean)) rm_L_alike (xa_Pc X Y σ τ sz [.ref (X.2.2 10 32), .ref (Y.2.2 10 32)]) (xa_Q X Y r.1 r.2.1 r.2.2 sz) 0 0 (xa_A X Y sz) := by
  refine Met.ofW (cc := cL_alike) (maxL := 2) (ret := (some .boolean)) (by decide) rfl ?_
  intro p e s m args below meth c s₁ B hml hv
  obtain ⟨h1, i1, i2, i3, i4, i5, i6, i7⟩ := hv
  subst i4
  subst h1
  have hts := atoms_spec (ws := x_ws yL_alike cL_alike 2 (some .boolean)) B.pre
  have F : x_F p s m _ meth c cL_alike 2 RL (some .boolean) := ⟨B.exec, B.bytes, hml, findClass_of_methodNamed B.named, fun w hw => hts w (List.mem_cons_of_mem _ hw), i7, B.returns, B.notSynchronized⟩
  have hx := F.1
  have hb := F.2.1
  have hA : x_AJ (xa_A X Y s.heap.size) X Y s := ⟨fun q h => Or.inl h, fun q h => Or.inr h⟩
  have hJ : x_J (xa_A X Y s.heap.size) X Y σ τ s s.heap [] := ⟨⟨i1, i5.2, i5.1⟩, ⟨i2, i6.2, i6.1⟩, i3, va_S.rf⟩
  refine x_entry (vs := [.ref (X.2.2 10 32), .ref (Y.2.2 10 32)]) (n := 2) (Nat.le_of_ble_eq_true rfl) (fun ls hl => ?_)
  replace hl : lv_has ls 2 [(0, .ref (X.2.2 10 32)), (1, .ref (Y.2.2 10 32))] := hl
  unfold fL_alike at h
  refine lv_aload_n hx hb dL_alike_0 rfl (lv_at hl 0 rfl) ?_
  obtain ⟨r1, h1, h⟩ := x_bnd h
  refine xz_acl hA hJ (xz_runV (rest := []) F hJ (mX6_digest l X _ σ r1 h1) g_L_136 ⟨rfl, hd_X6_digest⟩ ⟨by decide, by decide⟩ ⟨rfl, rfl⟩ (x_inO (by decide)) rfl rfl rfl rfl hl.1 rfl (Nat.le_of_ble_eq_true rfl) dL_alike_1 ⟨Nat.zero_le _, Nat.zero_le _⟩) (fun H locs hJ => ?_)
  refine lv_aload_n hx hb dL_alike_4 rfl (lv_at hl 1 rfl) ?_
  obtain ⟨r2, h2, h⟩ := x_bnd h
  refine xz_aclY hA hJ (xz_runV (rest := [.long r1.1]) F hJ.symm (mX6_digest l Y _ τ r2 h2) g_L_136 ⟨rfl, hd_X6_digest⟩ ⟨by decide, by decide⟩ ⟨rfl, rfl⟩ (x_inO (by decide)) rfl rfl rfl rfl hl.1 rfl (Nat.le_of_ble_eq_true rfl) dL_alike_5 ⟨Nat.zero_le _, Nat.zero_le _⟩) (fun H locs hJ => ?_)
  refine W.lcmp hx hb dL_alike_8 ?_
  refine lv_if_ne (tgt := 27) hx hb dL_alike_9 (by decide) (fun c1 => ?_) (fun c1 => ?_)
  · have h := x_iff h c1
    refine lv_iconst (v := 0) hx hb dL_alike_27 (by decide) ?_
    rw [x_some h]
    exact xa_zret (v := 0) F hJ (by decide) dL_alike_28
  · have h := x_ift h c1
    refine lv_aload_n hx hb dL_alike_12 rfl (lv_at hl 0 rfl) ?_
    obtain ⟨r3, h3, h⟩ := x_bnd h
    refine xz_aci hA hJ (xz_runV (rest := []) F hJ (mX6_firstError l X _ r1.2 r3 h3) g_L_280 ⟨rfl, hd_X6_firstError⟩ ⟨by decide, by decide⟩ ⟨rfl, rfl⟩ (x_inO (by decide)) rfl rfl rfl rfl hl.1 rfl (Nat.le_of_ble_eq_true rfl) dL_alike_13 ⟨Nat.zero_le _, Nat.zero_le _⟩) (fun H locs hJ => ?_)
    refine lv_aload_n hx hb dL_alike_16 rfl (lv_at hl 1 rfl) ?_
    obtain ⟨r4, h4, h⟩ := x_bnd h
    refine xz_aciY hA hJ (xz_runV (rest := [.int r3.1]) F hJ.symm (mX6_firstError l Y _ r2.2 r4 h4) g_L_280 ⟨rfl, hd_X6_firstError⟩ ⟨by decide, by decide⟩ ⟨rfl, rfl⟩ (x_inO (by decide)) rfl rfl rfl rfl hl.1 rfl (Nat.le_of_ble_eq_true rfl) dL_alike_17 ⟨Nat.zero_le _, Nat.zero_le _⟩) (fun H locs hJ => ?_)
    refine lv_icmp_ne (tgt := 27) hx hb dL_alike_20 (by decide) (fun c2 => ?_) (fun c2 => ?_)
    · have h := x_iff h c2
      refine lv_iconst (v := 0) hx hb dL_alike_27 (by decide) ?_
      rw [x_some h]
      exact xa_zret (v := 0) F hJ (by decide) dL_alike_28
    · have h := x_ift h c2
      refine lv_iconst (v := 1) hx hb dL_alike_23 (by decide) ?_
      refine lv_goto (tgt := 28) hx hb dL_alike_24 (by decide) ?_
      rw [x_some h]
      exact xa_zret (v := 1) F hJ (by decide) dL_alike_28
