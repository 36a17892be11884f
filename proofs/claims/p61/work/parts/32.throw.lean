/-! ===== what a throw needs: words of the tables, strings, two static fields ===== -/
def xt_n : List String := ["java/lang/RuntimeException", "java/lang/Exception"]
/-- the class of the exception of this number -/
def xt_en (e : Nat) : String := if e = 0 then "java/lang/IndexOutOfBoundsException" else if e = 1 then "java/lang/IllegalArgumentException" else "java/lang/IllegalStateException"
def xt_face : List Cond := tables_1.filter Cond.faceAtom
def xt_Fs (U : State) : Prop := ∀ w ∈ xt_face, w.before #[] U = true
theorem xt_face_ot {w : Cond} (h : w.faceAtom = true) (h2 : w ∈ tables_1) : w.onTables = true ∨ ∃ a b c d, w = .interfaceMethod a b c d := by
  cases w <;> first | exact Or.inl rfl | exact Or.inr ⟨_, _, _, _, rfl⟩ | (simp [Cond.faceAtom] at h)
theorem xt_face_on {w : Cond} (h : w ∈ xt_face) : w.faceAtom = true ∧ w.onTables = true := by
  obtain ⟨h1, h2⟩ := List.mem_filter.mp h
  refine ⟨h2, ?_⟩
  cases w <;> first | rfl | (simp [Cond.faceAtom] at h2)
theorem xt_Fs.of {args : Array Value} {s : State} (h : ∀ w ∈ xt_face, w.before args s = true) : xt_Fs s := by
  intro w hw
  have h1 := h w hw
  have h2 := Cond.onTables_vm (A := args) (A' := #[]) (U := s) (U' := s) s.vm w (xt_face_on hw).2
  exact h2.symm.trans h1
theorem xt_Fs.warm {s U : State} (hW : s.WarmedH U.vm) (h : xt_Fs s) : xt_Fs U := by
  intro w hw
  have h1 := Cond.faceAtom_setVm hW.alike w (xt_face_on hw).1 (h w hw)
  have h2 := Cond.onTables_vm (A := #[]) (A' := #[]) (U := s) (U' := U) U.vm w (xt_face_on hw).2
  exact h2.symm.trans h1
theorem xt_Fs.at {args : Array Value} {s : State} (h : xt_Fs s) {w : Cond} (hw : w ∈ xt_face) : w.before args s = true := by
  have h2 := Cond.onTables_vm (A := #[]) (A' := args) (U := s) (U' := s) s.vm w (xt_face_on hw).2
  exact h2.symm.trans (h w hw)
theorem xt_ft {w : Cond} (i : Nat) (h : tables_1[i]? = some w) (hg : w.faceAtom = true) : w ∈ xt_face := List.mem_filter.mpr ⟨List.mem_of_getElem? h, hg⟩
def xt_strs : List (Nat × String) := [(279, "there is no such guest"), (285, "there is no such room"), (290, "there is no such message"), (292, "a number is out of range"), (296, "this cannot be done now"), (159, "the buffer does not tell a course")]
def xt_Zs (X : x_T) (sz : Nat) (U : State) (H : Heap) : Prop := vx_Zq Bundle.tN "UNASSIGNED_STACK" Bundle.steD (x_A X sz) U H ∧ vx_Zq Bundle.tN "SUPPRESSED_SENTINEL" Bundle.listD (x_A X sz) U H ∧ (∀ q ∈ xt_strs, ∃ sa, vk_R RX6 q.1 q.2 sa U) ∧ xt_Fs U ∧ va_Nc (xt_en 2) (xt_en 0) U ∧ va_Nc (xt_en 2) (xt_en 1) U
theorem xt_Zs.warm {X : x_T} {sz : Nat} {s U : State} {H : Heap} (hW : s.WarmedH U.vm) (h : xt_Zs X sz s H) : xt_Zs X sz U H :=
  ⟨h.1.moved hW.alike, h.2.1.moved hW.alike, fun q hq => (h.2.2.1 q hq).imp (fun _ k => vk_R.warm hW k), h.2.2.2.1.warm hW, h.2.2.2.2.1.moved hW.alike, h.2.2.2.2.2.moved hW.alike⟩
/-- later, in the same method: for a callee -/
theorem xt_Zs.kept {X : x_T} {H0 : Heap} {s : State} {H : Heap} {locs : List Loc} (hS : va_S (x_A X H0.size) H0 H locs) (h : xt_Zs X H0.size s H0) : xt_Zs X H.size s H :=
  ⟨(h.1.kept hS.2.1).narrow (x_A_mono hS.1), (h.2.1.kept hS.2.1).narrow (x_A_mono hS.1), h.2.2⟩
def x_PcT (X : x_T) (σ : x_S) (sz : Nat) (av : List Value) : Array Value → State → Prop := va_Pc av (fun U => x_Inj X ∧ U.heap.size = sz ∧ x_W X σ U ∧ x_Ns U ∧ xt_Zs X sz U U.heap)
theorem x_PcT_blind {X : x_T} {σ : x_S} {sz : Nat} {av : List Value} : FrameBlind (x_PcT X σ sz av) := fun a U g mk q => ⟨q.1, q.2.1, q.2.2.1, ⟨q.2.2.2.1.1, va_K.moved (u := U) (U := U.calling g mk a) (Vm.Alike.refl U.vm) q.2.2.2.1.2⟩, x_Ns.same (u := U) (U := U.calling g mk a) rfl q.2.2.2.2.1, xt_Zs.warm (s := U) (U := U.calling g mk a) (State.WarmedH.refl U) q.2.2.2.2.2⟩
def xt_C (X : x_T) (e : Nat) (σ : x_S) (sz : Nat) : String → State → State → Prop := vx_X (fun _ : Unit => True) (fun E _ t => E = xt_en e ∧ x_W X σ t) (x_A X sz)
def xt_Qi (X : x_T) (sz : Nat) : Array Value → State → Outcome → State → Prop := va_Qi (fun (_ : Int32) (_ : Unit) => False) (fun _ _ => False) (x_A X sz)
def xt_Qv (X : x_T) (sz : Nat) : Array Value → State → Outcome → State → Prop := va_Qv (fun (_ : Unit) => False) (fun _ _ => False) (x_A X sz)
def xt_F (p : Program) (l : Launch) (s : State) (X : x_T) (c : Code) : Prop := l.stackTraces = false ∧ xt_Zs X s.heap.size s s.heap ∧ (∀ x ∈ c.exceptionTable.toList, False)
theorem xt_begin {p : Program} {l : Launch} {y : MethodName} {cc : ByteArray} {maxL : Nat} {ret : Option FieldType} {rm : Room} {e : Env} {s : State} {m : MethodId} {args : Array Value} {below : List Frame} {meth : Method} {c : Code} {s₁ : State} {X : x_T} {σ : x_S} {sz : Nat} {av : List Value} (hl0 : l.stackTraces = false)
    (B : BodyLoose p l y (headSpec (x_ws y cc maxL ret) rm) cc maxL ret e s m args below meth c s₁) (hml : c.maxLocals = maxL) (hnt : ∀ x ∈ c.exceptionTable.toList, False) (hv : x_PcT X σ sz av args s) : x_F p s m args meth c cc maxL y.cls ret ∧ xt_F p l s X c ∧ x_I X σ s s.heap [] ∧ args = av.toArray ∧ s.heap.size = sz := by
  obtain ⟨F, hI, h1, h2⟩ := x_begin B hml (show x_Pc X σ sz av args s from ⟨hv.1, hv.2.1, hv.2.2.1, hv.2.2.2.1, hv.2.2.2.2.1⟩)
  exact ⟨F, ⟨hl0, by have h := hv.2.2.2.2.2; rw [← h2] at h; exact h, hnt⟩, hI, h1, h2⟩
def x_or {α β : Type} (o : Option α) (f : α → Option β) (k : Option β) : Option β := match o with
  | some a => f a
  | none => k
theorem x_or_el {α β : Type} {o : Option α} {f : α → Option β} {k : Option β} {r : β} (h : x_or o f k = some r) : (∃ a, o = some a ∧ f a = some r) ∨ (o = none ∧ k = some r) := by
  cases o with
  | none => exact Or.inr ⟨rfl, h⟩
  | some a => exact Or.inl ⟨a, rfl, h⟩
section XTR
variable {p : Program} {l : Launch} {e : Env} {R : Room} {s : State} {m : MethodId} {args : Array Value} {below : List Frame} {meth : Method} {c : Code} {H : Heap} {locs : List Loc} {Q : State → Prop}
variable {cc : ByteArray} {nL : Nat} {own : String} {ret : Option FieldType} {pc : Nat} {ls : Array Slot} {rest : List Value} {X : x_T} {σ σ' : x_S} {j k : Nat} {Qc : Array Value → State → Outcome → State → Prop}
theorem xt_preS (F : x_F p s m args meth c cc nL own ret) (Z : xt_Zs X s.heap.size s s.heap) (hI : x_I X σ s H locs) {As : List Value} : PreS s H (x_PcT X σ H.size As) As :=
  ⟨x_PcT_blind, fun U hU hW => ⟨rfl, hI.1, by rw [hU], ⟨by rw [hU]; exact hI.2.2.1, va_K.moved hW.alike hI.2.1⟩, F.2.2.2.2.2.1.warm hW, by rw [hU]; exact xt_Zs.warm hW (xt_Zs.kept hI.2.2.2 Z)⟩⟩
theorem xt_preV (F : x_F p s m args meth c cc nL own ret) (Z : xt_Zs X s.heap.size s s.heap) (hI : x_I X σ s H locs) (hm : (j, k) ∈ x_ids) {ci : Nat} {q : vw_C} {fs : List Value} (hcell : x_cell X j k (σ j k) = .inr (ci, fs)) (hc : vwCl[ci]? = some q) {As : List Value} : PreV s H q.1 (X.2.2 j k) (x_PcT X σ H.size (.ref (X.2.2 j k) :: As)) As := by
  obtain ⟨q0, hq, -⟩ := wd_at (X := X) σ hm
  exact ⟨x_PcT_blind, va_recv hI.2.1 hI.2.2.1 hc (by rw [hq, hcell]), fun U hU hW => ⟨rfl, hI.1, by rw [hU], ⟨by rw [hU]; exact hI.2.2.1, va_K.moved hW.alike hI.2.1⟩, F.2.2.2.2.2.1.warm hW, by rw [hU]; exact xt_Zs.warm hW (xt_Zs.kept hI.2.2.2 Z)⟩⟩
variable {y : MethodName} {bytes : ByteArray} {maxL n index : Nat} {rt : Option FieldType} {rm : Room} {As : List Value} {XC : String → State → State → Prop} {cells slots : Nat}
theorem xt_runV (F : x_F p s m args meth c cc nL own ret) (Z : xt_Zs X s.heap.size s s.heap) (hI : x_I X σ s H locs) (hM : vx_Met l y (x_ws y bytes maxL rt) rm (x_PcT X σ H.size (.ref (X.2.2 j k) :: As)) Qc XC 1 6 (x_A X H.size)) {C : String} (hg : GoodIn x_U (wsV own index C y (x_ws y bytes maxL rt))) (hd : y.cls = C ∧ y.cls ≠ "java/lang/invoke/MethodHandle" ∧ y.cls ≠ "java/lang/invoke/VarHandle" ∧ (parseMethodDescriptor y.desc).map (fun d => d.parameters.length) = some n) (hR : rm.frames + 1 ≤ R.frames ∧ 8 + (maxL + 11) + rm.locals ≤ R.locals) (hz : rm.cells = 1 ∧ rm.slots = 6) (hm : (j, k) ∈ x_ids) {ci : Nat} {q : vw_C} {fs : List Value} (hcell : x_cell X j k (σ j k) = .inr (ci, fs)) (hc : vwCl[ci]? = some q) (hC : q.1 = C) (hn : As.length = n) (hsize : ls.size = nL) {st0 : List Value} (hst : st0 = As.reverse ++ .ref (X.2.2 j k) :: rest) (hW : (rest.map fun v => v.category).sum ≤ 8) (hdg : decode cc pc = .ok (.invokevirtual index, 3)) (hf : cells + 1 ≤ R.cells ∧ slots + 6 ≤ R.slots) :
    vx_Run p l e R s m args below meth c H locs cells slots 1 6 (F0 m pc ls st0) rest (Qc (Value.ref (X.2.2 j k) :: As).toArray) XC (x_A X H.size) := by
  subst hC
  exact vx_runV (x_fix F) hM (cwV n F.2.2.2.2.1 hg rfl hz.1 hz.2 hd hR) (xt_preV F Z hI hm hcell hc) rfl hn hsize hst (lv_room hW) hdg hf
theorem xt_runS (F : x_F p s m args meth c cc nL own ret) (Z : xt_Zs X s.heap.size s s.heap) (hI : x_I X σ s H locs) (hM : vx_Met l y (x_ws y bytes maxL rt) rm (x_PcT X σ H.size As) Qc XC 1 6 (x_A X H.size)) (hg : GoodIn x_U (va_wsS own index y (x_ws y bytes maxL rt))) (hd : y.cls ≠ "java/lang/invoke/MethodHandle" ∧ y.cls ≠ "java/lang/invoke/VarHandle" ∧ (parseMethodDescriptor y.desc).map (fun d => d.parameters.length) = some n) (hR : rm.frames + 1 ≤ R.frames ∧ 8 + (maxL + 11) + rm.locals ≤ R.locals) (hz : rm.cells = 1 ∧ rm.slots = 6) (hn : As.length = n) (hsize : ls.size = nL) {st0 : List Value} (hst : st0 = As.reverse ++ rest) (hW : (rest.map fun v => v.category).sum ≤ 8) (hdg : decode cc pc = .ok (.invokestatic index, 3)) (hf : cells + 1 ≤ R.cells ∧ slots + 6 ≤ R.slots) :
    vx_Run p l e R s m args below meth c H locs cells slots 1 6 (F0 m pc ls st0) rest (Qc As.toArray) XC (x_A X H.size) :=
  vx_runS (x_fix F) hM (va_cwS n F.2.2.2.2.1 hg rfl hz.1 hz.2 hd hR) (xt_preS F Z hI) rfl hn hsize hst (lv_room hW) hdg hf
variable {st0 : List Value} {a : Array Value} {ex : Nat}
/-- what has been thrown below goes on to the caller -/
theorem xt_on (F : x_F p s m args meth c cc nL own ret) (Z : xt_F p l s X c) {E : String} {ce : Cell} {q9 : Addr} {t : State} {H1 : Heap} {locs1 : List Loc} (hK : va_K X.1 vwCl (x_tys X) s) (ht : t.heap = H1) (hB : E = xt_en ex ∧ x_W X σ' t) (hS : va_S (x_A X s.heap.size) s.heap H1 locs1) (hce : H1[q9]? = some ce) (hcv : ce.vm = .none) (hcl : s.vm.findClass E = some ce.cls) (hc1 : cells ≤ 1) (hs1 : slots ≤ 6) :
    vx_W p l e R s m args below meth c H1 locs1 cells slots (vx_MQ below Qc (xt_C X ex σ' s.heap.size) args s 1 6 (x_A X s.heap.size)) (F0 m pc ls rest) q9 :=
  vx_out (fun x hx => (Z.2.2 x hx).elim) F.2.2.2.2.2.2.2 hce hcv hcl (fun t' ht' hal => ⟨(), trivial, ⟨hB.1, by rw [ht', ← ht]; exact hB.2.1, va_K.moved hal hK⟩, hS.F ht'⟩) hS.2.2 hc1 hs1
theorem xt_acv (F : x_F p s m args meth c cc nL own ret) (Z : xt_F p l s X c) (hI : x_I X σ s H locs) (hr : vx_Run p l e R s m args below meth c H locs 0 0 1 6 (F0 m pc ls st0) rest (xt_Qv X H.size a) (xt_C X ex σ' H.size) (x_A X H.size)) :
    W p l e R s m args below meth c H locs 0 0 (vx_MQ below Qc (xt_C X ex σ' s.heap.size) args s 1 6 (x_A X s.heap.size)) (F0 m pc ls st0) := by
  have hle : s.heap.size ≤ H.size := hI.2.2.2.1
  exact vx_callv (A1 := x_A X H.size) (AX := x_A X H.size) (free := x_A X H.size) hr hI.2.2.2 (fun q _ h => x_A_mono hle q h) (fun q h => x_A_mono hle q h) (fun q _ h => x_A_mono hle q h)
    (fun E ce q9 u t H1 locs1 ht hvm _ hB hz hk hS hce hcv hcl => xt_on F Z hI.2.1 ht hB hS hce hcv hcl (Nat.le_refl _) (Nat.le_refl _)) (fun u t H1 locs1 ht hvm hw hB hz1 hk1 hS => hw.elim)
theorem xt_aci (F : x_F p s m args meth c cc nL own ret) (Z : xt_F p l s X c) (hI : x_I X σ s H locs) (hr : vx_Run p l e R s m args below meth c H locs 0 0 1 6 (F0 m pc ls st0) rest (xt_Qi X H.size a) (xt_C X ex σ' H.size) (x_A X H.size)) :
    W p l e R s m args below meth c H locs 0 0 (vx_MQ below Qc (xt_C X ex σ' s.heap.size) args s 1 6 (x_A X s.heap.size)) (F0 m pc ls st0) := by
  have hle : s.heap.size ≤ H.size := hI.2.2.2.1
  exact vx_calli (A1 := x_A X H.size) (AX := x_A X H.size) (free := x_A X H.size) hr hI.2.2.2 (fun q _ h => x_A_mono hle q h) (fun q h => x_A_mono hle q h) (fun q _ h => x_A_mono hle q h)
    (fun E ce q9 u t H1 locs1 ht hvm _ hB hz hk hS hce hcv hcl => xt_on F Z hI.2.1 ht hB hS hce hcv hcl (Nat.le_refl _) (Nat.le_refl _)) (fun r u t H1 locs1 ht hvm hw hB hz1 hk1 hS => hw.elim)
end XTR
theorem xt_wof {ws : List Cond} (ps : List Nat) (hp : ws = ps.filterMap (fun i => tables_1[i]?)) (h : ws.all (fun w => goodWord w || w.faceAtom) = true) : ∀ w ∈ ws, w ∈ x_U ∨ w ∈ xt_face := by
  intro w hw
  have h1 := List.all_eq_true.mp h w hw
  rw [hp] at hw
  obtain ⟨i, -, hi⟩ := List.mem_filterMap.mp hw
  rcases Bool.or_eq_true_iff.mp h1 with g | g
  · exact Or.inl (x_ut i hi g)
  · exact Or.inr (xt_ft i hi g)
def xt_ok (e ik ic : Nat) : Prop := Bundle.fit (xt_en e) = true ∧ Cond.classLink RX6 ik (xt_en e) ∈ x_U ∧ Cond.initialized (xt_en e) ∈ x_U ∧ (∀ w ∈ vx_atS RX6 ic (xt_en e) xt_n, w ∈ x_U ∨ w ∈ xt_face) ∧ (∀ w ∈ Cond.classLink RX6 ik (xt_en e) :: Cond.initialized (xt_en e) :: vx_atS RX6 ic (xt_en e) xt_n, vx_ot w = true)
theorem xt_ok2 : xt_ok 2 294 298 := ⟨by decide +kernel, x_ut 380 (by decide +kernel) rfl, x_ut 14 (by decide +kernel) rfl, xt_wof [10, 294, 303, 307, 310, 312, 295, 296, 22, 23, 297, 302, 308, 328, 284, 329, 286, 330, 288, 298, 300, 290, 324, 325, 327, 290, 391, 392, 393, 318, 276, 318, 319, 320, 321, 278, 321, 322, 323, 324, 280, 390, 381, 382, 383, 305, 384, 385, 386, 387, 293, 292, 388] (by decide +kernel) (by decide +kernel), List.all_eq_true.mp (by decide +kernel)⟩
theorem xt_ok1 : xt_ok 1 157 161 := ⟨by decide +kernel, x_ut 272 (by decide +kernel) rfl, x_ut 15 (by decide +kernel) rfl, xt_wof [10, 294, 303, 307, 310, 312, 295, 296, 22, 23, 297, 302, 308, 328, 284, 329, 286, 330, 288, 298, 300, 290, 324, 325, 327, 290, 315, 316, 317, 318, 276, 318, 319, 320, 321, 278, 321, 322, 323, 324, 280, 314, 273, 274, 281, 282, 283, 285, 287, 289, 293, 292, 291] (by decide +kernel) (by decide +kernel), List.all_eq_true.mp (by decide +kernel)⟩
theorem xt_ok0 : xt_ok 0 277 281 := ⟨by decide +kernel, x_ut 646 (by decide +kernel) rfl, x_ut 13 (by decide +kernel) rfl, xt_wof [10, 294, 303, 307, 310, 312, 295, 296, 22, 23, 297, 302, 308, 328, 284, 329, 286, 330, 288, 298, 300, 290, 324, 325, 327, 290, 657, 658, 659, 318, 276, 318, 319, 320, 321, 278, 321, 322, 323, 324, 280, 656, 647, 648, 649, 306, 650, 651, 652, 653, 293, 292, 654] (by decide +kernel) (by decide +kernel), List.all_eq_true.mp (by decide +kernel)⟩
section XTT
variable {p : Program} {l : Launch} {e : Env} {R : Room} {s : State} {m : MethodId} {args : Array Value} {below : List Frame} {meth : Method} {c : Code} {H : Heap} {locs : List Loc}
variable {cc : ByteArray} {nL : Nat} {ret : Option FieldType} {pc : Nat} {ls : Array Slot} {rest : List Value} {X : x_T} {σ : x_S} {Qc : Array Value → State → Outcome → State → Prop} {ex ik is ic : Nat} {text : String}
theorem xt_throwW (F : x_F p s m args meth c cc nL RX6 ret) (Z : xt_F p l s X c) (hI : x_I X σ s H locs) (hk : xt_ok ex ik ic) (hs : (is, text) ∈ xt_strs) (hsize : ls.size = nL) (hR : 5 < R.frames ∧ (rest.map fun v => v.category).sum + 82 ≤ R.locals ∧ 1 ≤ R.cells ∧ 6 ≤ R.slots)
    (d0 : decode cc pc = .ok (.new ik, 3)) (d3 : decode cc (pc + 3) = .ok (.dup, 1)) (d4 : decode cc (pc + 4) = .ok (.ldc_w is, 3)) (d7 : decode cc (pc + 7) = .ok (.invokespecial ic, 3)) (d10 : decode cc (pc + 10) = .ok (.athrow, 1)) :
    W p l e R s m args below meth c H locs 0 0 (vx_MQ below Qc (xt_C X ex σ s.heap.size) args s 1 6 (x_A X s.heap.size)) (F0 m pc ls rest) := by
  obtain ⟨sa, hsa⟩ := Z.2.1.2.2.1 _ hs
  refine vx_throwSW (names := xt_n) (sa := sa) (A := x_A X s.heap.size) F.1 F.2.1 Z.1 F.2.2.2.1 hk.1 (fun n hn => ?_) (F.2.2.2.2.1 _ hk.2.1) (F.2.2.2.2.1 _ hk.2.2.1) hsa (fun w hw => (hk.2.2.2.1 w hw).elim (F.2.2.2.2.1 w) (fun h => Z.2.1.2.2.2.1.at h)) hk.2.2.2.2 Z.2.1.1 Z.2.1.2.1 hI.2.2.2 (hsize.trans F.2.2.1.symm) d0 d3 d4 d7 d10 (fun x hx => (Z.2.2 x hx).elim) hR.1 hR.2.1 (by omega) (by omega) F.2.2.2.2.2.2.2 (fun t hal hz hq => ?_) hI.2.2.2.2.2 (Nat.le_refl _) (Nat.le_refl _)
  · simp only [xt_n, List.mem_cons, List.not_mem_nil, or_false] at hn
    rcases hn with rfl | rfl <;> decide
  · refine ⟨(), trivial, ⟨rfl, ?_, va_K.moved hal hI.2.1⟩, Nat.le_trans hI.2.2.2.1 hz, fun q h1 h2 => ?_⟩
    · exact va_P.kept hI.2.2.1 (fun k q hk => hq _ (vx_lt hI.2.2.1 hk))
    · exact (hq q (Nat.lt_of_lt_of_le h1 hI.2.2.2.1)).trans (hI.2.2.2.2.1 q h1 h2)
theorem xt_throwN (F : x_F p s m args meth c cc nL RX6 ret) (Z : xt_F p l s X c) (hI : x_I X σ s H locs) (hk : xt_ok ex ik ic) (hs : (is, text) ∈ xt_strs) (hsize : ls.size = nL) (hR : 5 < R.frames ∧ (rest.map fun v => v.category).sum + 82 ≤ R.locals ∧ 1 ≤ R.cells ∧ 6 ≤ R.slots)
    (d0 : decode cc pc = .ok (.new ik, 3)) (d3 : decode cc (pc + 3) = .ok (.dup, 1)) (d4 : decode cc (pc + 4) = .ok (.ldc is, 2)) (d6 : decode cc (pc + 6) = .ok (.invokespecial ic, 3)) (d9 : decode cc (pc + 9) = .ok (.athrow, 1)) :
    W p l e R s m args below meth c H locs 0 0 (vx_MQ below Qc (xt_C X ex σ s.heap.size) args s 1 6 (x_A X s.heap.size)) (F0 m pc ls rest) := by
  obtain ⟨sa, hsa⟩ := Z.2.1.2.2.1 _ hs
  refine vx_throwS (names := xt_n) (sa := sa) (A := x_A X s.heap.size) F.1 F.2.1 Z.1 F.2.2.2.1 hk.1 (fun n hn => ?_) (F.2.2.2.2.1 _ hk.2.1) (F.2.2.2.2.1 _ hk.2.2.1) hsa (fun w hw => (hk.2.2.2.1 w hw).elim (F.2.2.2.2.1 w) (fun h => Z.2.1.2.2.2.1.at h)) hk.2.2.2.2 Z.2.1.1 Z.2.1.2.1 hI.2.2.2 (hsize.trans F.2.2.1.symm) d0 d3 d4 d6 d9 (fun x hx => (Z.2.2 x hx).elim) hR.1 hR.2.1 (by omega) (by omega) F.2.2.2.2.2.2.2 (fun t hal hz hq => ?_) hI.2.2.2.2.2 (Nat.le_refl _) (Nat.le_refl _)
  · simp only [xt_n, List.mem_cons, List.not_mem_nil, or_false] at hn
    rcases hn with rfl | rfl <;> decide
  · refine ⟨(), trivial, ⟨rfl, ?_, va_K.moved hal hI.2.1⟩, Nat.le_trans hI.2.2.2.1 hz, fun q h1 h2 => ?_⟩
    · exact va_P.kept hI.2.2.1 (fun k q hk => hq _ (vx_lt hI.2.2.1 hk))
    · exact (hq q (Nat.lt_of_lt_of_le h1 hI.2.2.2.1)).trans (hI.2.2.2.2.1 q h1 h2)
end XTT
