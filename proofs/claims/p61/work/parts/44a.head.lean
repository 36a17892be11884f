/-! ===== the law's methods over one object ===== -/
def xm_Z (l : Launch) (s : State) (X : x_T) : Prop := l.stackTraces = false ∧ xt_Zs X s.heap.size s s.heap
theorem xm_begin {p : Program} {l : Launch} {y : MethodName} {cc : ByteArray} {maxL : Nat} {ret : Option FieldType} {rm : Room} {e : Env} {s : State} {m : MethodId} {args : Array Value} {below : List Frame} {meth : Method} {c : Code} {s₁ : State} {X : x_T} {σ : x_S} {sz : Nat} {av : List Value} (hl0 : l.stackTraces = false)
    (B : BodyLoose p l y (headSpec (x_ws y cc maxL ret) rm) cc maxL ret e s m args below meth c s₁) (hml : c.maxLocals = maxL) (hv : x_PcT X σ sz av args s) : x_F p s m args meth c cc maxL y.cls ret ∧ xm_Z l s X ∧ x_I X σ s s.heap [] ∧ args = av.toArray ∧ s.heap.size = sz := by
  obtain ⟨F, hI, h1, h2⟩ := x_begin B hml (show x_Pc X σ sz av args s from ⟨hv.1, hv.2.1, hv.2.2.1, hv.2.2.2.1, hv.2.2.2.2.1⟩)
  exact ⟨F, ⟨hl0, by have h := hv.2.2.2.2.2; rw [← h2] at h; exact h⟩, hI, h1, h2⟩
section XM
variable {p : Program} {l : Launch} {e : Env} {R : Room} {s : State} {m : MethodId} {args : Array Value} {below : List Frame} {meth : Method} {c : Code} {H : Heap} {locs : List Loc} {cells slots : Nat} {Q : State → Prop}
variable {cc : ByteArray} {nL : Nat} {own : String} {ret' : Option FieldType} {pc : Nat} {ls : Array Slot} {rest : List Value} {X : x_T} {σ σ' : x_S}
variable {y : MethodName} {bytes : ByteArray} {maxL n index mc ms : Nat} {rt : Option FieldType} {rm : Room} {As : List Value} {hh : List (Nat × Nat × Nat × Nat)} {st0 : List Value} {a : Array Value}
theorem xw_run (F : x_F p s m args meth c cc nL own ret') (Z : xt_Zs X s.heap.size s s.heap) (hI : x_I X σ s H locs) {Qc : Array Value → State → Outcome → State → Prop} (hM : Met l y (xl_ws y bytes maxL rt hh) rm (x_PcT X σ H.size As) Qc 1 6 (x_A X H.size)) (hg : GoodIn x_U (va_wsS own index y (xl_ws y bytes maxL rt hh))) (hd : y.cls ≠ "java/lang/invoke/MethodHandle" ∧ y.cls ≠ "java/lang/invoke/VarHandle" ∧ (parseMethodDescriptor y.desc).map (fun d => d.parameters.length) = some n) (hR : rm.frames + 1 ≤ R.frames ∧ 8 + (maxL + 11) + rm.locals ≤ R.locals) (hz : rm.cells = 1 ∧ rm.slots = 6) (hn : As.length = n) (hsize : ls.size = nL) (hst : st0 = As.reverse ++ rest) (hW : (rest.map fun v => v.category).sum ≤ 8) (hdg : decode cc pc = .ok (.invokestatic index, 3)) (hf : cells + 1 ≤ R.cells ∧ slots + 6 ≤ R.slots) :
    va_Run p l e R s m args below meth c H locs cells slots 1 6 (F0 m pc ls st0) rest (Qc As.toArray) (x_A X H.size) :=
  vx_runSW (x_fix F) hM (vx_cwSW n F.2.2.2.2.1 hg rfl hz.1 hz.2 hd hR) (xt_preS F Z hI) rfl hn hsize hst (lv_room hW) hdg hf
theorem xm_run (F : x_F p s m args meth c cc nL own ret') (Z : xt_Zs X s.heap.size s s.heap) (hI : x_I X σ s H locs) {Qc : Array Value → State → Outcome → State → Prop} (hM : Met l y (x_ws y bytes maxL rt) rm (x_PcT X σ H.size As) Qc mc ms (x_A X H.size)) (hg : GoodIn x_U (va_wsS own index y (x_ws y bytes maxL rt))) (hd : y.cls ≠ "java/lang/invoke/MethodHandle" ∧ y.cls ≠ "java/lang/invoke/VarHandle" ∧ (parseMethodDescriptor y.desc).map (fun d => d.parameters.length) = some n) (hR : rm.frames + 1 ≤ R.frames ∧ 8 + (maxL + 11) + rm.locals ≤ R.locals) (hz : rm.cells = mc ∧ rm.slots = ms) (hn : As.length = n) (hsize : ls.size = nL) (hst : st0 = As.reverse ++ rest) (hW : (rest.map fun v => v.category).sum ≤ 8) (hdg : decode cc pc = .ok (.invokestatic index, 3)) (hf : cells + mc ≤ R.cells ∧ slots + ms ≤ R.slots) :
    va_Run p l e R s m args below meth c H locs cells slots mc ms (F0 m pc ls st0) rest (Qc As.toArray) (x_A X H.size) :=
  va_runS (x_fix F) hM (va_cwS n F.2.2.2.2.1 hg rfl hz.1 hz.2 hd hR) (xt_preS F Z hI) rfl hn hsize hst (lv_room hW) hdg hf
theorem xm_aci {r0 : Int32} (hI : x_I X σ s H locs) (hr : va_Run p l e R s m args below meth c H locs cells slots mc ms (F0 m pc ls st0) rest (x_Qi X r0 σ' H.size a) (x_A X H.size))
    (kk : ∀ (H1 : Heap) (locs1 : List Loc), x_I X σ' s H1 locs1 → W p l e R s m args below meth c H1 locs1 (cells + mc) (slots + ms) Q (F0 m (pc + 3) ls (.int r0 :: rest))) : W p l e R s m args below meth c H locs cells slots Q (F0 m pc ls st0) := by
  have hle : s.heap.size ≤ H.size := hI.2.2.2.1
  refine va_calli (A1 := x_A X H.size) (free := x_A X H.size) hr hI.2.2.2 (fun q _ h => x_A_mono hle q h) (fun q h => x_A_mono hle q h) (fun r u t H1 locs1 ht hvm hw hB hz1 hk1 hS => ?_)
  subst hw
  exact kk H1 locs1 ⟨hI.1, hI.2.1, by rw [← ht]; exact hB.1, hS⟩
theorem xm_acl {r0 : Int64} (hI : x_I X σ s H locs) (hr : va_Run p l e R s m args below meth c H locs cells slots mc ms (F0 m pc ls st0) rest (x_Ql X r0 σ' H.size a) (x_A X H.size))
    (kk : ∀ (H1 : Heap) (locs1 : List Loc), x_I X σ' s H1 locs1 → W p l e R s m args below meth c H1 locs1 (cells + mc) (slots + ms) Q (F0 m (pc + 3) ls (.long r0 :: rest))) : W p l e R s m args below meth c H locs cells slots Q (F0 m pc ls st0) := by
  have hle : s.heap.size ≤ H.size := hI.2.2.2.1
  refine va_calll (A1 := x_A X H.size) (free := x_A X H.size) hr hI.2.2.2 (fun q _ h => x_A_mono hle q h) (fun q h => x_A_mono hle q h) (fun r u t H1 locs1 ht hvm hw hB hz1 hk1 hS => ?_)
  subst hw
  exact kk H1 locs1 ⟨hI.1, hI.2.1, by rw [← ht]; exact hB.1, hS⟩
end XM
