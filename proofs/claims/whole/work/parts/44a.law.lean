/-! ===== the law: its loop, a case at a time ===== -/
def xw_F (p : Program) (l : Launch) (s : State) (m : MethodId) (meth : Method) (c : Code) (b L : Nat) (xs : Nat → Int32) (X : x_T) : Prop := x_F p s m #[Value.ref b] meth c cL_law 9 RL ret ∧ l.stackTraces = false ∧ xt_Zs X s.heap.size s s.heap ∧ va_X b L xs s s.heap ∧ b < s.heap.size ∧ ¬ x_A X s.heap.size b
abbrev xw_lv (X : x_T) (b : Nat) (i : Int32) : List (Nat × Value) := [(0, .ref b), (1, .ref (X.2.2 10 32)), (2, .ref (X.2.2 11 40)), (3, .ref (X.2.2 12 48)), (4, .int i)]
section XW
variable {p : Program} {l : Launch} {e : Env} {R : Room} {s : State} {m : MethodId} {args : Array Value} {below : List Frame} {meth : Method} {c : Code} {H : Heap} {locs : List Loc} {cells slots : Nat} {Q : State → Prop}
variable {cc : ByteArray} {nL : Nat} {own : String} {ret' : Option FieldType} {pc : Nat} {ls : Array Slot} {rest : List Value} {X : x_T} {σ σ' : x_S} {b L : Nat} {xs : Nat → Int32}
theorem xw_sld (F : xw_F p l s m meth c b L xs X) (hI : x_I X σ s H locs) {i a : Int32} (hin : x_in i L) (ha : xs i.toNatClampNeg = a) (hdg : decode cL_law pc = .ok (.iaload, 1)) (kk : W p l e R s m #[Value.ref b] below meth c H locs cells slots Q (F0 m (pc + 1) ls (.int a :: rest))) : W p l e R s m #[Value.ref b] below meth c H locs cells slots Q (F0 m pc ls (.int i :: .ref b :: rest)) := by
  subst ha
  exact va_sld F.1.1 F.1.2.1 F.2.2.2.1 F.2.2.2.2.1 F.2.2.2.2.2 hI.2.2.2 hin hdg kk
theorem xw_slen (F : xw_F p l s m meth c b L xs X) (hI : x_I X σ s H locs) (hdg : decode cL_law pc = .ok (.arraylength, 1)) (kk : W p l e R s m #[Value.ref b] below meth c H locs cells slots Q (F0 m (pc + 1) ls (.int (Int32.ofNat L) :: rest))) : W p l e R s m #[Value.ref b] below meth c H locs cells slots Q (F0 m pc ls (.ref b :: rest)) :=
  va_slen F.1.1 F.1.2.1 F.2.2.2.1 F.2.2.2.2.1 F.2.2.2.2.2 hI.2.2.2 hdg kk
theorem x_lald (F : x_F p s m args meth c cc nL own ret') (hI : x_I X σ s H locs) {i : Int32} (hin : x_in i 1) (hdg : decode cc pc = .ok (.laload, 1)) (kk : W p l e R s m args below meth c H locs cells slots Q (F0 m (pc + 1) ls (.long (σ 12 48 i.toNatClampNeg).toInt64 :: rest))) : W p l e R s m args below meth c H locs cells slots Q (F0 m pc ls (.int i :: .ref (X.2.2 12 48) :: rest)) := by
  obtain ⟨q0, hq, -⟩ := wd_at (X := X) σ (j := 12) (k := 48) (x_inO (by decide))
  exact va_lald (f := fun i => (σ 12 48 i).toInt64) F.1 F.2.1 hI.2.1 hI.2.2.1 q0 4 (cA := X.2.1 4) (n := 1) (by rw [hq]; rfl) rfl hin hdg kk
variable {y : MethodName} {bytes : ByteArray} {maxL n index : Nat} {rt : Option FieldType} {rm : Room} {As : List Value} {hh : List (Nat × Nat × Nat × Nat)} {st0 : List Value} {a : Array Value}
theorem xw_run (F : x_F p s m args meth c cc nL own ret') (Z : xt_Zs X s.heap.size s s.heap) (hI : x_I X σ s H locs) {Qc : Array Value → State → Outcome → State → Prop} (hM : Met l y (xl_ws y bytes maxL rt hh) rm (x_PcT X σ H.size As) Qc 1 6 (x_A X H.size)) (hg : GoodIn x_U (va_wsS own index y (xl_ws y bytes maxL rt hh))) (hd : y.cls ≠ "java/lang/invoke/MethodHandle" ∧ y.cls ≠ "java/lang/invoke/VarHandle" ∧ (parseMethodDescriptor y.desc).map (fun d => d.parameters.length) = some n) (hR : rm.frames + 1 ≤ R.frames ∧ 8 + (maxL + 11) + rm.locals ≤ R.locals) (hz : rm.cells = 1 ∧ rm.slots = 6) (hn : As.length = n) (hsize : ls.size = nL) (hst : st0 = As.reverse ++ rest) (hW : (rest.map fun v => v.category).sum ≤ 8) (hdg : decode cc pc = .ok (.invokestatic index, 3)) (hf : cells + 1 ≤ R.cells ∧ slots + 6 ≤ R.slots) :
    va_Run p l e R s m args below meth c H locs cells slots 1 6 (F0 m pc ls st0) rest (Qc As.toArray) (x_A X H.size) :=
  vx_runSW (x_fix F) hM (vx_cwSW n F.2.2.2.2.1 hg rfl hz.1 hz.2 hd hR) (xt_preS F Z hI) rfl hn hsize hst (lv_room hW) hdg hf
theorem xw_aci {r0 : Int32} (hI : x_I X σ s H locs) (hr : va_Run p l e R s m args below meth c H locs cells slots 1 6 (F0 m pc ls st0) rest (x_Qi X r0 σ' H.size a) (x_A X H.size))
    (kk : ∀ (H1 : Heap) (locs1 : List Loc), x_I X σ' s H1 locs1 → W p l e R s m args below meth c H1 locs1 (cells + 1) (slots + 6) Q (F0 m (pc + 3) ls (.int r0 :: rest))) : W p l e R s m args below meth c H locs cells slots Q (F0 m pc ls st0) := by
  have hle : s.heap.size ≤ H.size := hI.2.2.2.1
  refine va_calli (A1 := x_A X H.size) (free := x_A X H.size) hr hI.2.2.2 (fun q _ h => x_A_mono hle q h) (fun q h => x_A_mono hle q h) (fun r u t H1 locs1 ht hvm hw hB hz1 hk1 hS => ?_)
  subst hw
  exact kk H1 locs1 ⟨hI.1, hI.2.1, by rw [← ht]; exact hB.1, hS⟩
end XW
