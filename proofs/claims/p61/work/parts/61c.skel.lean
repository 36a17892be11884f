/-! THE CLAIM OUT OF ONE WALK OF THE LAW'S BODY. Your part is whole_start (and what it stands on); all else here is the same for every law, but numbers. -/
def R_law : String := "KeyLeasesLaw"
def lw_P (b : Addr) (xs : List Int32) (args : Array Value) (s : State) : Prop := args = #[.ref b] ∧ s.IntsAt b xs ∧ xs.length ≤ 260 ∧ (Jvm.Cond.and given_1 narrow_1).before args s = true
def lw_Q (_ : Array Value) (s : State) (o : Outcome) (t : State) : Prop := o = .returned (some (.int 1)) ∧ Framed s o t [] 775678 6774147
def lw_Z (below : List Frame) (a : Array Value) (s : State) : State → Prop := fun t => ∃ o, t.status = .running ∧ Ended t below o ∧ lw_Q a s o t
/-- the law's own end, with 1 on the stack, nothing written that was there before, its room as the claim has it -/
theorem lw_ret {p : Program} {l : Launch} {e : Env} {s : State} {m : MethodId} {below : List Frame} {meth : Method} {c : Code} {b : Nat} (hx : p.tables.exec = Jvm.exec) (hb : c.code = code) (hr : meth.sig.returnType = ret) (hlocks : meth.locks = false) {pc : Nat} {H : Heap} {ls : Array Slot} (hdg : decode code pc = .ok (.ireturn, 1)) : W p l e room_1 s m #[Value.ref b] below meth c H [] 775678 6774147 (lw_Z below #[Value.ref b] s) (F0 m pc ls [.int 1]) := by
  intro T hT X
  obtain ⟨fs, hret, hrun, hended, hW, hframe⟩ := X.leave (v := some (.int 1)) (hlocks := hlocks) (fun h => by rw [hr] at h; cases h)
  have hmeth' : T.vm.method? m = some meth := X.method'
  refine ⟨T.setFrames fs, ?_, .returned (some (.int 1)), hrun, hended, rfl, ⟨_, rfl⟩, hW, hframe⟩
  jvm_step X.here [X.here.top, hx, hb, hdg, hmeth', hr, ret, narrow_b1]
  (try refine ⟨rfl, ?_⟩); (try refine ⟨rfl, ?_⟩)
  first | (intro acts; rw [hret _ acts rfl rfl rfl]) | rw [hret _ _ rfl rfl rfl]
  exact Steps.refl _
/-- what holds at the law's entry: the machine, the code, the tables' words (any of lw_tbl by 'hts w (by decide +kernel)'), the script of L ints xs at the cell b, what the Statement gives of the start (any of its parts by flat_of_before) -/
def lw_At (p : Program) (s : State) (m : MethodId) (meth : Method) (c : Code) (b L : Nat) (xs : Nat → Int32) : Prop :=
  p.tables.exec = Jvm.exec ∧ c.code = code ∧ meth.sig.returnType = ret ∧ c.maxLocals = 8 ∧ s.vm.findClass R_law = some m.cls ∧ (∀ w ∈ lw_tbl, w.before #[Value.ref b] s = true) ∧ va_X b L xs s s.heap ∧ b < s.heap.size ∧ meth.locks = false ∧ (Jvm.Cond.and given_1 narrow_1).before #[Value.ref b] s = true
/-! ===== the law over two objects: its own steps ===== -/
abbrev xj_A (s : State) : Nat → Prop := fun q => s.heap.size ≤ q
def xj_F (p : Program) (l : Launch) (s : State) (m : MethodId) (meth : Method) (c : Code) (b L : Nat) (xs : Nat → Int32) (X Y : x_T) : Prop := x_F p s m #[Value.ref b] meth c cL_law 8 RL ret ∧ l.stackTraces = false ∧ x_ZJ (xj_A s) s ∧ va_X b L xs s s.heap ∧ b < s.heap.size ∧ x_AJ (xj_A s) X Y s ∧ meth.sig.returnType = ret
section XJ
variable {p : Program} {l : Launch} {e : Env} {s : State} {m : MethodId} {below : List Frame} {meth : Method} {c : Code} {H : Heap} {locs : List Loc} {cells slots : Nat} {Q : State → Prop}
variable {pc : Nat} {ls : Array Slot} {rest st0 : List Value} {X Y : x_T} {σ τ : x_S} {b L : Nat} {xs : Nat → Int32}
theorem xj_ret (FF : xj_F p l s m meth c b L xs X Y) (hJ : x_J (xj_A s) X Y σ τ s H locs) (h1 : cells ≤ 775678) (h2 : slots ≤ 6774147) (hdg : decode cL_law pc = .ok (.ireturn, 1)) : W p l e room_1 s m #[Value.ref b] below meth c H locs cells slots (lw_Z below #[Value.ref b] s) (F0 m pc ls [.int 1]) := by
  refine W.widen (k := 775678) (n := 6774147) h1 h2 ?_
  refine va_forget (fun q hq => hJ.2.2.2.2.2 q hq) ?_
  exact lw_ret FF.1.1 FF.1.2.1 FF.2.2.2.2.2.2 FF.1.2.2.2.2.2.2.2 hdg
theorem xj_draw (FF : xj_F p l s m meth c b L xs X Y) (hJ : x_J (xj_A s) X Y σ τ s H locs) {k r : Int32} (h : fL_draw xs L k = some r) (hsize : ls.size = 8) (hst : st0 = ([.ref b, .int k] : List Value).reverse ++ rest) (hW : (rest.map fun v => v.category).sum ≤ 8) (hdg : decode cL_law pc = .ok (.invokestatic 309, 3)) (hf : cells + 0 ≤ room_1.cells ∧ slots + 0 ≤ room_1.slots)
    (kk : ∀ (H1 : Heap) (locs1 : List Loc), x_J (xj_A s) X Y σ τ s H1 locs1 → W p l e room_1 s m #[Value.ref b] below meth c H1 locs1 (cells + 0) (slots + 0) Q (F0 m (pc + 3) ls (.int r :: rest))) : W p l e room_1 s m #[Value.ref b] below meth c H locs cells slots Q (F0 m pc ls st0) := by
  have F := FF.1
  have hX := FF.2.2.2.1
  have hbl := FF.2.2.2.2.1
  obtain ⟨h1, h2, h3, hS⟩ := hJ
  have hp : PreS s H (xd_Pc b L xs H.size [.ref b, .int k]) [.ref b, .int k] := ⟨xd_Pc_blind, fun U hU hW => ⟨rfl, by rw [hU], Nat.lt_of_lt_of_le hbl hS.1, by rw [hU]; exact va_X.moved hW.alike (hX.kept (hS.2.1 b hbl (Nat.not_le.mpr hbl)))⟩⟩
  refine va_calli (A0 := xj_A s) (A1 := fun q => H.size ≤ q) (free := fun q => H.size ≤ q) (va_runS (x_fix F) (mL_draw l b L xs H.size k r h) (va_cwS 2 F.2.2.2.2.1 gm_L_309 rfl rfl rfl hd_L_draw ⟨by decide, by decide⟩) hp rfl rfl hsize hst (lv_room hW) hdg hf) hS (fun q h1 h2 => absurd h1 (Nat.not_lt.mpr h2)) (fun q h => Nat.le_trans hS.1 h) (fun r' u t H1 locs1 ht hvm hw hB hz1 hk1 hS1 => ?_)
  subst hw
  exact kk H1 locs1 ⟨h1.kept hk1 (fun q hq => Nat.not_le.mpr (h1.lt hq)), h2.kept hk1 (fun q hq => Nat.not_le.mpr (h2.lt hq)), h3, hS1⟩
theorem xj_alike (FF : xj_F p l s m meth c b L xs X Y) (hJ : x_J (xj_A s) X Y σ τ s H locs) {r : Int32 × x_S × x_S} (h : fL_alike σ τ = some r) (hsize : ls.size = 8) (hst : st0 = ([.ref (X.2.2 10 32), .ref (Y.2.2 10 32)] : List Value).reverse ++ rest) (hW : (rest.map fun v => v.category).sum ≤ 8) (hdg : decode cL_law pc = .ok (.invokestatic 298, 3)) (hf : cells + 0 ≤ room_1.cells ∧ slots + 0 ≤ room_1.slots)
    (kk : ∀ (H1 : Heap) (locs1 : List Loc), x_J (xj_A s) X Y r.2.1 r.2.2 s H1 locs1 → W p l e room_1 s m #[Value.ref b] below meth c H1 locs1 (cells + 0) (slots + 0) Q (F0 m (pc + 3) ls (.int r.1 :: rest))) : W p l e room_1 s m #[Value.ref b] below meth c H locs cells slots Q (F0 m pc ls st0) := by
  have F := FF.1
  have hA := FF.2.2.2.2.2.1
  obtain ⟨h1, h2, h3, hS⟩ := hJ
  have hAA : ∀ q, xa_A X Y H.size q → xj_A s q := fun q h => h.elim (fun h => hA.1 q (x_A_mono hS.1 q h)) (fun h => hA.2 q (x_A_mono hS.1 q h))
  have hp : PreS s H (xa_Pc X Y σ τ H.size [.ref (X.2.2 10 32), .ref (Y.2.2 10 32)]) [.ref (X.2.2 10 32), .ref (Y.2.2 10 32)] := ⟨xa_Pc_blind, fun U hU hW => ⟨rfl, h1.1, h2.1, h3, by rw [hU], ⟨by rw [hU]; exact h1.2.2, va_K.moved hW.alike h1.2.1⟩, ⟨by rw [hU]; exact h2.2.2, va_K.moved hW.alike h2.2.1⟩, F.2.2.2.2.2.1.warm hW⟩⟩
  refine va_calli (A0 := xj_A s) (A1 := xa_A X Y H.size) (free := xa_A X Y H.size) (va_runS (x_fix F) (mL_alike l X Y H.size σ τ r h) (va_cwS 2 F.2.2.2.2.1 gm_L_298 rfl rfl rfl hd_L_alike ⟨by decide, by decide⟩) hp rfl rfl hsize hst (lv_room hW) hdg hf) hS (fun q _ h => hAA q h) hAA (fun r' u t H1 locs1 ht hvm hw hB hz1 hk1 hS1 => ?_)
  subst hw
  exact kk H1 locs1 ⟨⟨h1.1, h1.2.1, by rw [← ht]; exact hB.1.1⟩, ⟨h2.1, h2.2.1, by rw [← ht]; exact hB.2.1⟩, h3, hS1⟩
end XJ
