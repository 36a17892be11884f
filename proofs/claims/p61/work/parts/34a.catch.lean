/-! ===== the law's wrappers: methods with a table of handlers ===== -/
def xl_ws (y : MethodName) (c : ByteArray) (n : Nat) (r : Option FieldType) (hh : List (Nat × Nat × Nat × Nat)) : List Cond := .codeWith y c n r hh :: x_U
theorem xl_gS {own : String} {idx : Nat} {y : MethodName} {c : ByteArray} {n : Nat} {r : Option FieldType} {hh : List (Nat × Nat × Nat × Nat)} (h1 : Cond.methodLink own idx y ∈ x_U) (h2 : Cond.static y ∈ x_U) (h4 : Cond.initialized y.cls ∈ x_U) (h5 : Cond.codeWith y c n r hh ∈ x_U) : GoodIn x_U (va_wsS own idx y (xl_ws y c n r hh)) := by
  intro w hw
  rcases List.mem_append.mp hw with h | h
  · have hm : w ∈ x_U := by
      simp only [List.mem_cons, List.not_mem_nil, or_false] at h
      rcases h with rfl | rfl | rfl <;> assumption
    exact ⟨hm, good_of_word (x_Ug w hm)⟩
  · have hm : w ∈ x_U := (List.mem_cons.mp h).elim (fun e => by rw [e]; exact h5) id
    exact ⟨hm, good_of_word (x_Ug w hm)⟩
theorem xl_begin {p : Program} {l : Launch} {y : MethodName} {cc : ByteArray} {maxL : Nat} {ret : Option FieldType} {hh : List (Nat × Nat × Nat × Nat)} {rm : Room} {e : Env} {s : State} {m : MethodId} {args : Array Value} {below : List Frame} {meth : Method} {c : Code} {s₁ : State} {X : x_T} {σ : x_S} {sz : Nat} {av : List Value}
    (B : BodyLoose p l y (headSpec (xl_ws y cc maxL ret hh) rm) cc maxL ret e s m args below meth c s₁) (hml : c.maxLocals = maxL) (hv : x_PcT X σ sz av args s) : x_F p s m args meth c cc maxL y.cls ret ∧ xt_Zs X s.heap.size s s.heap ∧ c.exceptionTable.toList = tableOf hh ∧ x_I X σ s s.heap [] ∧ args = av.toArray ∧ s.heap.size = sz := by
  obtain ⟨h1, h2, h3, ⟨h4, h5⟩, h6, h7⟩ := hv
  have hts := atoms_spec (ws := xl_ws y cc maxL ret hh) B.pre
  exact ⟨⟨B.exec, B.bytes, hml, findClass_of_methodNamed B.named, fun w hw => hts w (List.mem_cons_of_mem _ hw), h6, B.returns, B.notSynchronized⟩, by rw [← h3] at h7; exact h7, vx_table (x := y) B (hts _ List.mem_cons_self), ⟨h2, h5, h4, va_S.rf⟩, h1, h3⟩
section XLR
variable {p : Program} {l : Launch} {e : Env} {R : Room} {s : State} {m : MethodId} {args : Array Value} {below : List Frame} {meth : Method} {c : Code} {H : Heap} {locs : List Loc} {Q : State → Prop}
variable {cc : ByteArray} {nL : Nat} {own : String} {ret : Option FieldType} {pc : Nat} {ls : Array Slot} {rest : List Value} {X : x_T} {σ σ' : x_S} {cells slots ex : Nat} {st0 : List Value} {a : Array Value}
/-- a call that throws: on at the handlers -/
theorem xl_acv (hI : x_I X σ s H locs) (hr : vx_Run p l e R s m args below meth c H locs cells slots 1 6 (F0 m pc ls st0) rest (xt_Qv X H.size a) (xt_C X ex σ' H.size) (x_A X H.size))
    (kx : ∀ (H1 : Heap) (locs1 : List Loc) (ce : Cell) (q9 : Addr), x_I X σ' s H1 locs1 → H1[q9]? = some ce → ce.vm = .none → s.vm.findClass (xt_en ex) = some ce.cls → vx_W p l e R s m args below meth c H1 locs1 (cells + 1) (slots + 6) Q (F0 m pc ls rest) q9) : W p l e R s m args below meth c H locs cells slots Q (F0 m pc ls st0) := by
  have hle : s.heap.size ≤ H.size := hI.2.2.2.1
  refine vx_callv (A1 := x_A X H.size) (AX := x_A X H.size) (free := x_A X H.size) hr hI.2.2.2 (fun q _ h => x_A_mono hle q h) (fun q h => x_A_mono hle q h) (fun q _ h => x_A_mono hle q h)
    (fun E ce q9 u t H1 locs1 ht hvm _ hB hz hk hS hce hcv hcl => ?_) (fun u t H1 locs1 ht hvm hw hB hz1 hk1 hS => hw.elim)
  obtain ⟨hE, hB⟩ := hB
  subst hE
  exact kx H1 locs1 ce q9 ⟨hI.1, hI.2.1, by rw [← ht]; exact hB.1, hS⟩ hce hcv hcl
theorem xl_aci (hI : x_I X σ s H locs) (hr : vx_Run p l e R s m args below meth c H locs cells slots 1 6 (F0 m pc ls st0) rest (xt_Qi X H.size a) (xt_C X ex σ' H.size) (x_A X H.size))
    (kx : ∀ (H1 : Heap) (locs1 : List Loc) (ce : Cell) (q9 : Addr), x_I X σ' s H1 locs1 → H1[q9]? = some ce → ce.vm = .none → s.vm.findClass (xt_en ex) = some ce.cls → vx_W p l e R s m args below meth c H1 locs1 (cells + 1) (slots + 6) Q (F0 m pc ls rest) q9) : W p l e R s m args below meth c H locs cells slots Q (F0 m pc ls st0) := by
  have hle : s.heap.size ≤ H.size := hI.2.2.2.1
  refine vx_calli (A1 := x_A X H.size) (AX := x_A X H.size) (free := x_A X H.size) hr hI.2.2.2 (fun q _ h => x_A_mono hle q h) (fun q h => x_A_mono hle q h) (fun q _ h => x_A_mono hle q h)
    (fun E ce q9 u t H1 locs1 ht hvm _ hB hz hk hS hce hcv hcl => ?_) (fun r u t H1 locs1 ht hvm hw hB hz1 hk1 hS => hw.elim)
  obtain ⟨hE, hB⟩ := hB
  subst hE
  exact kx H1 locs1 ce q9 ⟨hI.1, hI.2.1, by rw [← ht]; exact hB.1, hS⟩ hce hcv hcl
def xl_ix (e : Nat) : Nat := if e = 0 then 15 else if e = 1 then 42 else 19
theorem xl_link {e : Nat} (he : e < 3) : Cond.classLink RL (xl_ix e) (xt_en e) ∈ x_U := by
  match e, he with
  | 0, _ => exact x_ut 637 (by decide +kernel) rfl
  | 1, _ => exact x_ut 264 (by decide +kernel) rfl
  | 2, _ => exact x_ut 372 (by decide +kernel) rfl
theorem xl_cast {e : Nat} (he : e < 3) : Cond.castable (xt_en e) (xt_en e) ∈ xt_face := by
  match e, he with
  | 0, _ => exact xt_ft 648 (by decide +kernel) rfl
  | 1, _ => exact xt_ft 274 (by decide +kernel) rfl
  | 2, _ => exact xt_ft 382 (by decide +kernel) rfl
/-- the first handler takes it -/
theorem xl_catch1 (F : x_F p s m args meth c cc nL RL ret) (Z : xt_Zs X s.heap.size s s.heap) {hh : List (Nat × Nat × Nat × Nat)} (ht : c.exceptionTable.toList = tableOf hh) {b hp e0 : Nat} {t : List (Nat × Nat × Nat × Nat)} {ce : Cell} {q9 : Addr} (he : e0 < 3) (hhh : hh = (0, b, hp, xl_ix e0) :: t) (hpc : pc < b)
    (hce : H[q9]? = some ce) (hv : ce.vm = .none) (hcl : s.vm.findClass (xt_en e0) = some ce.cls) (kk : W p l e R s m args below meth c H locs cells slots Q (F0 m hp ls [.ref q9])) : vx_W p l e R s m args below meth c H locs cells slots Q (F0 m pc ls rest) q9 :=
  vx_catch F.2.2.2.1 [] ⟨0, b, hp, xl_ix e0⟩ (tableOf t) (by rw [ht, hhh]; rfl) (fun z hz => nomatch hz) (by simp [covers, hpc]) (by show xl_ix e0 ≠ 0; unfold xl_ix; split <;> (try split) <;> decide) (F.2.2.2.2.1 _ (xl_link he)) (Z.2.2.2.1.at (xl_cast he)) hce hv hcl kk
/-- the second handler takes it: IllegalStateException, past another class -/
theorem xl_catch2 (F : x_F p s m args meth c cc nL RL ret) (Z : xt_Zs X s.heap.size s s.heap) {hh : List (Nat × Nat × Nat × Nat)} (ht : c.exceptionTable.toList = tableOf hh) {b b1 h1 hp e0 : Nat} {t : List (Nat × Nat × Nat × Nat)} {ce : Cell} {q9 : Addr} (he : e0 < 2) (hhh : hh = (0, b1, h1, xl_ix e0) :: (0, b, hp, xl_ix 2) :: t) (hpc : pc < b)
    (hce : H[q9]? = some ce) (hv : ce.vm = .none) (hcl : s.vm.findClass (xt_en 2) = some ce.cls) (kk : W p l e R s m args below meth c H locs cells slots Q (F0 m hp ls [.ref q9])) : vx_W p l e R s m args below meth c H locs cells slots Q (F0 m pc ls rest) q9 :=
  vx_catch F.2.2.2.1 [⟨0, b1, h1, xl_ix e0⟩] ⟨0, b, hp, xl_ix 2⟩ (tableOf t) (by rw [ht, hhh]; rfl) (fun z hz => by
    cases List.mem_singleton.mp hz
    refine Or.inr ⟨by show xl_ix e0 ≠ 0; unfold xl_ix; split <;> (try split) <;> decide, xt_en e0, F.2.2.2.2.1 _ (xl_link (by omega)), ?_⟩
    match e0, he with
    | 0, _ => exact Z.2.2.2.2.1
    | 1, _ => exact Z.2.2.2.2.2) (by simp [covers, hpc]) (show xl_ix 2 ≠ 0 by decide) (F.2.2.2.2.1 _ (xl_link (e := 2) (by decide))) (Z.2.2.2.1.at (xl_cast (e := 2) (by decide))) hce hv hcl kk
theorem xl_iret (F : x_F p s m args meth c cc nL own (some .int)) (hI : x_I X σ s H locs) (h1 : cells ≤ 1) (h2 : slots ≤ 6) {v : Int32} (hdg : decode cc pc = .ok (.ireturn, 1)) : W p l e R s m args below meth c H locs cells slots (MQ below (x_Qi X v σ s.heap.size) args s 1 6 (x_A X s.heap.size)) (F0 m pc ls [.int v]) :=
  W.widen h1 h2 (x_iret F hI hdg)
theorem xl_lret (F : x_F p s m args meth c cc nL own (some .long)) (hI : x_I X σ s H locs) (h1 : cells ≤ 1) (h2 : slots ≤ 6) {v : Int64} (hdg : decode cc pc = .ok (.lreturn, 1)) : W p l e R s m args below meth c H locs cells slots (MQ below (x_Ql X v σ s.heap.size) args s 1 6 (x_A X s.heap.size)) (F0 m pc ls [.long v]) :=
  W.widen h1 h2 (x_lret F hI hdg)
end XLR
