/-! ===== making the objects ===== -/
theorem xc_P_iff {D : va_G} {cl : List vw_C} {ws : va_W} {H : Heap} : va_P D cl ws H ↔ ∀ q ∈ ws, va_at D cl q H :=
  ⟨fun h q hq => by obtain ⟨k, hk⟩ := List.getElem?_of_mem hq; exact h k q hk, fun h k q hk => h q (List.mem_of_getElem? hk)⟩
theorem xc_D_iff {A : Nat → Prop} {ws : va_W} : va_D A ws ↔ (ws.map Prod.fst).Nodup ∧ ∀ q ∈ ws, A q.1 := by
  constructor
  · intro h
    refine ⟨?_, fun q hq => by obtain ⟨k, hk⟩ := List.getElem?_of_mem hq; exact h.2 k q hk⟩
    rw [List.Nodup, List.pairwise_iff_getElem]
    intro i j hi hj hij he
    rw [List.length_map] at hi hj
    simp only [List.getElem_map] at he
    have := h.1 i j _ _ (List.getElem?_eq_getElem hi) (List.getElem?_eq_getElem hj) he
    omega
  · intro h
    refine ⟨fun i j p q hi hj he => ?_, fun k q hk => h.2 q (List.mem_of_getElem? hk)⟩
    have h1 : (ws.map Prod.fst)[i]? = some p.1 := by rw [List.getElem?_map, hi]; rfl
    have h2 : (ws.map Prod.fst)[j]? = some p.1 := by rw [List.getElem?_map, hj, he]; rfl
    exact (List.getElem?_inj (List.getElem?_eq_some_iff.mp h1).1 h.1).mp (h1.trans h2.symm)
theorem xc_P_perm {D : va_G} {cl : List vw_C} {ws ws' : va_W} {H : Heap} (h : va_P D cl ws H) (hp : ws.Perm ws') : va_P D cl ws' H := xc_P_iff.mpr (fun q hq => xc_P_iff.mp h q (hp.mem_iff.mpr hq))
theorem xc_D_perm {A : Nat → Prop} {ws ws' : va_W} (h : va_D A ws) (hp : ws.Perm ws') : va_D A ws' := by
  obtain ⟨h1, h2⟩ := xc_D_iff.mp h
  exact xc_D_iff.mpr ⟨(hp.map Prod.fst).nodup_iff.mp h1, fun q hq => h2 q (hp.mem_iff.mpr hq)⟩
theorem xc_arr {cA : ClassId} {n : Nat} {f g : Nat → Value} (h : ∀ i, i < n → g i = f i) : arrV cA n g = arrV cA n f := by
  unfold arrV
  congr 1
  apply Array.ext
  · simp
  · intro i h1 h2
    simp at h1 h2 ⊢
    exact h i (by omega)
/-- what a constructor changes -/
def xc_A (a sz : Nat) : Nat → Prop := fun q => q = a ∨ sz ≤ q
theorem xc_join {A : Nat → Prop} {D : va_G} {cl : List vw_C} {q0 : Nat} {e : va_E} {ws w1 : va_W} {H H1 : Heap} (hP : va_P D cl ((q0, e) :: ws) H) (hD : va_D A ((q0, e) :: ws)) (hA : ∀ q, H.size ≤ q → A q) (hk : ∀ q : Nat, q < H.size → ¬ xc_A q0 H.size q → H1[q]? = H[q]?) (hP1 : va_P D cl w1 H1) (hD1 : va_D (xc_A q0 H.size) w1) : va_P D cl (w1 ++ ws) H1 ∧ va_D A (w1 ++ ws) := by
  obtain ⟨n1, a1⟩ := xc_D_iff.mp hD
  obtain ⟨n2, a2⟩ := xc_D_iff.mp hD1
  have p1 := xc_P_iff.mp hP
  have p2 := xc_P_iff.mp hP1
  rw [List.map_cons, List.nodup_cons] at n1
  have hlt : ∀ q ∈ ws, q.1 < H.size := fun q hq => (p1 q (List.mem_cons_of_mem _ hq)).lt
  have hne : ∀ q ∈ ws, q.1 ≠ q0 := fun q hq he => n1.1 (by show q0 ∈ ws.map Prod.fst; rw [← he]; exact List.mem_map_of_mem (f := Prod.fst) hq)
  constructor
  · refine xc_P_iff.mpr (fun q hq => ?_)
    rcases List.mem_append.mp hq with h | h
    · exact p2 q h
    · refine (p1 q (List.mem_cons_of_mem _ h)).kept (hk _ (hlt q h) ?_)
      rintro (h9 | h9)
      · exact hne q h h9
      · exact absurd (hlt q h) (Nat.not_lt.mpr h9)
  · refine xc_D_iff.mpr ⟨?_, fun q hq => ?_⟩
    · rw [List.map_append, List.nodup_append]
      refine ⟨n2, n1.2, fun x hx y hy he => ?_⟩
      obtain ⟨p, hp, rfl⟩ := List.mem_map.mp hx
      obtain ⟨q, hq, rfl⟩ := List.mem_map.mp hy
      rcases a2 p hp with h9 | h9
      · exact hne q hq (he.symm.trans h9)
      · have := hlt q hq
        have : p.1 = q.1 := he
        omega
    · rcases List.mem_append.mp hq with h | h
      · rcases a2 q h with h9 | h9
        · rw [h9]; exact a1 (q0, e) List.mem_cons_self
        · exact hA _ h9
      · exact a1 q (List.mem_cons_of_mem _ h)
def x_fill : Nat → Int32 → (Nat → Int32)
  | 0, _ => fun _ => 0
  | n + 1, v => upd (x_fill n v) n v
theorem x_fill_at (n : Nat) (v : Int32) (i : Nat) : x_fill n v i = if i < n then v else 0 := by
  induction n with
  | zero => rfl
  | succ n ih =>
    show (if i = n then v else x_fill n v i) = _
    rw [ih]
    by_cases h : i = n
    · rw [if_pos h, if_pos (by omega)]
    · by_cases h2 : i < n
      · rw [if_neg h, if_pos h2, if_pos (by omega)]
      · rw [if_neg h, if_neg h2, if_neg (by omega)]
/-- a house's (or group's) numbers at the start -/
def x_h0 : x_H := fun k => match k with
  | 2 => upd (upd (upd (upd (fun _ => 0) 0 512) 1 60) 2 10) 3 50
  | 6 => x_fill 12 (-1)
  | 7 => x_fill 12 (-1)
  | 13 => x_fill 16 (-1)
  | 16 => x_fill 16 (-1)
  | 17 => x_fill 12 (-1)
  | _ => fun _ => 0
def x_s0 : x_S := fun j => match j with
  | 10 => fun k => match k with
    | 34 => fun i => Int32.ofNat (i + 2)
    | 35 => fun i => Int32.ofNat (i + 8)
    | _ => fun _ => 0
  | _ => x_h0
/-- cells at their addresses, by their ids -/
def xc_w (Y : x_T) (G : Nat → Nat → Nat) (σ : x_S) (ids : List (Nat × Nat)) : va_W := ids.map (fun q => (G q.1 q.2, x_cell (Y.1, Y.2.1, G) q.1 q.2 (σ q.1 q.2)))
def xc_Pc (Y : x_T) (a : Nat) (e : va_E) (sz : Nat) : Array Value → State → Prop := va_Pc [.ref a] (fun U => U.heap.size = sz ∧ va_P Y.1 vwCl [(a, e)] U.heap ∧ va_K Y.1 vwCl (x_tys Y) U ∧ x_Ns U ∧ va_AO RX2 U)
theorem xc_Pc_blind {Y : x_T} {a : Nat} {e : va_E} {sz : Nat} : FrameBlind (xc_Pc Y a e sz) := fun a U g mk q => ⟨q.1, q.2.1, q.2.2.1, va_K.moved (u := U) (U := U.calling g mk a) (Vm.Alike.refl U.vm) q.2.2.2.1, x_Ns.same (u := U) (U := U.calling g mk a) rfl q.2.2.2.2.1, va_AO.moved (u := U) (U := U.calling g mk a) (Vm.Alike.refl U.vm) q.2.2.2.2.2⟩
def xc_Q (Y : x_T) (a sz : Nat) (q0 : Nat × Nat) (σ : x_S) (ids : List (Nat × Nat)) : Array Value → State → Outcome → State → Prop := va_Qv (fun G : Nat → Nat → Nat => G q0.1 q0.2 = a) (fun G t => va_P Y.1 vwCl (xc_w Y G σ ids) t.heap ∧ va_D (xc_A a sz) (xc_w Y G σ ids)) (xc_A a sz)
def xc_I (Y : x_T) (A : Nat → Prop) (s : State) (H : Heap) (locs : List Loc) (ws : va_W) : Prop := va_K Y.1 vwCl (x_tys Y) s ∧ va_P Y.1 vwCl ws H ∧ va_D A ws ∧ va_S A s.heap H locs ∧ ∀ q, s.heap.size ≤ q → A q
theorem xc_I.perm {Y : x_T} {A : Nat → Prop} {s : State} {H : Heap} {locs : List Loc} {ws ws' : va_W} (h : xc_I Y A s H locs ws) (hp : ws.Perm ws') : xc_I Y A s H locs ws' := ⟨h.1, xc_P_perm h.2.1 hp, xc_D_perm h.2.2.1 hp, h.2.2.2⟩
theorem xc_begin {p : Program} {l : Launch} {y : MethodName} {cc : ByteArray} {maxL : Nat} {ret : Option FieldType} {rm : Room} {e : Env} {s : State} {m : MethodId} {args : Array Value} {below : List Frame} {meth : Method} {c : Code} {s₁ : State} {Y : x_T} {a : Nat} {e0 : va_E} {sz : Nat}
    (B : BodyLoose p l y (headSpec (x_ws y cc maxL ret) rm) cc maxL ret e s m args below meth c s₁) (hml : c.maxLocals = maxL) (hv : xc_Pc Y a e0 sz args s) (hn : y.name = "<init>") : x_F p s m args meth c cc maxL y.cls ret ∧ va_AO RX2 s ∧ meth.name = "<init>" ∧ xc_I Y (xc_A a s.heap.size) s s.heap [] [(a, e0)] ∧ args = ([.ref a] : List Value).toArray ∧ s.heap.size = sz := by
  obtain ⟨h1, h2, h3, h4, h5, h6⟩ := hv
  have hts := atoms_spec (ws := x_ws y cc maxL ret) B.pre
  refine ⟨⟨B.exec, B.bytes, hml, findClass_of_methodNamed B.named, fun w hw => hts w (List.mem_cons_of_mem _ hw), h5, B.returns, B.notSynchronized⟩, h6, (name_of_methodNamed B.named B.method).1.trans hn, ⟨h4, h3, ?_, va_S.rf, fun q hq => Or.inr hq⟩, h1, h2⟩
  refine xc_D_iff.mpr ⟨by simp, fun q hq => ?_⟩
  rw [List.mem_singleton.mp hq]
  exact Or.inl rfl
section XCR
variable {p : Program} {l : Launch} {e : Env} {R : Room} {s : State} {m : MethodId} {args : Array Value} {below : List Frame} {meth : Method} {c : Code} {H : Heap} {locs : List Loc} {cells slots : Nat} {Q : State → Prop}
variable {cc : ByteArray} {nL : Nat} {own : String} {ret : Option FieldType} {pc : Nat} {ls : Array Slot} {rest : List Value} {Y : x_T} {A : Nat → Prop} {x : Nat × va_E} {ws ws' : va_W}
/-- a new row of numbers: it stands second -/
theorem xc_newa (F : x_F p s m args meth c cc nL own ret) (hI : xc_I Y A s H locs (x :: ws)) {atype : ArrayType} {ty : FieldType} (hty : newarray.typeOf atype = ty) (harr : Cond.arrayClass (newarray.typeOf atype) ∈ x_U) (t0 : Nat) {cA : ClassId} (ht : (x_tys Y)[t0]? = some (cA, ty)) (hprim : ∀ C, ty ≠ .object C) {n : Int32} {N' : Nat} {a0 : vp_A} (ha : ∀ cA : ClassId, vp_cell cA a0 = arrV cA N' (fun _ => defaultValue ty)) (hn : ¬ n < 0) (hN : n.toNatClampNeg = N') (hbytes : N' * componentBytes ty ≤ 536870912) (hcells : cells + 1 ≤ R.cells) (hslots : slots + N' ≤ R.slots) (hdg : decode cc pc = .ok (.newarray atype, 2))
    (kk : ∀ (q : Nat) (H1 : Heap), xc_I Y A s H1 locs (x :: (q, .inl (cA, a0)) :: ws) → W p l e R s m args below meth c H1 locs (cells + 1) (slots + N') Q (F0 m (pc + 2) ls (.ref q :: rest))) : W p l e R s m args below meth c H locs cells slots Q (F0 m pc ls (.int n :: rest)) := by
  obtain ⟨hK, hP, hD, hS, hA⟩ := hI
  refine va_newa F.1 F.2.1 (F.2.2.2.2.1 _ harr) hty hK hP hD hS hA ha hn hN hbytes hcells hslots hdg (fun q cA' H1 k1 k2 k3 k4 => ?_)
  have e1 := (hK.2 t0 _ ht).2
  have e2 := (k1.2 (x_tys Y).length (cA', ty) (by rw [List.getElem?_append_right (Nat.le_refl _), Nat.sub_self]; rfl)).2
  have he : cA' = cA := by
    cases ty <;> first | exact absurd rfl (hprim _) | exact Option.some.inj (e2.symm.trans e1)
  subst he
  have hp : ((x :: ws) ++ [(q, .inl (cA', a0))] : va_W).Perm (x :: (q, .inl (cA', a0)) :: ws) := (List.perm_append_singleton _ ws).cons x
  exact kk q H1 ⟨hK, xc_P_perm k2 hp, xc_D_perm k3 hp, k4, hA⟩
/-- a new row of references -/
theorem xc_newq (F : x_F p s m args meth c cc nL own ret) (hO : va_AO RX2 s) (hI : xc_I Y A s H locs (x :: ws)) {index : Nat} (hlink : Cond.classLink own index RX2 ∈ x_U) {n : Int32} {N' : Nat} (hn : ¬ n < 0) (hN : n.toNatClampNeg = N') (hbytes : N' * 4 ≤ 536870912) (hcells : cells + 1 ≤ R.cells) (hslots : slots + N' ≤ R.slots) (hdg : decode cc pc = .ok (.anewarray index, 3))
    (kk : ∀ (q : Nat) (H1 : Heap), xc_I Y A s H1 locs (x :: (q, .inl (Y.2.1 3, N', .inr (.inr (.inr (.inr (fun _ => none)))))) :: ws) → W p l e R s m args below meth c H1 locs (cells + 1) (slots + N') Q (F0 m (pc + 3) ls (.ref q :: rest))) : W p l e R s m args below meth c H locs cells slots Q (F0 m pc ls (.int n :: rest)) := by
  obtain ⟨hK, hP, hD, hS, hA⟩ := hI
  refine va_newq F.1 F.2.1 F.2.2.2.1 (F.2.2.2.2.1 _ hlink) hO hK hP hD hS hA hn hN hbytes hcells hslots hdg (fun q cA' H1 k1 k2 k3 k4 => ?_)
  obtain ⟨_, _, _, _, _, e1⟩ := (hK.2 3 (Y.2.1 3, .object RX2) rfl).2
  obtain ⟨_, _, _, _, _, e2⟩ := (k1.2 (x_tys Y).length (cA', .object RX2) (by rw [List.getElem?_append_right (Nat.le_refl _), Nat.sub_self]; rfl)).2
  have he : cA' = Y.2.1 3 := Option.some.inj (e2.symm.trans e1)
  subst he
  have hp : ((x :: ws) ++ [(q, .inl (Y.2.1 3, N', .inr (.inr (.inr (.inr (fun _ => none))))))] : va_W).Perm (x :: (q, .inl (Y.2.1 3, N', .inr (.inr (.inr (.inr (fun _ => none)))))) :: ws) := (List.perm_append_singleton _ ws).cons x
  exact kk q H1 ⟨hK, xc_P_perm k2 hp, xc_D_perm k3 hp, k4, hA⟩
/-- a new object: it stands first -/
theorem xc_new (F : x_F p s m args meth c cc nL own ret) (hI : xc_I Y A s H locs ws) {C : String} {T : u_T} {N ci index : Nat} (hin : ∀ w ∈ u_ws C T N, w ∈ x_U) (ty : Nat → FieldType) (hty : ∀ k, k < N → parseFieldDescriptor (T k).2.2.1 = some (ty k)) (hcl : Cond.classLink own index C ∈ x_U) (hinst : Cond.instantiable C N ∈ x_U) (hini : Cond.initialized C ∈ x_U) (hc : vwCl[ci]? = some (C, T, N)) {fs : List Value} (hfs : ∀ j, j < N → defaultValue (ty j) = vp_V fs j) (hcells : cells + 1 ≤ R.cells) (hslots : slots + N ≤ R.slots) (hdg : decode cc pc = .ok (.new index, 3))
    (kk : ∀ (q : Nat) (H1 : Heap), xc_I Y A s H1 locs ((q, .inr (ci, fs)) :: ws) → W p l e R s m args below meth c H1 locs (cells + 1) (slots + N) Q (F0 m (pc + 3) ls (.ref q :: rest))) : W p l e R s m args below meth c H locs cells slots Q (F0 m pc ls rest) := by
  obtain ⟨hK, hP, hD, hS, hA⟩ := hI
  refine va_new F.1 F.2.1 F.2.2.2.2.1 hin ty hty F.2.2.2.1 (F.2.2.2.2.1 _ hcl) (F.2.2.2.2.1 _ hinst) (F.2.2.2.2.1 _ hini) hK hP hD hS hA hc hfs hcells hslots hdg (fun q H1 k2 k3 k4 => ?_)
  have hp : (ws ++ [(q, .inr (ci, fs))] : va_W).Perm ((q, .inr (ci, fs)) :: ws) := List.perm_append_singleton _ ws
  exact kk q H1 ⟨hK, xc_P_perm k2 hp, xc_D_perm k3 hp, k4, hA⟩
theorem xc_putF (F : x_F p s m args meth c cc nL own ret) (hn0 : meth.name = "<init>") {ref C : String} {T : u_T} {N ci index i a : Nat} {fs : List Value} {v : Value} {ty : FieldType} (hI : xc_I Y A s H locs ws) (q0 : Nat) (he : ws[q0]? = some (a, .inr (ci, fs))) (ty0 : Nat → FieldType) (hc : vwCl[ci]? = some (C, T, N)) (hin : ∀ w ∈ u_ws C T N, w ∈ x_U) (hty : ∀ k, k < N → parseFieldDescriptor (T k).2.2.1 = some (ty0 k)) (hnm : ∀ a, a < N → ∀ b, b < N → a ≠ b → (T a).2.1 ≠ (T b).2.1) (hi : i < N) (hlink : Cond.fieldLink own index ref (T i).2.1 (T i).2.2.1 ∈ x_U) (href : (T i).1 = ref) (hdecl : (T i).1 = own) (hfin : (T i).2.2.2 = true) (hd : parseFieldDescriptor (T i).2.2.1 = some ty) (hn : narrow ty v = v) (hfit : fits ty v = true) (hlen : i < fs.length) (hset : ws.set q0 (a, .inr (ci, fs.set i v)) = ws') (hdg : decode cc pc = .ok (.putfield index, 3))
    (kk : ∀ (H1 : Heap) (locs1 : List Loc), xc_I Y A s H1 locs1 ws' → W p l e R s m args below meth c H1 locs1 cells slots Q (F0 m (pc + 3) ls rest)) : W p l e R s m args below meth c H locs cells slots Q (F0 m pc ls (v :: .ref a :: rest)) := by
  obtain ⟨hK, hP, hD, hS, hA⟩ := hI
  subst href
  refine va_putF F.1 F.2.1 F.2.2.2.2.1 hin ty0 hty hnm F.2.2.2.1 hK hP hD hS q0 he hc i hi (F.2.2.2.2.1 _ hlink) (fun _ h => h) hfin hn0 hdecl hd hn hfit hlen hdg (fun H1 locs1 h1 h2 h3 => kk H1 locs1 ⟨hK, ?_, ?_, h3, hA⟩)
  · rw [hset] at h1; exact h1
  · rw [hset] at h2; exact h2
theorem xc_put (F : x_F p s m args meth c cc nL own ret) {ref C : String} {T : u_T} {N ci index i a : Nat} {fs : List Value} {v : Value} {ty : FieldType} (hI : xc_I Y A s H locs ws) (q0 : Nat) (he : ws[q0]? = some (a, .inr (ci, fs))) (ty0 : Nat → FieldType) (hc : vwCl[ci]? = some (C, T, N)) (hin : ∀ w ∈ u_ws C T N, w ∈ x_U) (hty : ∀ k, k < N → parseFieldDescriptor (T k).2.2.1 = some (ty0 k)) (hnm : ∀ a, a < N → ∀ b, b < N → a ≠ b → (T a).2.1 ≠ (T b).2.1) (hi : i < N) (hlink : Cond.fieldLink own index ref (T i).2.1 (T i).2.2.1 ∈ x_U) (href : (T i).1 = ref) (hfin : (T i).2.2.2 = false) (hd : parseFieldDescriptor (T i).2.2.1 = some ty) (hn : narrow ty v = v) (hfit : fits ty v = true) (hlen : i < fs.length) (hset : ws.set q0 (a, .inr (ci, fs.set i v)) = ws') (hdg : decode cc pc = .ok (.putfield index, 3))
    (kk : ∀ (H1 : Heap) (locs1 : List Loc), xc_I Y A s H1 locs1 ws' → W p l e R s m args below meth c H1 locs1 cells slots Q (F0 m (pc + 3) ls rest)) : W p l e R s m args below meth c H locs cells slots Q (F0 m pc ls (v :: .ref a :: rest)) := by
  obtain ⟨hK, hP, hD, hS, hA⟩ := hI
  subst href
  refine va_put F.1 F.2.1 F.2.2.2.2.1 hin ty0 hty hnm F.2.2.2.1 hK hP hD hS q0 he hc i hi (F.2.2.2.2.1 _ hlink) (fun _ h => h) hfin hd hn hfit hlen hdg (fun H1 locs1 h1 h2 h3 => kk H1 locs1 ⟨hK, ?_, ?_, h3, hA⟩)
  · rw [hset] at h1; exact h1
  · rw [hset] at h2; exact h2
theorem xc_get (F : x_F p s m args meth c cc nL own ret) {ref C : String} {T : u_T} {N ci index i a : Nat} {fs : List Value} {v : Value} (hI : xc_I Y A s H locs ws) (q0 : Nat) (he : ws[q0]? = some (a, .inr (ci, fs))) (hc : vwCl[ci]? = some (C, T, N)) (hin : ∀ w ∈ u_ws C T N, w ∈ x_U) (hi : i < N) (hlink : Cond.fieldLink own index ref (T i).2.1 (T i).2.2.1 ∈ x_U) (href : (T i).1 = ref) (hv : fs[i]? = some v) (hdg : decode cc pc = .ok (.getfield index, 3))
    (kk : W p l e R s m args below meth c H locs cells slots Q (F0 m (pc + 3) ls (v :: rest))) : W p l e R s m args below meth c H locs cells slots Q (F0 m pc ls (.ref a :: rest)) := by
  subst href
  exact va_get F.1 F.2.1 F.2.2.2.2.1 hin F.2.2.2.1 hI.1 hI.2.1 q0 he hc i hi (F.2.2.2.2.1 _ hlink) (fun _ h => h) hv hdg kk
theorem xc_iast (F : x_F p s m args meth c cc nL own ret) (hI : xc_I Y A s H locs ws) (q0 : Nat) {a n : Nat} {f : Nat → Int32} (he : ws[q0]? = some (a, .inl (Y.2.1 0, n, .inl f))) {i v : Int32} (hin : x_in i n) (hset : ws.set q0 (a, .inl (Y.2.1 0, n, .inl (upd f i.toNatClampNeg v))) = ws') (hdg : decode cc pc = .ok (.iastore, 1))
    (kk : ∀ (H1 : Heap) (locs1 : List Loc), xc_I Y A s H1 locs1 ws' → W p l e R s m args below meth c H1 locs1 cells slots Q (F0 m (pc + 1) ls rest)) : W p l e R s m args below meth c H locs cells slots Q (F0 m pc ls (.int v :: .int i :: .ref a :: rest)) := by
  obtain ⟨hK, hP, hD, hS, hA⟩ := hI
  refine va_iast F.1 F.2.1 hK hP hD hS q0 0 he rfl hin hdg (fun H1 locs1 h1 h2 h3 => kk H1 locs1 ⟨hK, ?_, ?_, h3, hA⟩)
  · rw [hset] at h1; exact h1
  · rw [hset] at h2; exact h2
/-- a house into a row of houses, which stands second behind the head -/
theorem xc_astq (F : x_F p s m args meth c cc nL own ret) (hI : xc_I Y A s H locs ws) (q0 qk : Nat) {a n v : Nat} {vs : List Value} {f : Nat → Option Nat} (he : ws[q0]? = some (a, .inl (Y.2.1 3, n, .inr (.inr (.inr (.inr f)))))) (hv : ws[qk]? = some (v, .inr (2, vs))) {i : Int32} (hin : x_in i n) (hset : ws.set q0 (a, .inl (Y.2.1 3, n, .inr (.inr (.inr (.inr (va_up f i.toNatClampNeg (some v))))))) = ws') (hdg : decode cc pc = .ok (.aastore, 1))
    (kk : ∀ (H1 : Heap) (locs1 : List Loc), xc_I Y A s H1 locs1 ws' → W p l e R s m args below meth c H1 locs1 cells slots Q (F0 m (pc + 1) ls rest)) : W p l e R s m args below meth c H locs cells slots Q (F0 m pc ls (.ref v :: .int i :: .ref a :: rest)) := by
  obtain ⟨hK, hP, hD, hS, hA⟩ := hI
  refine va_astq F.1 F.2.1 hK hP hD hS q0 3 qk 2 (r := (RX2, TX2, 11)) he rfl hv rfl hin hdg (fun H1 locs1 h1 h2 h3 => kk H1 locs1 ⟨hK, ?_, ?_, h3, hA⟩)
  · rw [hset] at h1; exact h1
  · rw [hset] at h2; exact h2
theorem xc_refs (hI : xc_I Y A s H locs ws) (q0 : Nat) {a n : Nat} {cA : ClassId} {f g : Nat → Option Nat} (he : ws[q0]? = some (a, .inl (cA, n, .inr (.inr (.inr (.inr f)))))) (hfg : ∀ i, i < n → g i = f i) (hset : ws.set q0 (a, .inl (cA, n, .inr (.inr (.inr (.inr g))))) = ws') : xc_I Y A s H locs ws' := by
  obtain ⟨hK, hP, hD, hS, hA⟩ := hI
  have h1 : va_at Y.1 vwCl (a, .inl (cA, n, .inr (.inr (.inr (.inr g))))) H := by
    have h2 : H[a]? = some (vp_cell cA (n, .inr (.inr (.inr (.inr f))))) := hP q0 _ he
    show H[a]? = some (vp_cell cA (n, .inr (.inr (.inr (.inr g)))))
    rw [h2, vp_cell_q, vp_cell_q, xc_arr (f := fun j => va_rf (f j)) (g := fun j => va_rf (g j)) (fun i hi => by rw [hfg i hi])]
  subst hset
  exact ⟨hK, hP.set hD he h1 (fun _ _ => rfl), hD.set he, hS, hA⟩
theorem xc_objInit (F : x_F p s m args meth c cc nL own ret) {index a : Nat} (h1 : Cond.methodLink own index objectInit ∈ x_U) (h2 : Cond.instanceMethod objectInit ∈ x_U) (h3 : Cond.code objectInit ⟨#[0xb1]⟩ 1 none ∈ x_U) (hsize : ls.size = nL) (hR : 1 ≤ R.frames ∧ 20 ≤ R.locals) (hW : (rest.map fun v => v.category).sum ≤ 8) (hdg : decode cc pc = .ok (.invokespecial index, 3)) (kk : W p l e R s m args below meth c H locs cells slots Q (F0 m (pc + 3) ls rest)) : W p l e R s m args below meth c H locs cells slots Q (F0 m pc ls (.ref a :: rest)) := by
  have h9 : 2 * (F0 m pc ls rest).monitorRoom + (rest.map fun v => v.category).sum ≤ 8 := lv_room hW
  exact W.objInit F.1 F.2.1 F.2.2.2.1 (F.2.2.2.2.1 _ h1) (F.2.2.2.2.1 _ h2) (F.2.2.2.2.1 _ h3) rfl (hsize.trans F.2.2.1.symm) rfl hdg hR.1 (Nat.le_trans (Nat.add_le_add_right h9 12) hR.2) kk
variable {y : MethodName} {bytes : ByteArray} {maxL index q mc ms : Nat} {rm : Room} {host : String} {e0 : va_E} {q0 : Nat × Nat} {σ : x_S} {ids : List (Nat × Nat)}
theorem xc_preI (F : x_F p s m args meth c cc nL own ret) (hO : va_AO RX2 s) (hI : xc_I Y A s H locs ((q, e0) :: ws)) : PreS s H (xc_Pc Y q e0 H.size) (.ref q :: []) :=
  ⟨xc_Pc_blind, fun U hU hW => ⟨rfl, by rw [hU], by rw [hU]; exact xc_P_iff.mpr (fun x hx => by rw [List.mem_singleton.mp hx]; exact xc_P_iff.mp hI.2.1 _ List.mem_cons_self), va_K.moved hW.alike hI.1, F.2.2.2.2.2.1.warm hW, va_AO.moved hW.alike hO⟩⟩
/-- a constructor has run over the object that stands first -/
theorem xc_made (hI : xc_I Y A s H locs ((q, e0) :: ws)) {st0 : List Value} {a : Array Value} (hr : va_Run p l e R s m args below meth c H locs cells slots mc ms (F0 m pc ls st0) rest (xc_Q Y q H.size q0 σ ids a) (xc_A q H.size))
    (kk : ∀ (G : Nat → Nat → Nat) (H1 : Heap) (locs1 : List Loc), G q0.1 q0.2 = q → xc_I Y A s H1 locs1 (xc_w Y G σ ids ++ ws) → W p l e R s m args below meth c H1 locs1 (cells + mc) (slots + ms) Q (F0 m (pc + 3) ls rest)) : W p l e R s m args below meth c H locs cells slots Q (F0 m pc ls st0) := by
  obtain ⟨hK, hP, hD, hS, hA⟩ := hI
  have hq : A q := (xc_D_iff.mp hD).2 (q, e0) List.mem_cons_self
  have hAH : ∀ x, H.size ≤ x → A x := fun x h => hA x (Nat.le_trans hS.1 h)
  have hf : ∀ x, xc_A q H.size x → A x := fun x h => h.elim (fun h => by rw [h]; exact hq) (hAH x)
  refine va_callv (A1 := xc_A q H.size) (free := xc_A q H.size) hr hS (fun x _ h => hf x h) hf (fun G t H1 locs1 ht hvm hw hB hz1 hk1 hS1 => ?_)
  obtain ⟨hB1, hB2⟩ := hB
  rw [ht] at hB1
  obtain ⟨j1, j2⟩ := xc_join hP hD hAH hk1 hB1 hB2
  exact kk G H1 locs1 hw ⟨hK, j1, j2, hS1, hA⟩
theorem xc_runI (F : x_F p s m args meth c cc nL own ret) (hO : va_AO RX2 s) (hI : xc_I Y A s H locs ((q, e0) :: ws)) {Qc : Array Value → State → Outcome → State → Prop} (hM : Met l y (x_ws y bytes maxL none) rm (xc_Pc Y q e0 H.size) Qc mc ms (xc_A q H.size)) (hlink : Cond.methodLink own index y ∈ x_U) (hcode : Cond.code y bytes maxL none ∈ x_U) (hini : Cond.initialized y.cls ∈ x_U) (hinst : Cond.instanceMethod y ∈ x_U) (hy : y.name = "<init>") (hd : y.cls ≠ "java/lang/invoke/MethodHandle" ∧ y.cls ≠ "java/lang/invoke/VarHandle" ∧ (parseMethodDescriptor y.desc).map (fun d => d.parameters.length) = some 0) (hR : rm.frames + 1 ≤ R.frames ∧ 8 + (maxL + 11) + rm.locals ≤ R.locals) (hz : rm.cells = mc ∧ rm.slots = ms) (hsize : ls.size = nL) (hW : (rest.map fun v => v.category).sum ≤ 8) (hdg : decode cc pc = .ok (.invokespecial index, 3)) (hf : cells + mc ≤ R.cells ∧ slots + ms ≤ R.slots) :
    va_Run p l e R s m args below meth c H locs cells slots mc ms (F0 m pc ls (.ref q :: rest)) rest (Qc ([Value.ref q] : List Value).toArray) (xc_A q H.size) :=
  va_runI (As := []) (x_fix F) hM (cwI 0 F.2.2.2.2.1 (x_gU hcode) rfl hz.1 hz.2 (F.2.2.2.2.1 _ hini) (F.2.2.2.2.1 _ hlink) (F.2.2.2.2.1 _ hinst) hy hd hR) (xc_preI F hO hI) rfl rfl hsize rfl (lv_room hW) hdg hf
theorem xc_runIN (F : x_F p s m args meth c cc nL own ret) (hO : va_AO RX2 s) (hI : xc_I Y A s H locs ((q, e0) :: ws)) {Qc : Array Value → State → Outcome → State → Prop} (hM : Met l y (x_ws y bytes maxL none) rm (xc_Pc Y q e0 H.size) Qc mc ms (xc_A q H.size)) (hlink : Cond.methodLinkNest own index y host ∈ x_nest) (hcode : Cond.code y bytes maxL none ∈ x_U) (hini : Cond.initialized y.cls ∈ x_U) (hinst : Cond.instanceMethod y ∈ x_U) (hy : y.name = "<init>") (hd : y.cls ≠ "java/lang/invoke/MethodHandle" ∧ y.cls ≠ "java/lang/invoke/VarHandle" ∧ (parseMethodDescriptor y.desc).map (fun d => d.parameters.length) = some 0) (hR : rm.frames + 1 ≤ R.frames ∧ 8 + (maxL + 11) + rm.locals ≤ R.locals) (hz : rm.cells = mc ∧ rm.slots = ms) (hsize : ls.size = nL) (hW : (rest.map fun v => v.category).sum ≤ 8) (hdg : decode cc pc = .ok (.invokespecial index, 3)) (hf : cells + mc ≤ R.cells ∧ slots + ms ≤ R.slots) :
    va_Run p l e R s m args below meth c H locs cells slots mc ms (F0 m pc ls (.ref q :: rest)) rest (Qc ([Value.ref q] : List Value).toArray) (xc_A q H.size) :=
  va_runIN (As := []) (x_fix F) hM ⟨va_cnB 0 F.2.2.2.2.1 (x_gU hcode) rfl hz.1 hz.2 (F.2.2.2.2.2.1 _ hlink) (F.2.2.2.2.1 _ hini) hd hR, hy, F.2.2.2.2.1 _ hinst⟩ (xc_preI F hO hI) rfl rfl hsize rfl (lv_room hW) hdg hf
theorem xc_ret (F : x_F p s m args meth c cc nL own none) {a : Nat} (hI : xc_I Y (xc_A a s.heap.size) s H locs ws) (G : Nat → Nat → Nat) (hq : G q0.1 q0.2 = a) (hw : ws = xc_w Y G σ ids) (hc : cells ≤ mc) (hs : slots ≤ ms) (hdg : decode cc pc = .ok (.return_, 1)) : W p l e R s m args below meth c H locs cells slots (MQ below (xc_Q Y a s.heap.size q0 σ ids) args s mc ms (xc_A a s.heap.size)) (F0 m pc ls []) := by
  subst hw
  refine W.widen hc hs ?_
  exact W.vret F.1 F.2.1 F.2.2.2.2.2.2.1 (fun t ht hW => ⟨⟨G, rfl, hq, by rw [ht]; exact hI.2.1, hI.2.2.1⟩, hI.2.2.2.1.F ht⟩) hI.2.2.2.1.2.2 hdg F.2.2.2.2.2.2.2
end XCR
