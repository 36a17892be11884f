section XR
variable {p : Program} {l : Launch} {e : Env} {R : Room} {s : State} {m : MethodId} {args : Array Value} {below : List Frame} {meth : Method} {c : Code} {H : Heap} {locs : List Loc} {cells slots : Nat} {Q : State → Prop}
variable {cc : ByteArray} {nL : Nat} {own : String} {ret : Option FieldType} {pc : Nat} {ls : Array Slot} {rest : List Value} {X : x_T} {σ : x_S} {j k : Nat} {u : x_H}
theorem x_get (F : x_F p s m args meth c cc nL own ret) (hI : x_I X σ s H locs) (hm : (j, k) ∈ x_ids) {ci N i index : Nat} {C ref : String} {T : u_T} {fs : List Value} {v : Value} (hcell : x_cell X j k (σ j k) = .inr (ci, fs)) (hc : vwCl[ci]? = some (C, T, N)) (hin : ∀ w ∈ u_ws C T N, w ∈ x_U) (hi : i < N) (hlink : Cond.fieldLink own index ref (T i).2.1 (T i).2.2.1 ∈ x_U) (href : (T i).1 = ref) (hv : fs[i]? = some v) (hdg : decode cc pc = .ok (.getfield index, 3))
    (kk : W p l e R s m args below meth c H locs cells slots Q (F0 m (pc + 3) ls (v :: rest))) : W p l e R s m args below meth c H locs cells slots Q (F0 m pc ls (.ref (X.2.2 j k) :: rest)) := by
  obtain ⟨q0, hq, -⟩ := wd_at (X := X) σ hm
  subst href
  exact va_get F.1 F.2.1 F.2.2.2.2.1 hin F.2.2.2.1 hI.2.1 hI.2.2.1 q0 (by rw [hq, hcell]) hc i hi (F.2.2.2.2.1 _ hlink) (fun _ h => h) hv hdg kk
theorem xh_get (F : x_F p s m args meth c cc nL own ret) (hI : x_I X (x_sh σ j u) s H locs) (hm : (j, k) ∈ x_ids) {ci N i index : Nat} {C ref : String} {T : u_T} {fs : List Value} {v : Value} (hcell : x_cell X j k (u k) = .inr (ci, fs)) (hc : vwCl[ci]? = some (C, T, N)) (hin : ∀ w ∈ u_ws C T N, w ∈ x_U) (hi : i < N) (hlink : Cond.fieldLink own index ref (T i).2.1 (T i).2.2.1 ∈ x_U) (href : (T i).1 = ref) (hv : fs[i]? = some v) (hdg : decode cc pc = .ok (.getfield index, 3))
    (kk : W p l e R s m args below meth c H locs cells slots Q (F0 m (pc + 3) ls (v :: rest))) : W p l e R s m args below meth c H locs cells slots Q (F0 m pc ls (.ref (X.2.2 j k) :: rest)) :=
  x_get F hI hm (by rw [x_sh_eq]; exact hcell) hc hin hi hlink href hv hdg kk
theorem x_put (F : x_F p s m args meth c cc nL own ret) (hI : x_I X σ s H locs) (hm : (j, k) ∈ x_ids) {ci N i index : Nat} {C ref : String} {T : u_T} {fs : List Value} {v : Value} {w : x_V} {ty : FieldType} (ty0 : Nat → FieldType) (hcell : x_cell X j k (σ j k) = .inr (ci, fs)) (hc : vwCl[ci]? = some (C, T, N)) (hin : ∀ w ∈ u_ws C T N, w ∈ x_U) (hty : ∀ k, k < N → parseFieldDescriptor (T k).2.2.1 = some (ty0 k)) (hnm : ∀ a, a < N → ∀ b, b < N → a ≠ b → (T a).2.1 ≠ (T b).2.1) (hi : i < N) (hlink : Cond.fieldLink own index ref (T i).2.1 (T i).2.2.1 ∈ x_U) (href : (T i).1 = ref) (hfin : (T i).2.2.2 = false) (hd : parseFieldDescriptor (T i).2.2.1 = some ty) (hn : narrow ty v = v) (hfit : fits ty v = true) (hlen : i < fs.length) (hset : x_cell X j k w = .inr (ci, fs.set i v)) (hdg : decode cc pc = .ok (.putfield index, 3))
    (kk : ∀ (H1 : Heap) (locs1 : List Loc), x_I X (x_sh σ j (x_hs (σ j) k w)) s H1 locs1 → W p l e R s m args below meth c H1 locs1 cells slots Q (F0 m (pc + 3) ls rest)) : W p l e R s m args below meth c H locs cells slots Q (F0 m pc ls (v :: .ref (X.2.2 j k) :: rest)) := by
  obtain ⟨q0, hq, hs⟩ := wd_at (X := X) σ hm
  subst href
  refine va_put F.1 F.2.1 F.2.2.2.2.1 hin ty0 hty hnm F.2.2.2.1 hI.2.1 hI.2.2.1 (wd_D hI.1) hI.2.2.2 q0 (by rw [hq, hcell]) hc i hi (F.2.2.2.2.1 _ hlink) (fun _ h => h) hfin hd hn hfit hlen hdg (fun H1 locs1 h1 h2 h3 => kk H1 locs1 ⟨hI.1, hI.2.1, ?_, h3⟩)
  rw [← hset, hs] at h1
  exact h1
theorem xh_put (F : x_F p s m args meth c cc nL own ret) (hI : x_I X (x_sh σ j u) s H locs) (hm : (j, k) ∈ x_ids) {ci N i index : Nat} {C ref : String} {T : u_T} {fs : List Value} {v : Value} {w : x_V} {ty : FieldType} (ty0 : Nat → FieldType) (hcell : x_cell X j k (u k) = .inr (ci, fs)) (hc : vwCl[ci]? = some (C, T, N)) (hin : ∀ w ∈ u_ws C T N, w ∈ x_U) (hty : ∀ k, k < N → parseFieldDescriptor (T k).2.2.1 = some (ty0 k)) (hnm : ∀ a, a < N → ∀ b, b < N → a ≠ b → (T a).2.1 ≠ (T b).2.1) (hi : i < N) (hlink : Cond.fieldLink own index ref (T i).2.1 (T i).2.2.1 ∈ x_U) (href : (T i).1 = ref) (hfin : (T i).2.2.2 = false) (hd : parseFieldDescriptor (T i).2.2.1 = some ty) (hn : narrow ty v = v) (hfit : fits ty v = true) (hlen : i < fs.length) (hset : x_cell X j k w = .inr (ci, fs.set i v)) (hdg : decode cc pc = .ok (.putfield index, 3))
    (kk : ∀ (H1 : Heap) (locs1 : List Loc) (u1 : x_H), u1 = x_hs u k w → x_I X (x_sh σ j u1) s H1 locs1 → W p l e R s m args below meth c H1 locs1 cells slots Q (F0 m (pc + 3) ls rest)) : W p l e R s m args below meth c H locs cells slots Q (F0 m pc ls (v :: .ref (X.2.2 j k) :: rest)) :=
  x_put F hI hm ty0 (by rw [x_sh_eq]; exact hcell) hc hin hty hnm hi hlink href hfin hd hn hfit hlen hset hdg (fun H1 locs1 h => kk H1 locs1 _ rfl (by rw [x_sh_eq, x_sh_sh] at h; exact h))
theorem x_iald (F : x_F p s m args meth c cc nL own ret) (hI : x_I X σ s H locs) (hm : (j, k) ∈ x_ids) {n : Nat} (hc : ∀ v : x_V, x_cell X j k v = .inl (X.2.1 0, n, .inl v)) {i : Int32} (hin : x_in i n) (hdg : decode cc pc = .ok (.iaload, 1))
    (kk : W p l e R s m args below meth c H locs cells slots Q (F0 m (pc + 1) ls (.int (σ j k i.toNatClampNeg) :: rest))) : W p l e R s m args below meth c H locs cells slots Q (F0 m pc ls (.int i :: .ref (X.2.2 j k) :: rest)) := by
  obtain ⟨q0, hq, -⟩ := wd_at (X := X) σ hm
  exact va_iald F.1 F.2.1 hI.2.1 hI.2.2.1 q0 0 (by rw [hq, hc]) rfl hin hdg kk
theorem x_zald (F : x_F p s m args meth c cc nL own ret) (hI : x_I X σ s H locs) (hm : (j, k) ∈ x_ids) {n : Nat} (hc : ∀ v : x_V, x_cell X j k v = .inl (X.2.1 2, n, .inl v)) {i : Int32} (hin : x_in i n) (hdg : decode cc pc = .ok (.baload, 1))
    (kk : W p l e R s m args below meth c H locs cells slots Q (F0 m (pc + 1) ls (.int (σ j k i.toNatClampNeg) :: rest))) : W p l e R s m args below meth c H locs cells slots Q (F0 m pc ls (.int i :: .ref (X.2.2 j k) :: rest)) := by
  obtain ⟨q0, hq, -⟩ := wd_at (X := X) σ hm
  exact va_zald F.1 F.2.1 hI.2.1 hI.2.2.1 q0 2 (by rw [hq, hc]) rfl hin hdg kk
theorem x_cald (F : x_F p s m args meth c cc nL own ret) (hI : x_I X σ s H locs) (hm : (j, k) ∈ x_ids) {n : Nat} (hc : ∀ v : x_V, x_cell X j k v = .inl (X.2.1 1, n, .inl v)) {i : Int32} (hin : x_in i n) (hdg : decode cc pc = .ok (.caload, 1))
    (kk : W p l e R s m args below meth c H locs cells slots Q (F0 m (pc + 1) ls (.int (σ j k i.toNatClampNeg) :: rest))) : W p l e R s m args below meth c H locs cells slots Q (F0 m pc ls (.int i :: .ref (X.2.2 j k) :: rest)) := by
  obtain ⟨q0, hq, -⟩ := wd_at (X := X) σ hm
  exact va_cald F.1 F.2.1 hI.2.1 hI.2.2.1 q0 1 (by rw [hq, hc]) rfl hin hdg kk
theorem x_iast (F : x_F p s m args meth c cc nL own ret) (hI : x_I X σ s H locs) (hm : (j, k) ∈ x_ids) {n : Nat} (hc : ∀ v : x_V, x_cell X j k v = .inl (X.2.1 0, n, .inl v)) {i x : Int32} (hin : x_in i n) (hdg : decode cc pc = .ok (.iastore, 1))
    (kk : ∀ (H1 : Heap) (locs1 : List Loc), x_I X (x_sh σ j (x_hu (σ j) k i.toNatClampNeg x)) s H1 locs1 → W p l e R s m args below meth c H1 locs1 cells slots Q (F0 m (pc + 1) ls rest)) : W p l e R s m args below meth c H locs cells slots Q (F0 m pc ls (.int x :: .int i :: .ref (X.2.2 j k) :: rest)) := by
  obtain ⟨q0, hq, hs⟩ := wd_at (X := X) σ hm
  refine va_iast F.1 F.2.1 hI.2.1 hI.2.2.1 (wd_D hI.1) hI.2.2.2 q0 0 (by rw [hq, hc]) rfl hin hdg (fun H1 locs1 h1 h2 h3 => kk H1 locs1 ⟨hI.1, hI.2.1, ?_, h3⟩)
  rw [← hc, hs] at h1
  exact h1
theorem x_zast (F : x_F p s m args meth c cc nL own ret) (hI : x_I X σ s H locs) (hm : (j, k) ∈ x_ids) {n : Nat} (hc : ∀ v : x_V, x_cell X j k v = .inl (X.2.1 2, n, .inl v)) {i x : Int32} (hin : x_in i n) (hdg : decode cc pc = .ok (.bastore, 1))
    (kk : ∀ (H1 : Heap) (locs1 : List Loc), x_I X (x_sh σ j (x_hu (σ j) k i.toNatClampNeg (vp_nar .boolean x))) s H1 locs1 → W p l e R s m args below meth c H1 locs1 cells slots Q (F0 m (pc + 1) ls rest)) : W p l e R s m args below meth c H locs cells slots Q (F0 m pc ls (.int x :: .int i :: .ref (X.2.2 j k) :: rest)) := by
  obtain ⟨q0, hq, hs⟩ := wd_at (X := X) σ hm
  refine va_zast F.1 F.2.1 hI.2.1 hI.2.2.1 (wd_D hI.1) hI.2.2.2 q0 2 (by rw [hq, hc]) rfl hin hdg (fun H1 locs1 h1 h2 h3 => kk H1 locs1 ⟨hI.1, hI.2.1, ?_, h3⟩)
  rw [← hc, hs] at h1
  exact h1
theorem x_cast (F : x_F p s m args meth c cc nL own ret) (hI : x_I X σ s H locs) (hm : (j, k) ∈ x_ids) {n : Nat} (hc : ∀ v : x_V, x_cell X j k v = .inl (X.2.1 1, n, .inl v)) {i x : Int32} (hin : x_in i n) (hdg : decode cc pc = .ok (.castore, 1))
    (kk : ∀ (H1 : Heap) (locs1 : List Loc), x_I X (x_sh σ j (x_hu (σ j) k i.toNatClampNeg (vp_nar .char x))) s H1 locs1 → W p l e R s m args below meth c H1 locs1 cells slots Q (F0 m (pc + 1) ls rest)) : W p l e R s m args below meth c H locs cells slots Q (F0 m pc ls (.int x :: .int i :: .ref (X.2.2 j k) :: rest)) := by
  obtain ⟨q0, hq, hs⟩ := wd_at (X := X) σ hm
  refine va_cast F.1 F.2.1 hI.2.1 hI.2.2.1 (wd_D hI.1) hI.2.2.2 q0 1 (by rw [hq, hc]) rfl hin hdg (fun H1 locs1 h1 h2 h3 => kk H1 locs1 ⟨hI.1, hI.2.1, ?_, h3⟩)
  rw [← hc, hs] at h1
  exact h1
theorem xh_iald (F : x_F p s m args meth c cc nL own ret) (hI : x_I X (x_sh σ j u) s H locs) (hm : (j, k) ∈ x_ids) {n : Nat} (hc : ∀ v : x_V, x_cell X j k v = .inl (X.2.1 0, n, .inl v)) {i : Int32} (hin : x_in i n) (hdg : decode cc pc = .ok (.iaload, 1))
    (kk : W p l e R s m args below meth c H locs cells slots Q (F0 m (pc + 1) ls (.int (u k i.toNatClampNeg) :: rest))) : W p l e R s m args below meth c H locs cells slots Q (F0 m pc ls (.int i :: .ref (X.2.2 j k) :: rest)) := x_iald F hI hm hc hin hdg (by rw [x_sh_eq]; exact kk)
theorem xh_zald (F : x_F p s m args meth c cc nL own ret) (hI : x_I X (x_sh σ j u) s H locs) (hm : (j, k) ∈ x_ids) {n : Nat} (hc : ∀ v : x_V, x_cell X j k v = .inl (X.2.1 2, n, .inl v)) {i : Int32} (hin : x_in i n) (hdg : decode cc pc = .ok (.baload, 1))
    (kk : W p l e R s m args below meth c H locs cells slots Q (F0 m (pc + 1) ls (.int (u k i.toNatClampNeg) :: rest))) : W p l e R s m args below meth c H locs cells slots Q (F0 m pc ls (.int i :: .ref (X.2.2 j k) :: rest)) := x_zald F hI hm hc hin hdg (by rw [x_sh_eq]; exact kk)
theorem xh_cald (F : x_F p s m args meth c cc nL own ret) (hI : x_I X (x_sh σ j u) s H locs) (hm : (j, k) ∈ x_ids) {n : Nat} (hc : ∀ v : x_V, x_cell X j k v = .inl (X.2.1 1, n, .inl v)) {i : Int32} (hin : x_in i n) (hdg : decode cc pc = .ok (.caload, 1))
    (kk : W p l e R s m args below meth c H locs cells slots Q (F0 m (pc + 1) ls (.int (u k i.toNatClampNeg) :: rest))) : W p l e R s m args below meth c H locs cells slots Q (F0 m pc ls (.int i :: .ref (X.2.2 j k) :: rest)) := x_cald F hI hm hc hin hdg (by rw [x_sh_eq]; exact kk)
theorem xh_iast (F : x_F p s m args meth c cc nL own ret) (hI : x_I X (x_sh σ j u) s H locs) (hm : (j, k) ∈ x_ids) {n : Nat} (hc : ∀ v : x_V, x_cell X j k v = .inl (X.2.1 0, n, .inl v)) {i x : Int32} (hin : x_in i n) (hdg : decode cc pc = .ok (.iastore, 1))
    (kk : ∀ (H1 : Heap) (locs1 : List Loc) (u1 : x_H), u1 = x_hu u k i.toNatClampNeg x → x_I X (x_sh σ j u1) s H1 locs1 → W p l e R s m args below meth c H1 locs1 cells slots Q (F0 m (pc + 1) ls rest)) : W p l e R s m args below meth c H locs cells slots Q (F0 m pc ls (.int x :: .int i :: .ref (X.2.2 j k) :: rest)) :=
  x_iast F hI hm hc hin hdg (fun H1 locs1 h => kk H1 locs1 _ rfl (by rw [x_sh_eq, x_sh_sh] at h; exact h))
theorem xh_zast (F : x_F p s m args meth c cc nL own ret) (hI : x_I X (x_sh σ j u) s H locs) (hm : (j, k) ∈ x_ids) {n : Nat} (hc : ∀ v : x_V, x_cell X j k v = .inl (X.2.1 2, n, .inl v)) {i x : Int32} (hin : x_in i n) (hdg : decode cc pc = .ok (.bastore, 1))
    (kk : ∀ (H1 : Heap) (locs1 : List Loc) (u1 : x_H), u1 = x_hu u k i.toNatClampNeg (vp_nar .boolean x) → x_I X (x_sh σ j u1) s H1 locs1 → W p l e R s m args below meth c H1 locs1 cells slots Q (F0 m (pc + 1) ls rest)) : W p l e R s m args below meth c H locs cells slots Q (F0 m pc ls (.int x :: .int i :: .ref (X.2.2 j k) :: rest)) :=
  x_zast F hI hm hc hin hdg (fun H1 locs1 h => kk H1 locs1 _ rfl (by rw [x_sh_eq, x_sh_sh] at h; exact h))
theorem xh_cast (F : x_F p s m args meth c cc nL own ret) (hI : x_I X (x_sh σ j u) s H locs) (hm : (j, k) ∈ x_ids) {n : Nat} (hc : ∀ v : x_V, x_cell X j k v = .inl (X.2.1 1, n, .inl v)) {i x : Int32} (hin : x_in i n) (hdg : decode cc pc = .ok (.castore, 1))
    (kk : ∀ (H1 : Heap) (locs1 : List Loc) (u1 : x_H), u1 = x_hu u k i.toNatClampNeg (vp_nar .char x) → x_I X (x_sh σ j u1) s H1 locs1 → W p l e R s m args below meth c H1 locs1 cells slots Q (F0 m (pc + 1) ls rest)) : W p l e R s m args below meth c H locs cells slots Q (F0 m pc ls (.int x :: .int i :: .ref (X.2.2 j k) :: rest)) :=
  x_cast F hI hm hc hin hdg (fun H1 locs1 h => kk H1 locs1 _ rfl (by rw [x_sh_eq, x_sh_sh] at h; exact h))
/-! ends -/
theorem x_iret (F : x_F p s m args meth c cc nL own (some .int)) (hI : x_I X σ s H locs) {v : Int32} (hdg : decode cc pc = .ok (.ireturn, 1)) : W p l e R s m args below meth c H locs cells slots (MQ below (x_Qi X v σ s.heap.size) args s cells slots (x_A X s.heap.size)) (F0 m pc ls [.int v]) :=
  W.iret F.1 F.2.1 F.2.2.2.2.2.2.1 (fun t ht hW => ⟨⟨v, (), rfl, rfl, by rw [ht]; exact hI.2.2.1, va_K.moved hW.alike hI.2.1⟩, hI.2.2.2.F ht⟩) hI.2.2.2.2.2 hdg F.2.2.2.2.2.2.2
theorem x_zret (F : x_F p s m args meth c cc nL own (some .boolean)) (hI : x_I X σ s H locs) {v : Int32} (hn : vp_nar .boolean v = v) (hdg : decode cc pc = .ok (.ireturn, 1)) : W p l e R s m args below meth c H locs cells slots (MQ below (x_Qi X v σ s.heap.size) args s cells slots (x_A X s.heap.size)) (F0 m pc ls [.int v]) :=
  W.zret F.1 F.2.1 F.2.2.2.2.2.2.1 (show narrow .boolean (.int v) = .int v from congrArg Value.int hn) (fun t ht hW => ⟨⟨v, (), rfl, rfl, by rw [ht]; exact hI.2.2.1, va_K.moved hW.alike hI.2.1⟩, hI.2.2.2.F ht⟩) hI.2.2.2.2.2 hdg F.2.2.2.2.2.2.2
theorem x_lret (F : x_F p s m args meth c cc nL own (some .long)) (hI : x_I X σ s H locs) {v : Int64} (hdg : decode cc pc = .ok (.lreturn, 1)) : W p l e R s m args below meth c H locs cells slots (MQ below (x_Ql X v σ s.heap.size) args s cells slots (x_A X s.heap.size)) (F0 m pc ls [.long v]) :=
  W.lret F.1 F.2.1 F.2.2.2.2.2.2.1 (fun t ht hW => ⟨⟨v, (), rfl, rfl, by rw [ht]; exact hI.2.2.1, va_K.moved hW.alike hI.2.1⟩, hI.2.2.2.F ht⟩) hI.2.2.2.2.2 hdg F.2.2.2.2.2.2.2
theorem x_dret (F : x_F p s m args meth c cc nL own (some .double)) (hI : x_I X σ s H locs) {v : UInt64} (hdg : decode cc pc = .ok (.dreturn, 1)) : W p l e R s m args below meth c H locs cells slots (MQ below (x_Qd X v σ s.heap.size) args s cells slots (x_A X s.heap.size)) (F0 m pc ls [.double v]) :=
  W.dret F.1 F.2.1 F.2.2.2.2.2.2.1 (fun t ht hW => ⟨⟨v, (), rfl, rfl, by rw [ht]; exact hI.2.2.1, va_K.moved hW.alike hI.2.1⟩, hI.2.2.2.F ht⟩) hI.2.2.2.2.2 hdg F.2.2.2.2.2.2.2
theorem x_vret (F : x_F p s m args meth c cc nL own none) (hI : x_I X σ s H locs) (hdg : decode cc pc = .ok (.return_, 1)) : W p l e R s m args below meth c H locs cells slots (MQ below (x_Qv X σ s.heap.size) args s cells slots (x_A X s.heap.size)) (F0 m pc ls []) :=
  W.vret F.1 F.2.1 F.2.2.2.2.2.2.1 (fun t ht hW => ⟨⟨(), rfl, trivial, by rw [ht]; exact hI.2.2.1, va_K.moved hW.alike hI.2.1⟩, hI.2.2.2.F ht⟩) hI.2.2.2.2.2 hdg F.2.2.2.2.2.2.2
/-! calls -/
theorem x_fix (F : x_F p s m args meth c cc nL own ret) : CallFix p m c cc nL s args x_U own := ⟨F.1, F.2.1, F.2.2.1, F.2.2.2.1, F.2.2.2.2.1⟩
theorem x_preS (F : x_F p s m args meth c cc nL own ret) (hI : x_I X σ s H locs) {As : List Value} : PreS s H (x_Pc X σ H.size As) As :=
  ⟨x_Pc_blind, fun U hU hW => ⟨rfl, hI.1, by rw [hU], ⟨by rw [hU]; exact hI.2.2.1, va_K.moved hW.alike hI.2.1⟩, F.2.2.2.2.2.1.warm hW⟩⟩
theorem x_preV (F : x_F p s m args meth c cc nL own ret) (hI : x_I X σ s H locs) (hm : (j, k) ∈ x_ids) {ci : Nat} {q : vw_C} {fs : List Value} (hcell : x_cell X j k (σ j k) = .inr (ci, fs)) (hc : vwCl[ci]? = some q) {As : List Value} : PreV s H q.1 (X.2.2 j k) (x_Pc X σ H.size (.ref (X.2.2 j k) :: As)) As := by
  obtain ⟨q0, hq, -⟩ := wd_at (X := X) σ hm
  exact ⟨x_Pc_blind, va_recv hI.2.1 hI.2.2.1 hc (by rw [hq, hcell]), fun U hU hW => ⟨rfl, hI.1, by rw [hU], ⟨by rw [hU]; exact hI.2.2.1, va_K.moved hW.alike hI.2.1⟩, F.2.2.2.2.2.1.warm hW⟩⟩
section XC
variable {σ' : x_S} {st0 : List Value} {a : Array Value}
theorem x_aci {r0 : Int32} (hI : x_I X σ s H locs) (hr : va_Run p l e R s m args below meth c H locs cells slots 0 0 (F0 m pc ls st0) rest (x_Qi X r0 σ' H.size a) (x_A X H.size))
    (kk : ∀ (H1 : Heap) (locs1 : List Loc), x_I X σ' s H1 locs1 → W p l e R s m args below meth c H1 locs1 cells slots Q (F0 m (pc + 3) ls (.int r0 :: rest))) : W p l e R s m args below meth c H locs cells slots Q (F0 m pc ls st0) := by
  have hle : s.heap.size ≤ H.size := hI.2.2.2.1
  refine va_calli (A1 := x_A X H.size) (free := x_A X H.size) hr hI.2.2.2 (fun q _ h => x_A_mono hle q h) (fun q h => x_A_mono hle q h) (fun r u t H1 locs1 ht hvm hw hB hz1 hk1 hS => ?_)
  subst hw
  exact kk H1 locs1 ⟨hI.1, hI.2.1, by rw [← ht]; exact hB.1, hS⟩
theorem x_acl {r0 : Int64} (hI : x_I X σ s H locs) (hr : va_Run p l e R s m args below meth c H locs cells slots 0 0 (F0 m pc ls st0) rest (x_Ql X r0 σ' H.size a) (x_A X H.size))
    (kk : ∀ (H1 : Heap) (locs1 : List Loc), x_I X σ' s H1 locs1 → W p l e R s m args below meth c H1 locs1 cells slots Q (F0 m (pc + 3) ls (.long r0 :: rest))) : W p l e R s m args below meth c H locs cells slots Q (F0 m pc ls st0) := by
  have hle : s.heap.size ≤ H.size := hI.2.2.2.1
  refine va_calll (A1 := x_A X H.size) (free := x_A X H.size) hr hI.2.2.2 (fun q _ h => x_A_mono hle q h) (fun q h => x_A_mono hle q h) (fun r u t H1 locs1 ht hvm hw hB hz1 hk1 hS => ?_)
  subst hw
  exact kk H1 locs1 ⟨hI.1, hI.2.1, by rw [← ht]; exact hB.1, hS⟩
theorem x_acd {r0 : UInt64} (hI : x_I X σ s H locs) (hr : va_Run p l e R s m args below meth c H locs cells slots 0 0 (F0 m pc ls st0) rest (x_Qd X r0 σ' H.size a) (x_A X H.size))
    (kk : ∀ (H1 : Heap) (locs1 : List Loc), x_I X σ' s H1 locs1 → W p l e R s m args below meth c H1 locs1 cells slots Q (F0 m (pc + 3) ls (.double r0 :: rest))) : W p l e R s m args below meth c H locs cells slots Q (F0 m pc ls st0) := by
  have hle : s.heap.size ≤ H.size := hI.2.2.2.1
  refine va_calld (A1 := x_A X H.size) (free := x_A X H.size) hr hI.2.2.2 (fun q _ h => x_A_mono hle q h) (fun q h => x_A_mono hle q h) (fun r u t H1 locs1 ht hvm hw hB hz1 hk1 hS => ?_)
  subst hw
  exact kk H1 locs1 ⟨hI.1, hI.2.1, by rw [← ht]; exact hB.1, hS⟩
theorem x_acv (hI : x_I X σ s H locs) (hr : va_Run p l e R s m args below meth c H locs cells slots 0 0 (F0 m pc ls st0) rest (x_Qv X σ' H.size a) (x_A X H.size))
    (kk : ∀ (H1 : Heap) (locs1 : List Loc), x_I X σ' s H1 locs1 → W p l e R s m args below meth c H1 locs1 cells slots Q (F0 m (pc + 3) ls rest)) : W p l e R s m args below meth c H locs cells slots Q (F0 m pc ls st0) := by
  have hle : s.heap.size ≤ H.size := hI.2.2.2.1
  refine va_callv (A1 := x_A X H.size) (free := x_A X H.size) hr hI.2.2.2 (fun q _ h => x_A_mono hle q h) (fun q h => x_A_mono hle q h) (fun u t H1 locs1 ht hvm hw hB hz1 hk1 hS => ?_)
  exact kk H1 locs1 ⟨hI.1, hI.2.1, by rw [← ht]; exact hB.1, hS⟩
end XC
section XD
variable {y : MethodName} {bytes : ByteArray} {maxL n index : Nat} {rt : Option FieldType} {rm : Room} {Qc : Array Value → State → Outcome → State → Prop} {As : List Value} {host : String}
theorem x_runV (F : x_F p s m args meth c cc nL own ret) (hI : x_I X σ s H locs) (hM : Met l y (x_ws y bytes maxL rt) rm (x_Pc X σ H.size (.ref (X.2.2 j k) :: As)) Qc 0 0 (x_A X H.size)) {C : String} (hg : GoodIn x_U (wsV own index C y (x_ws y bytes maxL rt))) (hd : y.cls = C ∧ y.cls ≠ "java/lang/invoke/MethodHandle" ∧ y.cls ≠ "java/lang/invoke/VarHandle" ∧ (parseMethodDescriptor y.desc).map (fun d => d.parameters.length) = some n) (hR : rm.frames + 1 ≤ R.frames ∧ 8 + (maxL + 11) + rm.locals ≤ R.locals) (hz : rm.cells = 0 ∧ rm.slots = 0) (hm : (j, k) ∈ x_ids) {ci : Nat} {q : vw_C} {fs : List Value} (hcell : x_cell X j k (σ j k) = .inr (ci, fs)) (hc : vwCl[ci]? = some q) (hC : q.1 = C) (hn : As.length = n) (hsize : ls.size = nL) {st0 : List Value} (hst : st0 = As.reverse ++ .ref (X.2.2 j k) :: rest) (hW : (rest.map fun v => v.category).sum ≤ 8) (hdg : decode cc pc = .ok (.invokevirtual index, 3)) (hf : cells ≤ R.cells ∧ slots ≤ R.slots) :
    va_Run p l e R s m args below meth c H locs cells slots 0 0 (F0 m pc ls st0) rest (Qc (Value.ref (X.2.2 j k) :: As).toArray) (x_A X H.size) := by
  subst hC
  exact va_runV (x_fix F) hM (cwV n F.2.2.2.2.1 hg rfl hz.1 hz.2 hd hR) (x_preV F hI hm hcell hc) rfl hn hsize hst (lv_room hW) hdg hf
theorem x_runS (F : x_F p s m args meth c cc nL own ret) (hI : x_I X σ s H locs) (hM : Met l y (x_ws y bytes maxL rt) rm (x_Pc X σ H.size As) Qc 0 0 (x_A X H.size)) (hg : GoodIn x_U (va_wsS own index y (x_ws y bytes maxL rt))) (hd : y.cls ≠ "java/lang/invoke/MethodHandle" ∧ y.cls ≠ "java/lang/invoke/VarHandle" ∧ (parseMethodDescriptor y.desc).map (fun d => d.parameters.length) = some n) (hR : rm.frames + 1 ≤ R.frames ∧ 8 + (maxL + 11) + rm.locals ≤ R.locals) (hz : rm.cells = 0 ∧ rm.slots = 0) (hn : As.length = n) (hsize : ls.size = nL) {st0 : List Value} (hst : st0 = As.reverse ++ rest) (hW : (rest.map fun v => v.category).sum ≤ 8) (hdg : decode cc pc = .ok (.invokestatic index, 3)) (hf : cells ≤ R.cells ∧ slots ≤ R.slots) :
    va_Run p l e R s m args below meth c H locs cells slots 0 0 (F0 m pc ls st0) rest (Qc As.toArray) (x_A X H.size) :=
  va_runS (x_fix F) hM (va_cwS n F.2.2.2.2.1 hg rfl hz.1 hz.2 hd hR) (x_preS F hI) rfl hn hsize hst (lv_room hW) hdg hf
theorem x_runN (F : x_F p s m args meth c cc nL own ret) (hI : x_I X σ s H locs) (hM : Met l y (x_ws y bytes maxL rt) rm (x_Pc X σ H.size As) Qc 0 0 (x_A X H.size)) (hl : Cond.methodLinkNest own index y host ∈ x_nest) (hcode : Cond.code y bytes maxL rt ∈ x_U) (hini : Cond.initialized y.cls ∈ x_U) (hstc : Cond.static y ∈ x_U) (hd : y.cls ≠ "java/lang/invoke/MethodHandle" ∧ y.cls ≠ "java/lang/invoke/VarHandle" ∧ (parseMethodDescriptor y.desc).map (fun d => d.parameters.length) = some n) (hR : rm.frames + 1 ≤ R.frames ∧ 8 + (maxL + 11) + rm.locals ≤ R.locals) (hz : rm.cells = 0 ∧ rm.slots = 0) (hn : As.length = n) (hsize : ls.size = nL) {st0 : List Value} (hst : st0 = As.reverse ++ rest) (hW : (rest.map fun v => v.category).sum ≤ 8) (hdg : decode cc pc = .ok (.invokestatic index, 3)) (hf : cells ≤ R.cells ∧ slots ≤ R.slots) :
    va_Run p l e R s m args below meth c H locs cells slots 0 0 (F0 m pc ls st0) rest (Qc As.toArray) (x_A X H.size) :=
  va_runSN (x_fix F) hM ⟨va_cnB n F.2.2.2.2.1 (x_gU hcode) rfl hz.1 hz.2 (F.2.2.2.2.2.1 _ hl) (F.2.2.2.2.1 _ hini) hd hR, F.2.2.2.2.1 _ hstc, trivial⟩ (x_preS F hI) rfl hn hsize hst (lv_room hW) hdg hf
end XD
theorem x_entry {vs : List Value} {n : Nat} (h : (lg_sl vs).length ≤ n) (kk : ∀ ls : Array Slot, lv_has ls n (lv_args 0 vs) → W p l e R s m args below meth c H locs cells slots Q (F0 m 0 ls [])) : W p l e R s m args below meth c H locs cells slots Q (entryFrame m vs.toArray n) := by
  rw [lg_entry_eq]
  exact kk _ (lv_entry vs h)
end XR
