abbrev x_cp (sp dp n : Int32) (n0 n1 : Nat) : Prop := ¬ sp < 0 ∧ ¬ dp < 0 ∧ ¬ n < 0 ∧ sp.toNatClampNeg + n.toNatClampNeg ≤ n0 ∧ dp.toNatClampNeg + n.toNatClampNeg ≤ n1
theorem x_norm {X : x_T} {σ τ : x_S} {H : Heap} (h : ∀ q ∈ x_ids, ∀ a : Nat, va_at X.1 vwCl (a, x_cell X q.1 q.2 (σ q.1 q.2)) H → va_at X.1 vwCl (a, x_cell X q.1 q.2 (τ q.1 q.2)) H) (hP : va_P X.1 vwCl (wd X σ) H) : va_P X.1 vwCl (wd X τ) H := by
  intro k q hk
  unfold wd at hk
  rw [List.getElem?_map] at hk
  cases hk' : x_ids[k]? with
  | none => rw [hk'] at hk; cases hk
  | some a =>
    rw [hk'] at hk
    cases hk
    refine h a (List.mem_of_getElem? hk') _ (hP k _ ?_)
    unfold wd
    rw [List.getElem?_map, hk']
    rfl
theorem x_arr_congr {cA : ClassId} {n : Nat} {v w : x_V} (h : ∀ i, i < n → v i = w i) : vp_cell cA (n, .inl v) = vp_cell cA (n, .inl w) := by
  rw [vp_cell_i, vp_cell_i]
  unfold arrV
  congr 1
  apply Array.ext
  · simp
  · intro i h1 h2
    simp at h1
    simp [h i h1]
section XCP
variable {p : Program} {l : Launch} {e : Env} {R : Room} {s : State} {m : MethodId} {args : Array Value} {below : List Frame} {meth : Method} {c : Code} {H : Heap} {locs : List Loc} {cells slots : Nat} {Q : State → Prop}
variable {cc : ByteArray} {nL : Nat} {own : String} {ret : Option FieldType} {pc : Nat} {ls : Array Slot} {rest : List Value} {X : x_T} {σ : x_S} {i j k0 k n : Nat} {u w : x_H}
theorem x_toH (j : Nat) (hI : x_I X σ s H locs) : x_I X (x_sh σ j (σ j)) s H locs := by rw [x_sh_self]; exact hI
theorem x_toV (k : Nat) (hI : x_I X (x_sh σ 11 u) s H locs) : x_I X (x_sh σ 11 (x_hs u k (u k))) s H locs := by rw [x_hs_self]; exact hI
theorem x_I_norm {τ : x_S} (h : ∀ q ∈ x_ids, ∀ a : Nat, va_at X.1 vwCl (a, x_cell X q.1 q.2 (σ q.1 q.2)) H → va_at X.1 vwCl (a, x_cell X q.1 q.2 (τ q.1 q.2)) H) (hI : x_I X σ s H locs) : x_I X τ s H locs := ⟨hI.1, hI.2.1, x_norm h hI.2.2.1, hI.2.2.2⟩
/-- a row's numbers beyond its length don't count -/
theorem x_norm1 (hc : ∀ v : x_V, x_cell X j k v = .inl (X.2.1 0, n, .inl v)) {v v' : x_V} (hv : ∀ i, i < n → v i = v' i) (hI : x_I X (x_sh σ j (x_hs u k v)) s H locs) : x_I X (x_sh σ j (x_hs u k v')) s H locs := by
  refine x_I_norm (fun q hq a h => ?_) hI
  obtain ⟨q1, q2⟩ := q
  by_cases h1 : q1 = j
  · subst h1
    by_cases h2 : q2 = k
    · subst h2
      simp only [x_sh_eq, x_hs_eq, hc] at h ⊢
      show H[a]? = some _
      rw [← x_arr_congr hv]
      exact h
    · simp only [x_sh_eq, x_hs_ne _ _ h2] at h ⊢
      exact h
  · simp only [x_sh_ne _ _ h1] at h ⊢
    exact h
theorem x_alen (F : x_F p s m args meth c cc nL own ret) (hI : x_I X σ s H locs) (hm : (j, k) ∈ x_ids) (hc : ∀ v : x_V, x_cell X j k v = .inl (X.2.1 0, n, .inl v)) (hdg : decode cc pc = .ok (.arraylength, 1))
    (kk : W p l e R s m args below meth c H locs cells slots Q (F0 m (pc + 1) ls (.int (nI n) :: rest))) : W p l e R s m args below meth c H locs cells slots Q (F0 m pc ls (.ref (X.2.2 j k) :: rest)) := by
  obtain ⟨q0, hq, -⟩ := wd_at (X := X) σ hm
  exact va_alen (x := (n, .inl (σ j k))) F.1 F.2.1 hI.2.1 hI.2.2.1 q0 0 (by rw [hq, hc]) rfl rfl hdg kk
theorem x_acopy (F : x_F p s m args meth c cc nL own ret) (hI : x_I X σ s H locs) (hm0 : (i, k0) ∈ x_ids) (hm : (j, k) ∈ x_ids) {n0 n1 : Nat} (hc0 : ∀ v : x_V, x_cell X i k0 v = .inl (X.2.1 0, n0, .inl v)) (hc : ∀ v : x_V, x_cell X j k v = .inl (X.2.1 0, n1, .inl v)) {sp dp n : Int32} (hcp : x_cp sp dp n n0 n1) {index : Nat} (h1 : Cond.methodLink own index arraycopyName ∈ x_U) (h2 : Cond.native arraycopyName ∈ x_U) (h3 : Cond.static arraycopyName ∈ x_U) (h4 : Cond.initialized "java/lang/System" ∈ x_U) (hsize : ls.size = nL) (hfr : 1 ≤ R.frames) (hlo : (rest.map fun v => v.category).sum + 18 ≤ R.locals) (hdg : decode cc pc = .ok (.invokestatic index, 3))
    (kk : ∀ (H1 : Heap) (locs1 : List Loc), x_I X (x_sh σ j (x_hs (σ j) k (va_cpy (σ i k0) (σ j k) sp.toNatClampNeg dp.toNatClampNeg n.toNatClampNeg))) s H1 locs1 → W p l e R s m args below meth c H1 locs1 cells slots Q (F0 m (pc + 3) ls rest)) : W p l e R s m args below meth c H locs cells slots Q (F0 m pc ls (.int n :: .int dp :: .ref (X.2.2 j k) :: .int sp :: .ref (X.2.2 i k0) :: rest)) := by
  obtain ⟨q0, hq0, -⟩ := wd_at (X := X) σ hm0
  obtain ⟨q1, hq1, hs⟩ := wd_at (X := X) σ hm
  have hW : nativeFrameWords "java/lang/System" "arraycopy" 5 + 11 = 18 := by decide +kernel
  refine va_copyi F.1 F.2.1 (F.2.2.1.trans hsize.symm) F.2.2.2.1 (F.2.2.2.2.1 _ h1) (F.2.2.2.2.1 _ h2) (F.2.2.2.2.1 _ h3) (F.2.2.2.2.1 _ h4) hI.2.1 hI.2.2.1 (wd_D hI.1) hI.2.2.2 q0 q1 0 0 (by rw [hq0, hc0]) (by rw [hq1, hc]) rfl rfl rfl hcp.1 hcp.2.1 hcp.2.2.1 hcp.2.2.2.1 hcp.2.2.2.2 (fun _ _ => rfl) hfr (by rw [hW]; exact hlo) hdg (fun H1 locs1 g1 g2 g3 => kk H1 locs1 ⟨hI.1, hI.2.1, ?_, g3⟩)
  rw [← hc, hs] at g1
  exact g1
theorem xh_acopy (F : x_F p s m args meth c cc nL own ret) (hI : x_I X (x_sh σ j u) s H locs) (hm0 : (j, k0) ∈ x_ids) (hm : (j, k) ∈ x_ids) {n0 n1 : Nat} (hc0 : ∀ v : x_V, x_cell X j k0 v = .inl (X.2.1 0, n0, .inl v)) (hc : ∀ v : x_V, x_cell X j k v = .inl (X.2.1 0, n1, .inl v)) {sp dp n : Int32} (hcp : x_cp sp dp n n0 n1) {index : Nat} (h1 : Cond.methodLink own index arraycopyName ∈ x_U) (h2 : Cond.native arraycopyName ∈ x_U) (h3 : Cond.static arraycopyName ∈ x_U) (h4 : Cond.initialized "java/lang/System" ∈ x_U) (hsize : ls.size = nL) (hfr : 1 ≤ R.frames) (hlo : (rest.map fun v => v.category).sum + 18 ≤ R.locals) (hdg : decode cc pc = .ok (.invokestatic index, 3))
    (kk : ∀ (H1 : Heap) (locs1 : List Loc) (u1 : x_H), u1 = x_hs u k (va_cpy (u k0) (u k) sp.toNatClampNeg dp.toNatClampNeg n.toNatClampNeg) → x_I X (x_sh σ j u1) s H1 locs1 → W p l e R s m args below meth c H1 locs1 cells slots Q (F0 m (pc + 3) ls rest)) : W p l e R s m args below meth c H locs cells slots Q (F0 m pc ls (.int n :: .int dp :: .ref (X.2.2 j k) :: .int sp :: .ref (X.2.2 j k0) :: rest)) :=
  x_acopy F hI hm0 hm hc0 hc hcp h1 h2 h3 h4 hsize hfr hlo hdg (fun H1 locs1 h => kk H1 locs1 _ rfl (by rw [x_sh_eq, x_sh_sh] at h; exact h))
theorem x_aald (F : x_F p s m args meth c cc nL own ret) (hI : x_I X σ s H locs) (hm : (j, k) ∈ x_ids) {n : Nat} (hc : ∀ v : x_V, x_cell X j k v = .inl (X.2.1 3, n, .inr (.inr (.inr (.inr (fun i => some (X.2.2 (v i).toNatClampNeg 0))))))) {i : Int32} (hin : x_in i n) (hdg : decode cc pc = .ok (.aaload, 1))
    (kk : ∀ x : Int32, x = σ j k i.toNatClampNeg → W p l e R s m args below meth c H locs cells slots Q (F0 m (pc + 1) ls (.ref (X.2.2 x.toNatClampNeg 0) :: rest))) : W p l e R s m args below meth c H locs cells slots Q (F0 m pc ls (.int i :: .ref (X.2.2 j k) :: rest)) := by
  obtain ⟨q0, hq, -⟩ := wd_at (X := X) σ hm
  exact va_aldq (f := fun i => some (X.2.2 (σ j k i).toNatClampNeg 0)) F.1 F.2.1 hI.2.1 hI.2.2.1 q0 3 (by rw [hq, hc]) rfl hin hdg (kk _ rfl)
theorem x_aast (F : x_F p s m args meth c cc nL own ret) (hI : x_I X σ s H locs) (hm : (j, k) ∈ x_ids) {n : Nat} (hc : ∀ v : x_V, x_cell X j k v = .inl (X.2.1 3, n, .inr (.inr (.inr (.inr (fun i => some (X.2.2 (v i).toNatClampNeg 0))))))) {i x : Int32} (hx : x.toNatClampNeg < 10) (hin : x_in i n) (hdg : decode cc pc = .ok (.aastore, 1))
    (kk : ∀ (H1 : Heap) (locs1 : List Loc), x_I X (x_sh σ j (x_hu (σ j) k i.toNatClampNeg x)) s H1 locs1 → W p l e R s m args below meth c H1 locs1 cells slots Q (F0 m (pc + 1) ls rest)) : W p l e R s m args below meth c H locs cells slots Q (F0 m pc ls (.ref (X.2.2 x.toNatClampNeg 0) :: .int i :: .ref (X.2.2 j k) :: rest)) := by
  obtain ⟨q0, hq, hs⟩ := wd_at (X := X) σ hm
  obtain ⟨qk, hqk, -⟩ := wd_at (X := X) σ (x_inH hx (show 0 < 25 by decide))
  refine va_astq (r := (RX2, TX2, 11)) F.1 F.2.1 hI.2.1 hI.2.2.1 (wd_D hI.1) hI.2.2.2 q0 3 qk 2 (by rw [hq, hc]) rfl (by rw [hqk]; rfl) rfl hin hdg (fun H1 locs1 h1 h2 h3 => kk H1 locs1 ⟨hI.1, hI.2.1, ?_, h3⟩)
  have e : (va_up (fun i => some (X.2.2 (σ j k i).toNatClampNeg 0)) i.toNatClampNeg (some (X.2.2 x.toNatClampNeg 0))) = (fun q => some (X.2.2 (upd (σ j k) i.toNatClampNeg x q).toNatClampNeg 0)) := by
    funext q
    by_cases hq : q = i.toNatClampNeg
    · simp [va_up, upd, hq]
    · simp [va_up, upd, hq]
  rw [e, ← hc, hs] at h1
  exact h1
end XCP
