/-! ===== the tables' good words ===== -/
def x_U : List Cond := lw_tbl.filter goodWord
theorem x_Ug : ∀ w ∈ x_U, goodWord w = true := fun w h => (List.mem_filter.mp h).2
theorem x_Ul : ∀ w ∈ x_U, w ∈ lw_tbl := fun w h => (List.mem_filter.mp h).1
theorem x_ut {w : Cond} (i : Nat) (h : tables_1[i]? = some w) (hg : goodWord w = true) : w ∈ x_U := List.mem_filter.mpr ⟨List.mem_append_right _ (List.mem_of_getElem? h), hg⟩
theorem x_us {w : Cond} (i : Nat) (h : (k2_sels lw_privs)[i]? = some w) (hg : goodWord w = true) : w ∈ x_U := List.mem_filter.mpr ⟨List.mem_append_left _ (List.mem_of_getElem? h), hg⟩
abbrev x_isNest (w : Cond) : Bool := match w with
  | .methodLinkNest .. => true
  | _ => false
/-- the links of private members of nest mates -/
def x_nest : List Cond := tables_1.filter x_isNest
theorem x_nt {w : Cond} (i : Nat) (h : tables_1[i]? = some w) (hg : x_isNest w = true) : w ∈ x_nest := List.mem_filter.mpr ⟨List.mem_of_getElem? h, hg⟩
def x_Ns (U : State) : Prop := ∀ w ∈ x_nest, va_Nw w U
theorem x_Ns.same {u U : State} (h : u.vm = U.vm) (hZ : x_Ns u) : x_Ns U := by
  intro w hw
  have hn : x_isNest w = true := (List.mem_filter.mp hw).2
  refine va_Nw.same ?_ h (hZ w hw)
  cases w <;> first | rfl | (simp [x_isNest] at hn)
theorem x_Ns.warm {s U : State} (hW : s.WarmedH U.vm) (hZ : x_Ns s) : x_Ns U := by
  intro w hw
  have hn : x_isNest w = true := (List.mem_filter.mp hw).2
  have h1 := hZ w hw
  cases w <;> first | exact va_Nw.warmM hW h1 | (simp [x_isNest] at hn)
/-- a method's words: its own code, and all good words -/
def x_ws (y : MethodName) (c : ByteArray) (n : Nat) (r : Option FieldType) : List Cond := .code y c n r :: x_U
theorem x_gU {y : MethodName} {c : ByteArray} {n : Nat} {r : Option FieldType} (h : Cond.code y c n r ∈ x_U) : GoodIn x_U (x_ws y c n r) := by
  intro w hw
  have hm : w ∈ x_U := (List.mem_cons.mp hw).elim (fun e => by rw [e]; exact h) id
  exact ⟨hm, good_of_word (x_Ug w hm)⟩
theorem x_gV {own C : String} {idx : Nat} {y : MethodName} {c : ByteArray} {n : Nat} {r : Option FieldType} (h1 : Cond.methodLink own idx y ∈ x_U) (h2 : Cond.instanceMethod y ∈ x_U) (h3 : Cond.selects C y y ∈ x_U) (h4 : Cond.initialized C ∈ x_U) (h5 : Cond.code y c n r ∈ x_U) : GoodIn x_U (wsV own idx C y (x_ws y c n r)) := by
  intro w hw
  rcases List.mem_append.mp hw with h | h
  · have hm : w ∈ x_U := by
      simp only [List.mem_cons, List.not_mem_nil, or_false] at h
      rcases h with rfl | rfl | rfl | rfl <;> assumption
    exact ⟨hm, good_of_word (x_Ug w hm)⟩
  · exact x_gU h5 w h
theorem x_gS {own : String} {idx : Nat} {y : MethodName} {c : ByteArray} {n : Nat} {r : Option FieldType} (h1 : Cond.methodLink own idx y ∈ x_U) (h2 : Cond.static y ∈ x_U) (h4 : Cond.initialized y.cls ∈ x_U) (h5 : Cond.code y c n r ∈ x_U) : GoodIn x_U (va_wsS own idx y (x_ws y c n r)) := by
  intro w hw
  rcases List.mem_append.mp hw with h | h
  · have hm : w ∈ x_U := by
      simp only [List.mem_cons, List.not_mem_nil, or_false] at h
      rcases h with rfl | rfl | rfl <;> assumption
    exact ⟨hm, good_of_word (x_Ug w hm)⟩
  · exact x_gU h5 w h
/-! ===== the system's cells, by house (or group) and number ===== -/
abbrev x_V : Type := Nat → Int32
abbrev x_H : Type := Nat → Nat → Int32
abbrev x_S : Type := Nat → Nat → Nat → Int32
/-- classes and slots, classes of arrays, addresses -/
abbrev x_T : Type := va_G × (Nat → ClassId) × (Nat → Nat → Nat)
def x_tys (X : x_T) : List (ClassId × FieldType) := [(X.2.1 0, .int), (X.2.1 1, .char), (X.2.1 2, .boolean), (X.2.1 3, .object RX2)]
def x_cell (X : x_T) (j k : Nat) (v : x_V) : va_E := match k with
  | 0 => .inr (2, [.ref (X.2.2 j 1), .ref (X.2.2 j 2), .ref (X.2.2 j 3), .ref (X.2.2 j 4), .int (v 0), .int (v 1), .int (v 2), .int (v 3), .int (v 4), .int (v 5), .int (v 6)])
  | 1 => .inr (1, [.ref (X.2.2 j 5), .ref (X.2.2 j 6), .ref (X.2.2 j 7), .ref (X.2.2 j 8), .ref (X.2.2 j 9), .ref (X.2.2 j 10), .ref (X.2.2 j 11)])
  | 2 => .inr (3, [.ref (X.2.2 j 12), .ref (X.2.2 j 13), .ref (X.2.2 j 14), .ref (X.2.2 j 15), .ref (X.2.2 j 16), .ref (X.2.2 j 17), .ref (X.2.2 j 18), .int (v 0), .int (v 1), .int (v 2), .int (v 3)])
  | 3 => .inr (4, [.ref (X.2.2 j 19), .ref (X.2.2 j 20), .ref (X.2.2 j 21), .ref (X.2.2 j 22), .ref (X.2.2 j 23), .ref (X.2.2 j 24), .int (v 0)])
  | 4 => .inl (X.2.1 0, 7, .inl v)
  | 5 => .inl (X.2.1 0, 12, .inl v)
  | 6 => .inl (X.2.1 0, 12, .inl v)
  | 7 => .inl (X.2.1 0, 12, .inl v)
  | 8 => .inl (X.2.1 0, 12, .inl v)
  | 9 => .inl (X.2.1 0, 12, .inl v)
  | 10 => .inl (X.2.1 0, 12, .inl v)
  | 11 => .inl (X.2.1 0, 12, .inl v)
  | 12 => .inl (X.2.1 0, 16, .inl v)
  | 13 => .inl (X.2.1 0, 16, .inl v)
  | 14 => .inl (X.2.1 0, 16, .inl v)
  | 15 => .inl (X.2.1 0, 16, .inl v)
  | 16 => .inl (X.2.1 0, 16, .inl v)
  | 17 => .inl (X.2.1 0, 12, .inl v)
  | 18 => .inl (X.2.1 0, 12, .inl v)
  | 19 => .inl (X.2.1 0, 60, .inl v)
  | 20 => .inl (X.2.1 0, 60, .inl v)
  | 21 => .inl (X.2.1 0, 60, .inl v)
  | 22 => .inl (X.2.1 0, 60, .inl v)
  | 23 => .inl (X.2.1 0, 60, .inl v)
  | 24 => .inl (X.2.1 0, 60, .inl v)
  | 32 => .inr (6, [.ref (X.2.2 0 0), .ref (X.2.2 1 0), .ref (X.2.2 10 33), .ref (X.2.2 10 35), .ref (X.2.2 10 36), .ref (X.2.2 10 37)])
  | 33 => .inr (5, [.ref (X.2.2 10 34), .int (v 0)])
  | 34 => .inl (X.2.1 3, 6, .inr (.inr (.inr (.inr (fun i => some (X.2.2 (v i).toNatClampNeg 0))))))
  | 35 => .inl (X.2.1 3, 2, .inr (.inr (.inr (.inr (fun i => some (X.2.2 (v i).toNatClampNeg 0))))))
  | 36 => .inl (X.2.1 2, 2, .inl v)
  | 37 => .inr (0, [.ref (X.2.2 10 38), .int (v 0), .int (v 1), .int (v 2)])
  | 38 => .inl (X.2.1 1, 60, .inl v)
  | _ => .inr (0, [])
def x_idsH : List (Nat × Nat) := (List.range 10).flatMap (fun j => (List.range 25).map (fun k => (j, k)))
def x_idsO : List (Nat × Nat) := [(10, 32), (10, 33), (10, 34), (10, 35), (10, 36), (10, 37), (10, 38)]
def x_ids : List (Nat × Nat) := x_idsH ++ x_idsO
theorem x_inH {j k : Nat} (hj : j < 10) (hk : k < 25) : (j, k) ∈ x_ids := List.mem_append_left _ (List.mem_flatMap.mpr ⟨j, List.mem_range.mpr hj, List.mem_map.mpr ⟨k, List.mem_range.mpr hk, rfl⟩⟩)
theorem x_inO {q : Nat × Nat} (h : q ∈ x_idsO) : q ∈ x_ids := List.mem_append_right _ h
theorem x_nodup : x_ids.Nodup := by decide +kernel
theorem x_ids_inj {a b : Nat} {q : Nat × Nat} (h1 : x_ids[a]? = some q) (h2 : x_ids[b]? = some q) : a = b := by
  have ha := (List.getElem?_eq_some_iff.mp h1).1
  exact (List.getElem?_inj ha x_nodup).mp (h1.trans h2.symm)
/-- the world: every cell at its address -/
def wd (X : x_T) (σ : x_S) : va_W := x_ids.map (fun q => (X.2.2 q.1 q.2, x_cell X q.1 q.2 (σ q.1 q.2)))
def x_Inj (X : x_T) : Prop := ∀ p ∈ x_ids, ∀ q ∈ x_ids, X.2.2 p.1 p.2 = X.2.2 q.1 q.2 → p = q
/-- what a method may write: the system's cells, and new ones -/
def x_A (X : x_T) (sz : Nat) : Nat → Prop := fun a => (∃ q ∈ x_ids, X.2.2 q.1 q.2 = a) ∨ sz ≤ a
theorem wd_D {X : x_T} {σ : x_S} {sz : Nat} (h : x_Inj X) : va_D (x_A X sz) (wd X σ) := by
  refine ⟨fun i j p q hi hj hpq => ?_, fun k q hk => ?_⟩
  · rw [wd, List.getElem?_map] at hi hj
    cases hi' : x_ids[i]? with
    | none => rw [hi'] at hi; cases hi
    | some a =>
      cases hj' : x_ids[j]? with
      | none => rw [hj'] at hj; cases hj
      | some b =>
        rw [hi'] at hi; rw [hj'] at hj
        cases hi; cases hj
        have e := h a (List.mem_of_getElem? hi') b (List.mem_of_getElem? hj') hpq
        subst e
        exact x_ids_inj hi' hj'
  · rw [wd, List.getElem?_map] at hk
    cases hk' : x_ids[k]? with
    | none => rw [hk'] at hk; cases hk
    | some a => rw [hk'] at hk; cases hk; exact Or.inl ⟨a, List.mem_of_getElem? hk', rfl⟩
def x_sh (σ : x_S) (j : Nat) (u : x_H) : x_S := fun j' => if j' = j then u else σ j'
def x_hs (u : x_H) (k : Nat) (v : x_V) : x_H := fun k' => if k' = k then v else u k'
/-- one number of a house (or group) -/
def x_hu (u : x_H) (k i : Nat) (x : Int32) : x_H := x_hs u k (upd (u k) i x)
theorem x_sh_eq (σ : x_S) (j : Nat) (u : x_H) : x_sh σ j u j = u := if_pos rfl
theorem x_sh_ne (σ : x_S) {j j' : Nat} (u : x_H) (h : j' ≠ j) : x_sh σ j u j' = σ j' := if_neg h
theorem x_sh_self (σ : x_S) (j : Nat) : x_sh σ j (σ j) = σ := by
  funext j'
  by_cases h : j' = j
  · subst h; exact if_pos rfl
  · exact if_neg h
theorem x_sh_sh (σ : x_S) (j : Nat) (u v : x_H) : x_sh (x_sh σ j u) j v = x_sh σ j v := by
  funext j'
  by_cases h : j' = j <;> simp [x_sh, h]
theorem x_hs_eq (u : x_H) (k : Nat) (v : x_V) : x_hs u k v k = v := if_pos rfl
theorem x_hs_ne (u : x_H) {k k' : Nat} (v : x_V) (h : k' ≠ k) : x_hs u k v k' = u k' := if_neg h
theorem x_hs_self (u : x_H) (k : Nat) : x_hs u k (u k) = u := by
  funext k'
  by_cases h : k' = k
  · subst h; exact if_pos rfl
  · exact if_neg h
theorem x_hs_hs (u : x_H) (k : Nat) (v w : x_V) : x_hs (x_hs u k v) k w = x_hs u k w := by
  funext k'
  by_cases h : k' = k <;> simp [x_hs, h]
theorem x_ids_set {α : Type} (ids : List (Nat × Nat)) (hn : ∀ (a b : Nat) (q : Nat × Nat), ids[a]? = some q → ids[b]? = some q → a = b) (f : Nat × Nat → α) {q0 : Nat} {q : Nat × Nat} (hq : ids[q0]? = some q) (g : Nat × Nat → α) (hg : ∀ a, a ≠ q → g a = f a) : (ids.map f).set q0 (g q) = ids.map g := by
  apply List.ext_getElem?
  intro i
  rw [List.getElem?_set]
  by_cases hi : q0 = i
  · subst hi
    have hl : q0 < (ids.map f).length := by rw [List.length_map]; exact (List.getElem?_eq_some_iff.mp hq).1
    rw [if_pos rfl, if_pos hl, List.getElem?_map, hq]
    rfl
  · rw [if_neg hi, List.getElem?_map, List.getElem?_map]
    cases hi' : ids[i]? with
    | none => rfl
    | some a =>
      show some (f a) = some (g a)
      rw [hg a]
      intro h
      subst h
      exact hi (hn _ _ _ hq hi')
theorem wd_at {X : x_T} (σ : x_S) {j k : Nat} (hm : (j, k) ∈ x_ids) : ∃ q0 : Nat, (wd X σ)[q0]? = some (X.2.2 j k, x_cell X j k (σ j k)) ∧ ∀ v : x_V, (wd X σ).set q0 (X.2.2 j k, x_cell X j k v) = wd X (x_sh σ j (x_hs (σ j) k v)) := by
  obtain ⟨q0, hq⟩ := List.getElem?_of_mem hm
  refine ⟨q0, by unfold wd; rw [List.getElem?_map, hq]; rfl, fun v => ?_⟩
  have h := x_ids_set x_ids (fun _ _ _ h1 h2 => x_ids_inj h1 h2) (fun q => ((X.2.2 q.1 q.2, x_cell X q.1 q.2 (σ q.1 q.2)) : Nat × va_E)) hq (fun q => ((X.2.2 q.1 q.2, x_cell X q.1 q.2 (x_sh σ j (x_hs (σ j) k v) q.1 q.2)) : Nat × va_E)) (fun a ha => by
    obtain ⟨a1, a2⟩ := a
    have e : x_sh σ j (x_hs (σ j) k v) a1 a2 = σ a1 a2 := by
      by_cases h1 : a1 = j
      · subst h1
        rw [x_sh_eq, x_hs_ne]
        intro h2
        exact ha (by rw [h2])
      · rw [x_sh_ne _ _ h1]
    show (X.2.2 a1 a2, x_cell X a1 a2 (x_sh σ j (x_hs (σ j) k v) a1 a2)) = (X.2.2 a1 a2, x_cell X a1 a2 (σ a1 a2))
    rw [e])
  have e2 : x_sh σ j (x_hs (σ j) k v) j k = v := by rw [x_sh_eq, x_hs_eq]
  have h2 : ((X.2.2 j k, x_cell X j k (x_sh σ j (x_hs (σ j) k v) j k)) : Nat × va_E) = (X.2.2 j k, x_cell X j k v) := by rw [e2]
  rw [← h2]
  exact h
/-- the world is what its cells are -/
theorem wd_congr {X : x_T} {σ τ : x_S} (h : ∀ q ∈ x_ids, x_cell X q.1 q.2 (σ q.1 q.2) = x_cell X q.1 q.2 (τ q.1 q.2)) : wd X σ = wd X τ := List.map_congr_left (fun q hq => by rw [h q hq])
/-! ===== a method's start and end ===== -/
def x_W (X : x_T) (σ : x_S) (t : State) : Prop := va_P X.1 vwCl (wd X σ) t.heap ∧ va_K X.1 vwCl (x_tys X) t
def x_Pc (X : x_T) (σ : x_S) (sz : Nat) (av : List Value) : Array Value → State → Prop := va_Pc av (fun U => x_Inj X ∧ U.heap.size = sz ∧ x_W X σ U ∧ x_Ns U)
def x_Qi (X : x_T) (r : Int32) (σ : x_S) (sz : Nat) : Array Value → State → Outcome → State → Prop := va_Qi (fun (r' : Int32) (_ : Unit) => r' = r) (fun _ t => x_W X σ t) (x_A X sz)
def x_Ql (X : x_T) (r : Int64) (σ : x_S) (sz : Nat) : Array Value → State → Outcome → State → Prop := va_Ql (fun (r' : Int64) (_ : Unit) => r' = r) (fun _ t => x_W X σ t) (x_A X sz)
def x_Qd (X : x_T) (r : UInt64) (σ : x_S) (sz : Nat) : Array Value → State → Outcome → State → Prop := va_Qd (fun (r' : UInt64) (_ : Unit) => r' = r) (fun _ t => x_W X σ t) (x_A X sz)
def x_Qv (X : x_T) (σ : x_S) (sz : Nat) : Array Value → State → Outcome → State → Prop := va_Qv (fun (_ : Unit) => True) (fun _ t => x_W X σ t) (x_A X sz)
theorem x_Pc_blind {X : x_T} {σ : x_S} {sz : Nat} {av : List Value} : FrameBlind (x_Pc X σ sz av) := fun a U g mk q => ⟨q.1, q.2.1, q.2.2.1, ⟨q.2.2.2.1.1, va_K.moved (u := U) (U := U.calling g mk a) (Vm.Alike.refl U.vm) q.2.2.2.1.2⟩, x_Ns.same (u := U) (U := U.calling g mk a) rfl q.2.2.2.2⟩
def x_F (p : Program) (s : State) (m : MethodId) (args : Array Value) (meth : Method) (c : Code) (cc : ByteArray) (nL : Nat) (own : String) (ret : Option FieldType) : Prop :=
  p.tables.exec = Jvm.exec ∧ c.code = cc ∧ c.maxLocals = nL ∧ s.vm.findClass own = some m.cls ∧ (∀ w ∈ x_U, w.before args s = true) ∧ x_Ns s ∧ meth.sig.returnType = ret ∧ meth.locks = false
def x_I (X : x_T) (σ : x_S) (s : State) (H : Heap) (locs : List Loc) : Prop :=
  x_Inj X ∧ va_K X.1 vwCl (x_tys X) s ∧ va_P X.1 vwCl (wd X σ) H ∧ va_S (x_A X s.heap.size) s.heap H locs
theorem x_begin {p : Program} {l : Launch} {y : MethodName} {cc : ByteArray} {maxL : Nat} {ret : Option FieldType} {rm : Room} {e : Env} {s : State} {m : MethodId} {args : Array Value} {below : List Frame} {meth : Method} {c : Code} {s₁ : State} {X : x_T} {σ : x_S} {sz : Nat} {av : List Value}
    (B : BodyLoose p l y (headSpec (x_ws y cc maxL ret) rm) cc maxL ret e s m args below meth c s₁) (hml : c.maxLocals = maxL) (hv : x_Pc X σ sz av args s) : x_F p s m args meth c cc maxL y.cls ret ∧ x_I X σ s s.heap [] ∧ args = av.toArray ∧ s.heap.size = sz := by
  obtain ⟨h1, h2, h3, ⟨h4, h5⟩, h6⟩ := hv
  have hts := atoms_spec (ws := x_ws y cc maxL ret) B.pre
  exact ⟨⟨B.exec, B.bytes, hml, findClass_of_methodNamed B.named, fun w hw => hts w (List.mem_cons_of_mem _ hw), h6, B.returns, B.notSynchronized⟩, ⟨h2, h5, h4, va_S.rf⟩, h1, h3⟩
theorem x_A_mono {X : x_T} {a b : Nat} (h : a ≤ b) : ∀ q, x_A X b q → x_A X a q := fun _ hq => hq.elim Or.inl (fun h1 => Or.inr (Nat.le_trans h h1))
/-! ===== pure rows about what a method computes ===== -/
def x_let {α β : Type} (a : α) (f : α → β) : β := f a
theorem x_let_at {α β : Type} {a b : α} {f : α → β} {r : β} (h : x_let a f = r) (e : b = a) : f b = r := by subst e; exact h
theorem x_let_el {α β : Type} {a : α} {f : α → β} {r : β} (h : x_let a f = r) : ∃ b, b = a ∧ f b = r := ⟨a, rfl, h⟩
theorem x_ift {α : Type} {b : Prop} {i : Decidable b} {x y r : α} (h : @ite α b i x y = r) (hb : b) : x = r := (if_pos hb).symm.trans h
theorem x_iff {α : Type} {b : Prop} {i : Decidable b} {x y r : α} (h : @ite α b i x y = r) (hb : ¬ b) : y = r := (if_neg hb).symm.trans h
theorem x_chk {α : Type} {b : Prop} {i : Decidable b} {x : Option α} {r : α} (h : @ite (Option α) b i x none = some r) : b ∧ x = some r := by
  by_cases hb : b
  · exact ⟨hb, (if_pos hb).symm.trans h⟩
  · rw [if_neg hb] at h; cases h
theorem x_bnd {α β : Type} {x : Option α} {f : α → Option β} {r : β} (h : x.bind f = some r) : ∃ a, x = some a ∧ f a = some r := by
  cases x with
  | none => cases h
  | some a => exact ⟨a, rfl, h⟩
theorem x_some {α : Type} {a r : α} (h : some a = some r) : r = a := (Option.some.inj h).symm
abbrev x_in (i : Int32) (n : Nat) : Prop := ¬ (i < 0 ∨ n ≤ i.toNatClampNeg)
