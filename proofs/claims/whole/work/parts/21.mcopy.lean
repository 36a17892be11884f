abbrev rm_X7_copy : Room := { frames := 0, cells := 0, slots := 0, locals := 0 }
def fX7_copy_b2 (k0 k1 : Nat) : Nat → x_H → Int32 → Option x_H
  | 0, _, _ => none
  | n + 1, u, y2 => (if (570 : Int32) ≤ y2 then some (u) else (if x_in y2 570 then x_let (x_hu u k1 (Int32.toNatClampNeg y2) (u k0 (Int32.toNatClampNeg y2))) fun u3 => x_let (y2 + (1 : Int32)) fun x5 => fX7_copy_b2 k0 k1 n u3 x5 else none))
set_option maxHeartbeats 4000000 in
set_option maxRecDepth 100000 in
theorem wX7_copy_b2 {p : Program} {l : Launch} {e : Env} {s : State} {m : MethodId} {args : Array Value} {below : List Frame} {meth : Method} {c : Code} {X : x_T} {σ : x_S} {r : x_H} {k0 : Nat} (hk0 : (11, k0) ∈ x_ids) (hc0 : ∀ v : x_V, x_cell X 11 k0 v = .inl (X.2.1 0, 570, .inl v)) {k1 : Nat} (hk1 : (11, k1) ∈ x_ids) (hc1 : ∀ v : x_V, x_cell X 11 k1 v = .inl (X.2.1 0, 570, .inl v)) (F : x_F p s m args meth c cX7_copy 3 RX7 none) : ∀ (n : Nat) (u : x_H) (y2 : Int32) (H : Heap) (locs : List Loc) (ls : Array Slot), fX7_copy_b2 k0 k1 n u y2 = some r → x_I X (x_sh σ 11 u) s H locs → lv_has ls 3 [(0, .ref (X.2.2 11 k0)), (1, .ref (X.2.2 11 k1)), (2, .int y2)] → W p l e rm_X7_copy s m args below meth c H locs 0 0 (MQ below (x_Qv X (x_sh σ 11 r) s.heap.size) args s 0 0 (x_A X s.heap.size)) (F0 m 2 ls []) := by
  have hx := F.1
  have hb := F.2.1
  have hml := F.2.2.1
  have hown := F.2.2.2.1
  have hts := F.2.2.2.2.1
  intro n
  induction n with
  | zero =>
    intro u y2 H locs ls h
    rw [fX7_copy_b2] at h
    cases h
  | succ n ih =>
    intro u y2 H locs ls h hI hl
    rw [fX7_copy_b2] at h
    refine lv_iload_n hx hb dX7_copy_2 rfl (lv_at hl 2 rfl) ?_
    refine lv_sipush (v := 570) hx hb dX7_copy_3 (by decide) ?_
    refine lv_icmp_ge (tgt := 21) hx hb dX7_copy_6 (by decide) (fun c1 => ?_) (fun c1 => ?_)
    · have h := x_ift h c1
      rw [x_some h]
      exact x_vret F hI dX7_copy_21
    · have h := x_iff h c1
      refine lv_aload_n hx hb dX7_copy_9 rfl (lv_at hl 1 rfl) ?_
      refine lv_iload_n hx hb dX7_copy_10 rfl (lv_at hl 2 rfl) ?_
      refine lv_aload_n hx hb dX7_copy_11 rfl (lv_at hl 0 rfl) ?_
      refine lv_iload_n hx hb dX7_copy_12 rfl (lv_at hl 2 rfl) ?_
      obtain ⟨g2, h⟩ := x_chk h
      refine xh_iald (n := 570) F hI hk0 hc0 g2 dX7_copy_13 ?_
      refine xh_iast (n := 570) F hI hk1 hc1 g2 dX7_copy_14 (fun H locs u3 e4 hI => ?_)
      have h := x_let_at h e4
      obtain ⟨x5, e6⟩ : ∃ z : Int32, z = (y2 + (1 : Int32)) := ⟨_, rfl⟩
      have h := x_let_at h e6
      refine lv_iinc (v := x5) (lv' := [(2, .int x5), (0, .ref (X.2.2 11 k0)), (1, .ref (X.2.2 11 k1))]) hx hb dX7_copy_15 hl (k := 2) rfl (by rw [e6]; rfl) (by decide) rfl (fun ls hl => ?_)
      refine lv_goto (tgt := 2) hx hb dX7_copy_18 (by decide) ?_
      exact ih u3 x5 _ _ _ h hI (lv_sub hl [1, 2, 0] rfl)
def fX7_copy (u : x_H) (k0 k1 : Nat) : Option x_H := fX7_copy_b2 k0 k1 4000 u (0 : Int32)
set_option maxHeartbeats 4000000 in
set_option maxRecDepth 100000 in
theorem mX7_copy (l : Launch) (X : x_T) (σ : x_S) (k0 : Nat) (hk0 : (11, k0) ∈ x_ids) (hc0 : ∀ v : x_V, x_cell X 11 k0 v = .inl (X.2.1 0, 570, .inl v)) (k1 : Nat) (hk1 : (11, k1) ∈ x_ids) (hc1 : ∀ v : x_V, x_cell X 11 k1 v = .inl (X.2.1 0, 570, .inl v)) (sz : Nat) (u : x_H) (r : x_H) (h : fX7_copy u k0 k1  = some r) : Met l yX7_copy (x_ws yX7_copy cX7_copy 3 none) rm_X7_copy (x_Pc X (x_sh σ 11 u) sz [.ref (X.2.2 11 k0), .ref (X.2.2 11 k1)]) (x_Qv X (x_sh σ 11 r) sz) 0 0 (x_A X sz) := by
  refine Met.ofW (cc := cX7_copy) (maxL := 3) (ret := none) (by decide) rfl ?_
  intro p e s m args below meth c s₁ B hml hv
  obtain ⟨F, hI, rfl, rfl⟩ := x_begin B hml hv
  replace F : x_F p s m _ meth c cX7_copy 3 RX7 none := F
  have hx := F.1
  have hb := F.2.1
  have hml := F.2.2.1
  have hown := F.2.2.2.1
  have hts := F.2.2.2.2.1
  refine x_entry (vs := [.ref (X.2.2 11 k0), .ref (X.2.2 11 k1)]) (n := 3) (Nat.le_of_ble_eq_true rfl) (fun ls hl => ?_)
  replace hl : lv_has ls 3 [(0, .ref (X.2.2 11 k0)), (1, .ref (X.2.2 11 k1))] := hl
  unfold fX7_copy at h
  refine lv_iconst (v := 0) hx hb dX7_copy_0 (by decide) ?_
  refine lv_istore_n (lv' := [(2, .int (0)), (0, .ref (X.2.2 11 k0)), (1, .ref (X.2.2 11 k1))]) hx hb dX7_copy_1 rfl hl (by decide) rfl (fun ls hl => ?_)
  exact wX7_copy_b2 hk0 hc0 hk1 hc1 F 4000 u (0 : Int32) _ _ _ h hI (lv_sub hl [1, 2, 0] rfl)
