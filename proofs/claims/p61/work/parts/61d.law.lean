def fL_law_j218 (xs : Nat → Int32) (L : Nat) (k47 : x_S → x_S → Int32 → Int32 → Option Int32) (σ : x_S) (τ : x_S) (y3 : Int32) (y4 : Int32) : Option Int32 := (if y3 = 0 then x_let (y4 + (1 : Int32)) fun x33 => k47 σ τ (0 : Int32) x33 else (if 0 < (y4 - y4 / (10 : Int32) * (10 : Int32)) then x_let (y4 + (1 : Int32)) fun x36 => k47 σ τ (1 : Int32) x36 else (Option.bind (fL_alike σ τ) fun r38 => (if r38.1 = 0 then x_let (y4 + (1 : Int32)) fun x41 => k47 r38.2.1 r38.2.2 (0 : Int32) x41 else x_let (y4 + (1 : Int32)) fun x43 => k47 r38.2.1 r38.2.2 (1 : Int32) x43))))
set_option maxHeartbeats 4000000 in
set_option maxRecDepth 100000 in
theorem wL_law_j218 {p : Program} {l : Launch} {e : Env} {s : State} {m : MethodId} {below : List Frame} {meth : Method} {c : Code} {X Y : x_T} {b L : Nat} {xs : Nat → Int32} (FF : xj_F p l s m meth c b L xs X Y) (k47 : x_S → x_S → Int32 → Int32 → Option Int32) (c47 : Nat) (hk47 : ∀ (σ τ : x_S) (y3 : Int32) (y4 : Int32) (H : Heap) (locs : List Loc) (ls : Array Slot) (cells slots : Nat), cells + c47 ≤ 775678 ∧ slots + 6 * c47 ≤ 6774147 → k47 σ τ y3 y4 = some (1 : Int32) → x_J (xj_A s) X Y σ τ s H locs → lv_has ls 8 [(0, .ref b), (1, .ref (X.2.2 10 32)), (2, .ref (Y.2.2 10 32)), (3, .int y3), (4, .int y4)] → W p l e room_1 s m #[Value.ref b] below meth c H locs cells slots (lw_Z below #[Value.ref b] s) (F0 m 47 ls [])) (σ : x_S) (τ : x_S) (y3 : Int32) (y4 : Int32) (H : Heap) (locs : List Loc) (ls : Array Slot) (cells slots : Nat) (hf : cells + (0 + c47) ≤ 775678 ∧ slots + 6 * (0 + c47) ≤ 6774147) (h : fL_law_j218 xs L k47 σ τ y3 y4 = some (1 : Int32)) (hJ : x_J (xj_A s) X Y σ τ s H locs) (hl : lv_has ls 8 [(0, .ref b), (1, .ref (X.2.2 10 32)), (2, .ref (Y.2.2 10 32)), (3, .int y3), (4, .int y4)]) : W p l e room_1 s m #[Value.ref b] below meth c H locs cells slots (lw_Z below #[Value.ref b] s) (F0 m 218 ls []) := by
  have F := FF.1
  have hx := F.1
  have hb := F.2.1
  have hml := F.2.2.1
  have hown := F.2.2.2.1
  have hts := F.2.2.2.2.1
  obtain ⟨hf1, hf2⟩ := hf
  unfold fL_law_j218 at h
  refine lv_iload_n hx hb dL_law_218 rfl (lv_at hl 3 rfl) ?_
  refine lv_if_eq (tgt := 242) hx hb dL_law_219 (by decide) (fun c32 => ?_) (fun c32 => ?_)
  · have h := x_ift h c32
    refine lv_iconst (v := 0) hx hb dL_law_242 (by decide) ?_
    refine lv_istore_n (lv' := [(3, .int (0)), (0, .ref b), (1, .ref (X.2.2 10 32)), (2, .ref (Y.2.2 10 32)), (4, .int y4)]) hx hb dL_law_243 rfl hl (by decide) rfl (fun ls hl => ?_)
    obtain ⟨x33, e34⟩ : ∃ z : Int32, z = (y4 + (1 : Int32)) := ⟨_, rfl⟩
    have h := x_let_at h e34
    refine lv_iinc (v := x33) (lv' := [(4, .int x33), (3, .int (0)), (0, .ref b), (1, .ref (X.2.2 10 32)), (2, .ref (Y.2.2 10 32))]) hx hb dL_law_244 hl (k := 4) rfl (by rw [e34]; rfl) (by decide) rfl (fun ls hl => ?_)
    refine lv_goto (tgt := 47) hx hb dL_law_247 (by decide) ?_
    exact hk47 σ τ (0 : Int32) x33 _ _ _ _ _ ⟨by omega, by omega⟩ h hJ (lv_sub hl [2, 3, 4, 1, 0] rfl)
  · have h := x_iff h c32
    refine lv_iload hx hb dL_law_222 (lv_at hl 4 rfl) ?_
    refine lv_bipush (v := 10) hx hb dL_law_224 (by decide) ?_
    refine lv_irem hx hb dL_law_226 (by decide) ?_
    refine lv_if_gt (tgt := 238) hx hb dL_law_227 (by decide) (fun c35 => ?_) (fun c35 => ?_)
    · have h := x_ift h c35
      refine lv_iconst (v := 1) hx hb dL_law_238 (by decide) ?_
      refine lv_goto (tgt := 243) hx hb dL_law_239 (by decide) ?_
      refine lv_istore_n (lv' := [(3, .int (1)), (0, .ref b), (1, .ref (X.2.2 10 32)), (2, .ref (Y.2.2 10 32)), (4, .int y4)]) hx hb dL_law_243 rfl hl (by decide) rfl (fun ls hl => ?_)
      obtain ⟨x36, e37⟩ : ∃ z : Int32, z = (y4 + (1 : Int32)) := ⟨_, rfl⟩
      have h := x_let_at h e37
      refine lv_iinc (v := x36) (lv' := [(4, .int x36), (3, .int (1)), (0, .ref b), (1, .ref (X.2.2 10 32)), (2, .ref (Y.2.2 10 32))]) hx hb dL_law_244 hl (k := 4) rfl (by rw [e37]; rfl) (by decide) rfl (fun ls hl => ?_)
      refine lv_goto (tgt := 47) hx hb dL_law_247 (by decide) ?_
      exact hk47 σ τ (1 : Int32) x36 _ _ _ _ _ ⟨by omega, by omega⟩ h hJ (lv_sub hl [2, 3, 4, 1, 0] rfl)
    · have h := x_iff h c35
      refine lv_aload_n hx hb dL_law_230 rfl (lv_at hl 1 rfl) ?_
      refine lv_aload_n hx hb dL_law_231 rfl (lv_at hl 2 rfl) ?_
      obtain ⟨r38, h39, h⟩ := x_bnd h
      refine xj_alike FF hJ (rest := []) h39 hl.1 rfl (Nat.le_of_ble_eq_true rfl) dL_law_232 ⟨(by show _ ≤ (775678 : Nat); omega), (by show _ ≤ (6774147 : Nat); omega)⟩ (fun H locs hJ => ?_)
      refine lv_if_eq (tgt := 242) hx hb dL_law_235 (by decide) (fun c40 => ?_) (fun c40 => ?_)
      · have h := x_ift h c40
        refine lv_iconst (v := 0) hx hb dL_law_242 (by decide) ?_
        refine lv_istore_n (lv' := [(3, .int (0)), (0, .ref b), (1, .ref (X.2.2 10 32)), (2, .ref (Y.2.2 10 32)), (4, .int y4)]) hx hb dL_law_243 rfl hl (by decide) rfl (fun ls hl => ?_)
        obtain ⟨x41, e42⟩ : ∃ z : Int32, z = (y4 + (1 : Int32)) := ⟨_, rfl⟩
        have h := x_let_at h e42
        refine lv_iinc (v := x41) (lv' := [(4, .int x41), (3, .int (0)), (0, .ref b), (1, .ref (X.2.2 10 32)), (2, .ref (Y.2.2 10 32))]) hx hb dL_law_244 hl (k := 4) rfl (by rw [e42]; rfl) (by decide) rfl (fun ls hl => ?_)
        refine lv_goto (tgt := 47) hx hb dL_law_247 (by decide) ?_
        exact hk47 r38.2.1 r38.2.2 (0 : Int32) x41 _ _ _ _ _ ⟨by omega, by omega⟩ h hJ (lv_sub hl [2, 3, 4, 1, 0] rfl)
      · have h := x_iff h c40
        refine lv_iconst (v := 1) hx hb dL_law_238 (by decide) ?_
        refine lv_goto (tgt := 243) hx hb dL_law_239 (by decide) ?_
        refine lv_istore_n (lv' := [(3, .int (1)), (0, .ref b), (1, .ref (X.2.2 10 32)), (2, .ref (Y.2.2 10 32)), (4, .int y4)]) hx hb dL_law_243 rfl hl (by decide) rfl (fun ls hl => ?_)
        obtain ⟨x43, e44⟩ : ∃ z : Int32, z = (y4 + (1 : Int32)) := ⟨_, rfl⟩
        have h := x_let_at h e44
        refine lv_iinc (v := x43) (lv' := [(4, .int x43), (3, .int (1)), (0, .ref b), (1, .ref (X.2.2 10 32)), (2, .ref (Y.2.2 10 32))]) hx hb dL_law_244 hl (k := 4) rfl (by rw [e44]; rfl) (by decide) rfl (fun ls hl => ?_)
        refine lv_goto (tgt := 47) hx hb dL_law_247 (by decide) ?_
        exact hk47 r38.2.1 r38.2.2 (1 : Int32) x43 _ _ _ _ _ ⟨by omega, by omega⟩ h hJ (lv_sub hl [2, 3, 4, 1, 0] rfl)
def fL_law_b181 (xs : Nat → Int32) (L : Nat) (k47 : x_S → x_S → Int32 → Int32 → Option Int32) : Nat → x_S → x_S → Int32 → Int32 → Int32 → Option Int32
  | 0, _, _, _, _, _ => none
  | n + 1, σ, τ, y3, y4, y7 => (if (6 : Int32) ≤ y7 then fL_law_j218 xs L k47 σ τ y3 y4 else (if y3 = 0 then fL_law_j218 xs L k47 σ τ y3 y4 else (Option.bind (fL_goBack σ (1 : Int32)) fun r47 => (Option.bind (fL_goBack τ (1 : Int32)) fun r49 => (if (lg_cmp r47.1 r49.1) = 0 then x_let (y7 + (1 : Int32)) fun x52 => (fL_law_b181 xs L k47 n) r47.2 r49.2 (1 : Int32) y4 x52 else x_let (y7 + (1 : Int32)) fun x54 => (fL_law_b181 xs L k47 n) r47.2 r49.2 (0 : Int32) y4 x54)))))
set_option maxHeartbeats 4000000 in
set_option maxRecDepth 100000 in
theorem wL_law_b181 {p : Program} {l : Launch} {e : Env} {s : State} {m : MethodId} {below : List Frame} {meth : Method} {c : Code} {X Y : x_T} {b L : Nat} {xs : Nat → Int32} (FF : xj_F p l s m meth c b L xs X Y) (k47 : x_S → x_S → Int32 → Int32 → Option Int32) (c47 : Nat) (hk47 : ∀ (σ τ : x_S) (y3 : Int32) (y4 : Int32) (H : Heap) (locs : List Loc) (ls : Array Slot) (cells slots : Nat), cells + c47 ≤ 775678 ∧ slots + 6 * c47 ≤ 6774147 → k47 σ τ y3 y4 = some (1 : Int32) → x_J (xj_A s) X Y σ τ s H locs → lv_has ls 8 [(0, .ref b), (1, .ref (X.2.2 10 32)), (2, .ref (Y.2.2 10 32)), (3, .int y3), (4, .int y4)] → W p l e room_1 s m #[Value.ref b] below meth c H locs cells slots (lw_Z below #[Value.ref b] s) (F0 m 47 ls [])) : ∀ (n : Nat) (σ : x_S) (τ : x_S) (y3 : Int32) (y4 : Int32) (y7 : Int32) (H : Heap) (locs : List Loc) (ls : Array Slot) (cells slots : Nat), cells + (2 * n + 0 + c47) ≤ 775678 ∧ slots + 6 * (2 * n + 0 + c47) ≤ 6774147 → fL_law_b181 xs L k47 n σ τ y3 y4 y7 = some (1 : Int32) → x_J (xj_A s) X Y σ τ s H locs → lv_has ls 8 [(0, .ref b), (1, .ref (X.2.2 10 32)), (2, .ref (Y.2.2 10 32)), (3, .int y3), (4, .int y4), (7, .int y7)] → W p l e room_1 s m #[Value.ref b] below meth c H locs cells slots (lw_Z below #[Value.ref b] s) (F0 m 181 ls []) := by
  have F := FF.1
  have hx := F.1
  have hb := F.2.1
  have hml := F.2.2.1
  have hown := F.2.2.2.1
  have hts := F.2.2.2.2.1
  intro n
  induction n with
  | zero =>
    intro σ τ y3 y4 y7 H locs ls cells slots hf h
    rw [fL_law_b181] at h
    cases h
  | succ n ih =>
    intro σ τ y3 y4 y7 H locs ls cells slots hf h hJ hl
    obtain ⟨hf1, hf2⟩ := hf
    rw [fL_law_b181] at h
    refine lv_iload hx hb dL_law_181 (lv_at hl 5 rfl) ?_
    refine lv_bipush (v := 6) hx hb dL_law_183 (by decide) ?_
    refine lv_icmp_ge (tgt := 218) hx hb dL_law_185 (by decide) (fun c45 => ?_) (fun c45 => ?_)
    · have h := x_ift h c45
      exact wL_law_j218 FF k47 c47 hk47 σ τ y3 y4 _ _ _ _ _ ⟨by omega, by omega⟩ h hJ (lv_sub hl [0, 1, 2, 3, 4] rfl)
    · have h := x_iff h c45
      refine lv_iload_n hx hb dL_law_188 rfl (lv_at hl 3 rfl) ?_
      refine lv_if_eq (tgt := 218) hx hb dL_law_189 (by decide) (fun c46 => ?_) (fun c46 => ?_)
      · have h := x_ift h c46
        exact wL_law_j218 FF k47 c47 hk47 σ τ y3 y4 _ _ _ _ _ ⟨by omega, by omega⟩ h hJ (lv_sub hl [0, 1, 2, 3, 4] rfl)
      · have h := x_iff h c46
        refine lv_aload_n hx hb dL_law_192 rfl (lv_at hl 1 rfl) ?_
        refine lv_iconst (v := 1) hx hb dL_law_193 (by decide) ?_
        obtain ⟨r47, h48, h⟩ := x_bnd h
        refine xz_acl FF.2.2.2.2.2.1 hJ (xz_runW (rest := []) F FF.2.2.1 FF.2.2.2.2.2.1 hJ (mL_goBack l FF.2.1 X _ σ (1 : Int32) r47 h48) gw_L_177 hd_L_goBack ⟨by decide, by decide⟩ ⟨rfl, rfl⟩ rfl hl.1 rfl (Nat.le_of_ble_eq_true rfl) dL_law_194 ⟨(by show _ ≤ (775678 : Nat); omega), (by show _ ≤ (6774147 : Nat); omega)⟩) (fun H locs hJ => ?_)
        refine lv_aload_n hx hb dL_law_197 rfl (lv_at hl 2 rfl) ?_
        refine lv_iconst (v := 1) hx hb dL_law_198 (by decide) ?_
        obtain ⟨r49, h50, h⟩ := x_bnd h
        refine xz_aclY FF.2.2.2.2.2.1 hJ (xz_runW (rest := [.long r47.1]) F FF.2.2.1 FF.2.2.2.2.2.1.symm hJ.symm (mL_goBack l FF.2.1 Y _ τ (1 : Int32) r49 h50) gw_L_177 hd_L_goBack ⟨by decide, by decide⟩ ⟨rfl, rfl⟩ rfl hl.1 rfl (Nat.le_of_ble_eq_true rfl) dL_law_199 ⟨(by show _ ≤ (775678 : Nat); omega), (by show _ ≤ (6774147 : Nat); omega)⟩) (fun H locs hJ => ?_)
        refine W.lcmp hx hb dL_law_202 ?_
        refine lv_if_ne (tgt := 210) hx hb dL_law_203 (by decide) (fun c51 => ?_) (fun c51 => ?_)
        · have h := x_iff h c51
          refine lv_iconst (v := 0) hx hb dL_law_210 (by decide) ?_
          refine lv_istore_n (lv' := [(3, .int (0)), (0, .ref b), (1, .ref (X.2.2 10 32)), (2, .ref (Y.2.2 10 32)), (4, .int y4), (7, .int y7)]) hx hb dL_law_211 rfl hl (by decide) rfl (fun ls hl => ?_)
          obtain ⟨x54, e55⟩ : ∃ z : Int32, z = (y7 + (1 : Int32)) := ⟨_, rfl⟩
          have h := x_let_at h e55
          refine lv_iinc (v := x54) (lv' := [(7, .int x54), (3, .int (0)), (0, .ref b), (1, .ref (X.2.2 10 32)), (2, .ref (Y.2.2 10 32)), (4, .int y4)]) hx hb dL_law_212 hl (k := 5) rfl (by rw [e55]; rfl) (by decide) rfl (fun ls hl => ?_)
          refine lv_goto (tgt := 181) hx hb dL_law_215 (by decide) ?_
          exact ih r47.2 r49.2 (0 : Int32) y4 x54 _ _ _ _ _ ⟨by omega, by omega⟩ h hJ (lv_sub hl [2, 3, 4, 1, 5, 0] rfl)
        · have h := x_ift h c51
          refine lv_iconst (v := 1) hx hb dL_law_206 (by decide) ?_
          refine lv_goto (tgt := 211) hx hb dL_law_207 (by decide) ?_
          refine lv_istore_n (lv' := [(3, .int (1)), (0, .ref b), (1, .ref (X.2.2 10 32)), (2, .ref (Y.2.2 10 32)), (4, .int y4), (7, .int y7)]) hx hb dL_law_211 rfl hl (by decide) rfl (fun ls hl => ?_)
          obtain ⟨x52, e53⟩ : ∃ z : Int32, z = (y7 + (1 : Int32)) := ⟨_, rfl⟩
          have h := x_let_at h e53
          refine lv_iinc (v := x52) (lv' := [(7, .int x52), (3, .int (1)), (0, .ref b), (1, .ref (X.2.2 10 32)), (2, .ref (Y.2.2 10 32)), (4, .int y4)]) hx hb dL_law_212 hl (k := 5) rfl (by rw [e53]; rfl) (by decide) rfl (fun ls hl => ?_)
          refine lv_goto (tgt := 181) hx hb dL_law_215 (by decide) ?_
          exact ih r47.2 r49.2 (1 : Int32) y4 x52 _ _ _ _ _ ⟨by omega, by omega⟩ h hJ (lv_sub hl [2, 3, 4, 1, 5, 0] rfl)
def fL_law_j139 (xs : Nat → Int32) (L : Nat) (k47 : x_S → x_S → Int32 → Int32 → Option Int32) (σ : x_S) (τ : x_S) (y3 : Int32) (y4 : Int32) (y6 : Int32) : Option Int32 := (if (y4 - y4 / (13 : Int32) * (13 : Int32)) = (12 : Int32) then (if y3 = 0 then fL_law_b181 xs L k47 7 σ τ (0 : Int32) y4 (0 : Int32) else (Option.bind (fL_follows τ y6) fun r26 => (if r26.1 = 0 then fL_law_b181 xs L k47 7 σ r26.2 (0 : Int32) y4 (0 : Int32) else (Option.bind (fL_keep σ (1 : Int32)) fun r29 => (if (lg_cmp r29.1 (0 : Int64)) = 0 then fL_law_b181 xs L k47 7 r29.2 r26.2 (1 : Int32) y4 (0 : Int32) else fL_law_b181 xs L k47 7 r29.2 r26.2 (0 : Int32) y4 (0 : Int32)))))) else fL_law_j218 xs L k47 σ τ y3 y4)
set_option maxHeartbeats 4000000 in
set_option maxRecDepth 100000 in
theorem wL_law_j139 {p : Program} {l : Launch} {e : Env} {s : State} {m : MethodId} {below : List Frame} {meth : Method} {c : Code} {X Y : x_T} {b L : Nat} {xs : Nat → Int32} (FF : xj_F p l s m meth c b L xs X Y) (k47 : x_S → x_S → Int32 → Int32 → Option Int32) (c47 : Nat) (hk47 : ∀ (σ τ : x_S) (y3 : Int32) (y4 : Int32) (H : Heap) (locs : List Loc) (ls : Array Slot) (cells slots : Nat), cells + c47 ≤ 775678 ∧ slots + 6 * c47 ≤ 6774147 → k47 σ τ y3 y4 = some (1 : Int32) → x_J (xj_A s) X Y σ τ s H locs → lv_has ls 8 [(0, .ref b), (1, .ref (X.2.2 10 32)), (2, .ref (Y.2.2 10 32)), (3, .int y3), (4, .int y4)] → W p l e room_1 s m #[Value.ref b] below meth c H locs cells slots (lw_Z below #[Value.ref b] s) (F0 m 47 ls [])) (σ : x_S) (τ : x_S) (y3 : Int32) (y4 : Int32) (y6 : Int32) (H : Heap) (locs : List Loc) (ls : Array Slot) (cells slots : Nat) (hf : cells + (266 + c47) ≤ 775678 ∧ slots + 6 * (266 + c47) ≤ 6774147) (h : fL_law_j139 xs L k47 σ τ y3 y4 y6 = some (1 : Int32)) (hJ : x_J (xj_A s) X Y σ τ s H locs) (hl : lv_has ls 8 [(0, .ref b), (1, .ref (X.2.2 10 32)), (2, .ref (Y.2.2 10 32)), (3, .int y3), (4, .int y4), (6, .int y6)]) : W p l e room_1 s m #[Value.ref b] below meth c H locs cells slots (lw_Z below #[Value.ref b] s) (F0 m 139 ls []) := by
  have F := FF.1
  have hx := F.1
  have hb := F.2.1
  have hml := F.2.2.1
  have hown := F.2.2.2.1
  have hts := F.2.2.2.2.1
  obtain ⟨hf1, hf2⟩ := hf
  unfold fL_law_j139 at h
  refine lv_iload hx hb dL_law_139 (lv_at hl 4 rfl) ?_
  refine lv_bipush (v := 13) hx hb dL_law_141 (by decide) ?_
  refine lv_irem hx hb dL_law_143 (by decide) ?_
  refine lv_bipush (v := 12) hx hb dL_law_144 (by decide) ?_
  refine lv_icmp_ne (tgt := 218) hx hb dL_law_146 (by decide) (fun c24 => ?_) (fun c24 => ?_)
  · have h := x_iff h c24
    exact wL_law_j218 FF k47 c47 hk47 σ τ y3 y4 _ _ _ _ _ ⟨by omega, by omega⟩ h hJ (lv_sub hl [0, 1, 2, 3, 4] rfl)
  · have h := x_ift h c24
    refine lv_iload_n hx hb dL_law_149 rfl (lv_at hl 3 rfl) ?_
    refine lv_if_eq (tgt := 176) hx hb dL_law_150 (by decide) (fun c25 => ?_) (fun c25 => ?_)
    · have h := x_ift h c25
      refine lv_iconst (v := 0) hx hb dL_law_176 (by decide) ?_
      refine lv_istore_n (lv' := [(3, .int (0)), (0, .ref b), (1, .ref (X.2.2 10 32)), (2, .ref (Y.2.2 10 32)), (4, .int y4), (6, .int y6)]) hx hb dL_law_177 rfl hl (by decide) rfl (fun ls hl => ?_)
      refine lv_iconst (v := 0) hx hb dL_law_178 (by decide) ?_
      refine lv_istore (lv' := [(7, .int (0)), (3, .int (0)), (0, .ref b), (1, .ref (X.2.2 10 32)), (2, .ref (Y.2.2 10 32)), (4, .int y4), (6, .int y6)]) hx hb dL_law_179 hl (by decide) rfl (fun ls hl => ?_)
      exact wL_law_b181 FF k47 c47 hk47 7 σ τ (0 : Int32) y4 (0 : Int32) _ _ _ _ _ ⟨by omega, by omega⟩ h hJ (lv_sub hl [2, 3, 4, 1, 5, 0] rfl)
    · have h := x_iff h c25
      refine lv_aload_n hx hb dL_law_153 rfl (lv_at hl 2 rfl) ?_
      refine lv_iload hx hb dL_law_154 (lv_at hl 5 rfl) ?_
      obtain ⟨r26, h27, h⟩ := x_bnd h
      refine xz_aciY FF.2.2.2.2.2.1 hJ (xz_runM (rest := []) F FF.2.2.1 FF.2.2.2.2.2.1.symm hJ.symm (mL_follows l FF.2.1 Y _ τ y6 r26 h27) gm_L_316 hd_L_follows ⟨by decide, by decide⟩ ⟨rfl, rfl⟩ rfl hl.1 rfl (Nat.le_of_ble_eq_true rfl) dL_law_156 ⟨(by show _ ≤ (775678 : Nat); omega), (by show _ ≤ (6774147 : Nat); omega)⟩) (fun H locs hJ => ?_)
      refine lv_if_eq (tgt := 176) hx hb dL_law_159 (by decide) (fun c28 => ?_) (fun c28 => ?_)
      · have h := x_ift h c28
        refine lv_iconst (v := 0) hx hb dL_law_176 (by decide) ?_
        refine lv_istore_n (lv' := [(3, .int (0)), (0, .ref b), (1, .ref (X.2.2 10 32)), (2, .ref (Y.2.2 10 32)), (4, .int y4), (6, .int y6)]) hx hb dL_law_177 rfl hl (by decide) rfl (fun ls hl => ?_)
        refine lv_iconst (v := 0) hx hb dL_law_178 (by decide) ?_
        refine lv_istore (lv' := [(7, .int (0)), (3, .int (0)), (0, .ref b), (1, .ref (X.2.2 10 32)), (2, .ref (Y.2.2 10 32)), (4, .int y4), (6, .int y6)]) hx hb dL_law_179 hl (by decide) rfl (fun ls hl => ?_)
        exact wL_law_b181 FF k47 c47 hk47 7 σ r26.2 (0 : Int32) y4 (0 : Int32) _ _ _ _ _ ⟨by omega, by omega⟩ h hJ (lv_sub hl [2, 3, 4, 1, 5, 0] rfl)
      · have h := x_iff h c28
        refine lv_aload_n hx hb dL_law_162 rfl (lv_at hl 1 rfl) ?_
        refine lv_iconst (v := 1) hx hb dL_law_163 (by decide) ?_
        obtain ⟨r29, h30, h⟩ := x_bnd h
        refine xz_acl FF.2.2.2.2.2.1 hJ (xz_runW (rest := []) F FF.2.2.1 FF.2.2.2.2.2.1 hJ (mL_keep l FF.2.1 X _ σ (1 : Int32) r29 h30) gw_L_175 hd_L_keep ⟨by decide, by decide⟩ ⟨rfl, rfl⟩ rfl hl.1 rfl (Nat.le_of_ble_eq_true rfl) dL_law_164 ⟨(by show _ ≤ (775678 : Nat); omega), (by show _ ≤ (6774147 : Nat); omega)⟩) (fun H locs hJ => ?_)
        refine lv_lconst (v := 0) hx hb dL_law_167 (by decide) ?_
        refine W.lcmp hx hb dL_law_168 ?_
        refine lv_if_ne (tgt := 176) hx hb dL_law_169 (by decide) (fun c31 => ?_) (fun c31 => ?_)
        · have h := x_iff h c31
          refine lv_iconst (v := 0) hx hb dL_law_176 (by decide) ?_
          refine lv_istore_n (lv' := [(3, .int (0)), (0, .ref b), (1, .ref (X.2.2 10 32)), (2, .ref (Y.2.2 10 32)), (4, .int y4), (6, .int y6)]) hx hb dL_law_177 rfl hl (by decide) rfl (fun ls hl => ?_)
          refine lv_iconst (v := 0) hx hb dL_law_178 (by decide) ?_
          refine lv_istore (lv' := [(7, .int (0)), (3, .int (0)), (0, .ref b), (1, .ref (X.2.2 10 32)), (2, .ref (Y.2.2 10 32)), (4, .int y4), (6, .int y6)]) hx hb dL_law_179 hl (by decide) rfl (fun ls hl => ?_)
          exact wL_law_b181 FF k47 c47 hk47 7 r29.2 r26.2 (0 : Int32) y4 (0 : Int32) _ _ _ _ _ ⟨by omega, by omega⟩ h hJ (lv_sub hl [2, 3, 4, 1, 5, 0] rfl)
        · have h := x_ift h c31
          refine lv_iconst (v := 1) hx hb dL_law_172 (by decide) ?_
          refine lv_goto (tgt := 177) hx hb dL_law_173 (by decide) ?_
          refine lv_istore_n (lv' := [(3, .int (1)), (0, .ref b), (1, .ref (X.2.2 10 32)), (2, .ref (Y.2.2 10 32)), (4, .int y4), (6, .int y6)]) hx hb dL_law_177 rfl hl (by decide) rfl (fun ls hl => ?_)
          refine lv_iconst (v := 0) hx hb dL_law_178 (by decide) ?_
          refine lv_istore (lv' := [(7, .int (0)), (3, .int (1)), (0, .ref b), (1, .ref (X.2.2 10 32)), (2, .ref (Y.2.2 10 32)), (4, .int y4), (6, .int y6)]) hx hb dL_law_179 hl (by decide) rfl (fun ls hl => ?_)
          exact wL_law_b181 FF k47 c47 hk47 7 r29.2 r26.2 (1 : Int32) y4 (0 : Int32) _ _ _ _ _ ⟨by omega, by omega⟩ h hJ (lv_sub hl [2, 3, 4, 1, 5, 0] rfl)
def fL_law_j138 (xs : Nat → Int32) (L : Nat) (k47 : x_S → x_S → Int32 → Int32 → Option Int32) (σ : x_S) (τ : x_S) (y4 : Int32) (y6 : Int32) (z0 : Int32) : Option Int32 := fL_law_j139 xs L k47 σ τ z0 y4 y6
set_option maxHeartbeats 4000000 in
set_option maxRecDepth 100000 in
theorem wL_law_j138 {p : Program} {l : Launch} {e : Env} {s : State} {m : MethodId} {below : List Frame} {meth : Method} {c : Code} {X Y : x_T} {b L : Nat} {xs : Nat → Int32} (FF : xj_F p l s m meth c b L xs X Y) (k47 : x_S → x_S → Int32 → Int32 → Option Int32) (c47 : Nat) (hk47 : ∀ (σ τ : x_S) (y3 : Int32) (y4 : Int32) (H : Heap) (locs : List Loc) (ls : Array Slot) (cells slots : Nat), cells + c47 ≤ 775678 ∧ slots + 6 * c47 ≤ 6774147 → k47 σ τ y3 y4 = some (1 : Int32) → x_J (xj_A s) X Y σ τ s H locs → lv_has ls 8 [(0, .ref b), (1, .ref (X.2.2 10 32)), (2, .ref (Y.2.2 10 32)), (3, .int y3), (4, .int y4)] → W p l e room_1 s m #[Value.ref b] below meth c H locs cells slots (lw_Z below #[Value.ref b] s) (F0 m 47 ls [])) (σ : x_S) (τ : x_S) (y4 : Int32) (y6 : Int32) (z0 : Int32) (H : Heap) (locs : List Loc) (ls : Array Slot) (cells slots : Nat) (hf : cells + (266 + c47) ≤ 775678 ∧ slots + 6 * (266 + c47) ≤ 6774147) (h : fL_law_j138 xs L k47 σ τ y4 y6 z0 = some (1 : Int32)) (hJ : x_J (xj_A s) X Y σ τ s H locs) (hl : lv_has ls 8 [(0, .ref b), (1, .ref (X.2.2 10 32)), (2, .ref (Y.2.2 10 32)), (4, .int y4), (6, .int y6)]) : W p l e room_1 s m #[Value.ref b] below meth c H locs cells slots (lw_Z below #[Value.ref b] s) (F0 m 138 ls [.int z0]) := by
  have F := FF.1
  have hx := F.1
  have hb := F.2.1
  have hml := F.2.2.1
  have hown := F.2.2.2.1
  have hts := F.2.2.2.2.1
  obtain ⟨hf1, hf2⟩ := hf
  unfold fL_law_j138 at h
  refine lv_istore_n (lv' := [(3, .int z0), (0, .ref b), (1, .ref (X.2.2 10 32)), (2, .ref (Y.2.2 10 32)), (4, .int y4), (6, .int y6)]) hx hb dL_law_138 rfl hl (by decide) rfl (fun ls hl => ?_)
  exact wL_law_j139 FF k47 c47 hk47 σ τ z0 y4 y6 _ _ _ _ _ ⟨by omega, by omega⟩ h hJ (lv_sub hl [1, 2, 3, 0, 4, 5] rfl)
def fL_law_j137 (xs : Nat → Int32) (L : Nat) (k47 : x_S → x_S → Int32 → Int32 → Option Int32) (σ : x_S) (τ : x_S) (y4 : Int32) (y6 : Int32) : Option Int32 := fL_law_j138 xs L k47 σ τ y4 y6 (0 : Int32)
set_option maxHeartbeats 4000000 in
set_option maxRecDepth 100000 in
theorem wL_law_j137 {p : Program} {l : Launch} {e : Env} {s : State} {m : MethodId} {below : List Frame} {meth : Method} {c : Code} {X Y : x_T} {b L : Nat} {xs : Nat → Int32} (FF : xj_F p l s m meth c b L xs X Y) (k47 : x_S → x_S → Int32 → Int32 → Option Int32) (c47 : Nat) (hk47 : ∀ (σ τ : x_S) (y3 : Int32) (y4 : Int32) (H : Heap) (locs : List Loc) (ls : Array Slot) (cells slots : Nat), cells + c47 ≤ 775678 ∧ slots + 6 * c47 ≤ 6774147 → k47 σ τ y3 y4 = some (1 : Int32) → x_J (xj_A s) X Y σ τ s H locs → lv_has ls 8 [(0, .ref b), (1, .ref (X.2.2 10 32)), (2, .ref (Y.2.2 10 32)), (3, .int y3), (4, .int y4)] → W p l e room_1 s m #[Value.ref b] below meth c H locs cells slots (lw_Z below #[Value.ref b] s) (F0 m 47 ls [])) (σ : x_S) (τ : x_S) (y4 : Int32) (y6 : Int32) (H : Heap) (locs : List Loc) (ls : Array Slot) (cells slots : Nat) (hf : cells + (266 + c47) ≤ 775678 ∧ slots + 6 * (266 + c47) ≤ 6774147) (h : fL_law_j137 xs L k47 σ τ y4 y6 = some (1 : Int32)) (hJ : x_J (xj_A s) X Y σ τ s H locs) (hl : lv_has ls 8 [(0, .ref b), (1, .ref (X.2.2 10 32)), (2, .ref (Y.2.2 10 32)), (4, .int y4), (6, .int y6)]) : W p l e room_1 s m #[Value.ref b] below meth c H locs cells slots (lw_Z below #[Value.ref b] s) (F0 m 137 ls []) := by
  have F := FF.1
  have hx := F.1
  have hb := F.2.1
  have hml := F.2.2.1
  have hown := F.2.2.2.1
  have hts := F.2.2.2.2.1
  obtain ⟨hf1, hf2⟩ := hf
  unfold fL_law_j137 at h
  refine lv_iconst (v := 0) hx hb dL_law_137 (by decide) ?_
  exact wL_law_j138 FF k47 c47 hk47 σ τ y4 y6 (0 : Int32) _ _ _ _ _ ⟨by omega, by omega⟩ h hJ (lv_sub hl [0, 1, 2, 3, 4] rfl)
def fL_law_j105 (xs : Nat → Int32) (L : Nat) (k47 : x_S → x_S → Int32 → Int32 → Option Int32) (σ : x_S) (τ : x_S) (y4 : Int32) (y6 : Int32) (z0 : Int32) : Option Int32 := (if (y4 - y4 / (8 : Int32) * (8 : Int32)) = (3 : Int32) then (if z0 = 0 then fL_law_j137 xs L k47 σ τ y4 y6 else (Option.bind (fL_errors τ ) fun r18 => (if r18.1 = 0 then fL_law_j137 xs L k47 σ r18.2 y4 y6 else (Option.bind (fL_kept r18.2 ) fun r21 => (if r21.1 = 0 then fL_law_j137 xs L k47 σ r21.2 y4 y6 else fL_law_j138 xs L k47 σ r21.2 y4 y6 (1 : Int32)))))) else fL_law_j139 xs L k47 σ τ z0 y4 y6)
set_option maxHeartbeats 4000000 in
set_option maxRecDepth 100000 in
theorem wL_law_j105 {p : Program} {l : Launch} {e : Env} {s : State} {m : MethodId} {below : List Frame} {meth : Method} {c : Code} {X Y : x_T} {b L : Nat} {xs : Nat → Int32} (FF : xj_F p l s m meth c b L xs X Y) (k47 : x_S → x_S → Int32 → Int32 → Option Int32) (c47 : Nat) (hk47 : ∀ (σ τ : x_S) (y3 : Int32) (y4 : Int32) (H : Heap) (locs : List Loc) (ls : Array Slot) (cells slots : Nat), cells + c47 ≤ 775678 ∧ slots + 6 * c47 ≤ 6774147 → k47 σ τ y3 y4 = some (1 : Int32) → x_J (xj_A s) X Y σ τ s H locs → lv_has ls 8 [(0, .ref b), (1, .ref (X.2.2 10 32)), (2, .ref (Y.2.2 10 32)), (3, .int y3), (4, .int y4)] → W p l e room_1 s m #[Value.ref b] below meth c H locs cells slots (lw_Z below #[Value.ref b] s) (F0 m 47 ls [])) (σ : x_S) (τ : x_S) (y4 : Int32) (y6 : Int32) (z0 : Int32) (H : Heap) (locs : List Loc) (ls : Array Slot) (cells slots : Nat) (hf : cells + (1972 + c47) ≤ 775678 ∧ slots + 6 * (1972 + c47) ≤ 6774147) (h : fL_law_j105 xs L k47 σ τ y4 y6 z0 = some (1 : Int32)) (hJ : x_J (xj_A s) X Y σ τ s H locs) (hl : lv_has ls 8 [(0, .ref b), (1, .ref (X.2.2 10 32)), (2, .ref (Y.2.2 10 32)), (4, .int y4), (6, .int y6)]) : W p l e room_1 s m #[Value.ref b] below meth c H locs cells slots (lw_Z below #[Value.ref b] s) (F0 m 105 ls [.int z0]) := by
  have F := FF.1
  have hx := F.1
  have hb := F.2.1
  have hml := F.2.2.1
  have hown := F.2.2.2.1
  have hts := F.2.2.2.2.1
  obtain ⟨hf1, hf2⟩ := hf
  unfold fL_law_j105 at h
  refine lv_istore_n (lv' := [(3, .int z0), (0, .ref b), (1, .ref (X.2.2 10 32)), (2, .ref (Y.2.2 10 32)), (4, .int y4), (6, .int y6)]) hx hb dL_law_105 rfl hl (by decide) rfl (fun ls hl => ?_)
  refine lv_iload hx hb dL_law_106 (lv_at hl 4 rfl) ?_
  refine lv_bipush (v := 8) hx hb dL_law_108 (by decide) ?_
  refine lv_irem hx hb dL_law_110 (by decide) ?_
  refine lv_iconst (v := 3) hx hb dL_law_111 (by decide) ?_
  refine lv_icmp_ne (tgt := 139) hx hb dL_law_112 (by decide) (fun c16 => ?_) (fun c16 => ?_)
  · have h := x_iff h c16
    exact wL_law_j139 FF k47 c47 hk47 σ τ z0 y4 y6 _ _ _ _ _ ⟨by omega, by omega⟩ h hJ (lv_sub hl [1, 2, 3, 0, 4, 5] rfl)
  · have h := x_ift h c16
    refine lv_iload_n hx hb dL_law_115 rfl (lv_at hl 0 rfl) ?_
    refine lv_if_eq (tgt := 137) hx hb dL_law_116 (by decide) (fun c17 => ?_) (fun c17 => ?_)
    · have h := x_ift h c17
      exact wL_law_j137 FF k47 c47 hk47 σ τ y4 y6 _ _ _ _ _ ⟨by omega, by omega⟩ h hJ (lv_sub hl [1, 2, 3, 4, 5] rfl)
    · have h := x_iff h c17
      refine lv_aload_n hx hb dL_law_119 rfl (lv_at hl 3 rfl) ?_
      obtain ⟨r18, h19, h⟩ := x_bnd h
      refine xz_aciY FF.2.2.2.2.2.1 hJ (xz_runM (rest := []) F FF.2.2.1 FF.2.2.2.2.2.1.symm hJ.symm (mL_errors l FF.2.1 Y _ τ  r18 h19) gm_L_302 hd_L_errors ⟨by decide, by decide⟩ ⟨rfl, rfl⟩ rfl hl.1 rfl (Nat.le_of_ble_eq_true rfl) dL_law_120 ⟨(by show _ ≤ (775678 : Nat); omega), (by show _ ≤ (6774147 : Nat); omega)⟩) (fun H locs hJ => ?_)
      refine lv_if_eq (tgt := 137) hx hb dL_law_123 (by decide) (fun c20 => ?_) (fun c20 => ?_)
      · have h := x_ift h c20
        exact wL_law_j137 FF k47 c47 hk47 σ r18.2 y4 y6 _ _ _ _ _ ⟨by omega, by omega⟩ h hJ (lv_sub hl [1, 2, 3, 4, 5] rfl)
      · have h := x_iff h c20
        refine lv_aload_n hx hb dL_law_126 rfl (lv_at hl 3 rfl) ?_
        obtain ⟨r21, h22, h⟩ := x_bnd h
        refine xz_aciY FF.2.2.2.2.2.1 hJ (xz_runM (rest := []) F FF.2.2.1 FF.2.2.2.2.2.1.symm hJ.symm (mL_kept l FF.2.1 Y _ r18.2  r21 h22) gm_L_306 hd_L_kept ⟨by decide, by decide⟩ ⟨rfl, rfl⟩ rfl hl.1 rfl (Nat.le_of_ble_eq_true rfl) dL_law_127 ⟨(by show _ ≤ (775678 : Nat); omega), (by show _ ≤ (6774147 : Nat); omega)⟩) (fun H locs hJ => ?_)
        refine lv_if_eq (tgt := 137) hx hb dL_law_130 (by decide) (fun c23 => ?_) (fun c23 => ?_)
        · have h := x_ift h c23
          exact wL_law_j137 FF k47 c47 hk47 σ r21.2 y4 y6 _ _ _ _ _ ⟨by omega, by omega⟩ h hJ (lv_sub hl [1, 2, 3, 4, 5] rfl)
        · have h := x_iff h c23
          refine lv_iconst (v := 1) hx hb dL_law_133 (by decide) ?_
          refine lv_goto (tgt := 138) hx hb dL_law_134 (by decide) ?_
          exact wL_law_j138 FF k47 c47 hk47 σ r21.2 y4 y6 (1 : Int32) _ _ _ _ _ ⟨by omega, by omega⟩ h hJ (lv_sub hl [1, 2, 3, 4, 5] rfl)
def fL_law_j250 (xs : Nat → Int32) (L : Nat) (σ : x_S) (τ : x_S) (y3 : Int32) : Option Int32 := (if y3 = 0 then some (0 : Int32) else (Option.bind (fL_alike σ τ) fun r13 => (if r13.1 = 0 then some (0 : Int32) else some (1 : Int32))))
set_option maxHeartbeats 4000000 in
set_option maxRecDepth 100000 in
theorem wL_law_j250 {p : Program} {l : Launch} {e : Env} {s : State} {m : MethodId} {below : List Frame} {meth : Method} {c : Code} {X Y : x_T} {b L : Nat} {xs : Nat → Int32} (FF : xj_F p l s m meth c b L xs X Y) (σ : x_S) (τ : x_S) (y3 : Int32) (H : Heap) (locs : List Loc) (ls : Array Slot) (cells slots : Nat) (hf : cells + (0) ≤ 775678 ∧ slots + 6 * (0) ≤ 6774147) (h : fL_law_j250 xs L σ τ y3 = some (1 : Int32)) (hJ : x_J (xj_A s) X Y σ τ s H locs) (hl : lv_has ls 8 [(0, .ref b), (1, .ref (X.2.2 10 32)), (2, .ref (Y.2.2 10 32)), (3, .int y3)]) : W p l e room_1 s m #[Value.ref b] below meth c H locs cells slots (lw_Z below #[Value.ref b] s) (F0 m 250 ls []) := by
  have F := FF.1
  have hx := F.1
  have hb := F.2.1
  have hml := F.2.2.1
  have hown := F.2.2.2.1
  have hts := F.2.2.2.2.1
  obtain ⟨hf1, hf2⟩ := hf
  unfold fL_law_j250 at h
  refine lv_iload_n hx hb dL_law_250 rfl (lv_at hl 3 rfl) ?_
  refine lv_if_eq (tgt := 266) hx hb dL_law_251 (by decide) (fun c12 => ?_) (fun c12 => ?_)
  · have h := x_ift h c12
    refine lv_iconst (v := 0) hx hb dL_law_266 (by decide) ?_
    exact absurd (x_some h) (by decide)
  · have h := x_iff h c12
    refine lv_aload_n hx hb dL_law_254 rfl (lv_at hl 1 rfl) ?_
    refine lv_aload_n hx hb dL_law_255 rfl (lv_at hl 2 rfl) ?_
    obtain ⟨r13, h14, h⟩ := x_bnd h
    refine xj_alike FF hJ (rest := []) h14 hl.1 rfl (Nat.le_of_ble_eq_true rfl) dL_law_256 ⟨(by show _ ≤ (775678 : Nat); omega), (by show _ ≤ (6774147 : Nat); omega)⟩ (fun H locs hJ => ?_)
    refine lv_if_eq (tgt := 266) hx hb dL_law_259 (by decide) (fun c15 => ?_) (fun c15 => ?_)
    · have h := x_ift h c15
      refine lv_iconst (v := 0) hx hb dL_law_266 (by decide) ?_
      exact absurd (x_some h) (by decide)
    · have h := x_iff h c15
      refine lv_iconst (v := 1) hx hb dL_law_262 (by decide) ?_
      refine lv_goto (tgt := 267) hx hb dL_law_263 (by decide) ?_
      exact xj_ret FF hJ (by omega) (by omega) dL_law_267
def fL_law_b47 (xs : Nat → Int32) (L : Nat) : Nat → x_S → x_S → Int32 → Int32 → Option Int32
  | 0, _, _, _, _ => none
  | n + 1, σ, τ, y3, y4 => (if (40 : Int32) ≤ y4 then fL_law_j250 xs L σ τ y3 else (if y3 = 0 then fL_law_j250 xs L σ τ y3 else (Option.bind (fL_draw xs L ((2 : Int32) * y4)) fun r3 => (Option.bind (fL_draw xs L (((2 : Int32) * y4) + (1 : Int32))) fun r5 => (Option.bind (fL_act σ r3 r5) fun r7 => (Option.bind (fL_act τ r3 r5) fun r9 => (if (lg_cmp r7.1 r9.1) = 0 then fL_law_j105 xs L (fL_law_b47 xs L n) r7.2 r9.2 y4 r5 (1 : Int32) else fL_law_j105 xs L (fL_law_b47 xs L n) r7.2 r9.2 y4 r5 (0 : Int32))))))))
set_option maxHeartbeats 4000000 in
set_option maxRecDepth 100000 in
theorem wL_law_b47 {p : Program} {l : Launch} {e : Env} {s : State} {m : MethodId} {below : List Frame} {meth : Method} {c : Code} {X Y : x_T} {b L : Nat} {xs : Nat → Int32} (FF : xj_F p l s m meth c b L xs X Y) : ∀ (n : Nat) (σ : x_S) (τ : x_S) (y3 : Int32) (y4 : Int32) (H : Heap) (locs : List Loc) (ls : Array Slot) (cells slots : Nat), cells + (2022 * n + 0) ≤ 775678 ∧ slots + 6 * (2022 * n + 0) ≤ 6774147 → fL_law_b47 xs L n σ τ y3 y4 = some (1 : Int32) → x_J (xj_A s) X Y σ τ s H locs → lv_has ls 8 [(0, .ref b), (1, .ref (X.2.2 10 32)), (2, .ref (Y.2.2 10 32)), (3, .int y3), (4, .int y4)] → W p l e room_1 s m #[Value.ref b] below meth c H locs cells slots (lw_Z below #[Value.ref b] s) (F0 m 47 ls []) := by
  have F := FF.1
  have hx := F.1
  have hb := F.2.1
  have hml := F.2.2.1
  have hown := F.2.2.2.1
  have hts := F.2.2.2.2.1
  intro n
  induction n with
  | zero =>
    intro σ τ y3 y4 H locs ls cells slots hf h
    rw [fL_law_b47] at h
    cases h
  | succ n ih =>
    intro σ τ y3 y4 H locs ls cells slots hf h hJ hl
    obtain ⟨hf1, hf2⟩ := hf
    rw [fL_law_b47] at h
    refine lv_iload hx hb dL_law_47 (lv_at hl 4 rfl) ?_
    refine lv_bipush (v := 40) hx hb dL_law_49 (by decide) ?_
    refine lv_icmp_ge (tgt := 250) hx hb dL_law_51 (by decide) (fun c1 => ?_) (fun c1 => ?_)
    · have h := x_ift h c1
      exact wL_law_j250 FF σ τ y3 _ _ _ _ _ ⟨by omega, by omega⟩ h hJ (lv_sub hl [0, 1, 2, 3] rfl)
    · have h := x_iff h c1
      refine lv_iload_n hx hb dL_law_54 rfl (lv_at hl 3 rfl) ?_
      refine lv_if_eq (tgt := 250) hx hb dL_law_55 (by decide) (fun c2 => ?_) (fun c2 => ?_)
      · have h := x_ift h c2
        exact wL_law_j250 FF σ τ y3 _ _ _ _ _ ⟨by omega, by omega⟩ h hJ (lv_sub hl [0, 1, 2, 3] rfl)
      · have h := x_iff h c2
        refine lv_aload_n hx hb dL_law_58 rfl (lv_at hl 0 rfl) ?_
        refine lv_iconst (v := 2) hx hb dL_law_59 (by decide) ?_
        refine lv_iload hx hb dL_law_60 (lv_at hl 4 rfl) ?_
        refine lv_imul hx hb dL_law_62 ?_
        obtain ⟨r3, h4, h⟩ := x_bnd h
        refine xj_draw FF hJ (rest := []) h4 hl.1 rfl (Nat.le_of_ble_eq_true rfl) dL_law_63 ⟨(by show _ ≤ (775678 : Nat); omega), (by show _ ≤ (6774147 : Nat); omega)⟩ (fun H locs hJ => ?_)
        refine lv_istore (lv' := [(5, .int r3), (0, .ref b), (1, .ref (X.2.2 10 32)), (2, .ref (Y.2.2 10 32)), (3, .int y3), (4, .int y4)]) hx hb dL_law_66 hl (by decide) rfl (fun ls hl => ?_)
        refine lv_aload_n hx hb dL_law_68 rfl (lv_at hl 1 rfl) ?_
        refine lv_iconst (v := 2) hx hb dL_law_69 (by decide) ?_
        refine lv_iload hx hb dL_law_70 (lv_at hl 5 rfl) ?_
        refine lv_imul hx hb dL_law_72 ?_
        refine lv_iconst (v := 1) hx hb dL_law_73 (by decide) ?_
        refine lv_iadd hx hb dL_law_74 ?_
        obtain ⟨r5, h6, h⟩ := x_bnd h
        refine xj_draw FF hJ (rest := []) h6 hl.1 rfl (Nat.le_of_ble_eq_true rfl) dL_law_75 ⟨(by show _ ≤ (775678 : Nat); omega), (by show _ ≤ (6774147 : Nat); omega)⟩ (fun H locs hJ => ?_)
        refine lv_istore (lv' := [(6, .int r5), (5, .int r3), (0, .ref b), (1, .ref (X.2.2 10 32)), (2, .ref (Y.2.2 10 32)), (3, .int y3), (4, .int y4)]) hx hb dL_law_78 hl (by decide) rfl (fun ls hl => ?_)
        refine lv_aload_n hx hb dL_law_80 rfl (lv_at hl 3 rfl) ?_
        refine lv_iload hx hb dL_law_81 (lv_at hl 1 rfl) ?_
        refine lv_iload hx hb dL_law_83 (lv_at hl 0 rfl) ?_
        obtain ⟨r7, h8, h⟩ := x_bnd h
        refine xz_acl FF.2.2.2.2.2.1 hJ (xz_runM (rest := []) F FF.2.2.1 FF.2.2.2.2.2.1 hJ (mL_act l FF.2.1 X _ σ r3 r5 r7 h8) gm_L_313 hd_L_act ⟨by decide, by decide⟩ ⟨rfl, rfl⟩ rfl hl.1 rfl (Nat.le_of_ble_eq_true rfl) dL_law_85 ⟨(by show _ ≤ (775678 : Nat); omega), (by show _ ≤ (6774147 : Nat); omega)⟩) (fun H locs hJ => ?_)
        refine lv_aload_n hx hb dL_law_88 rfl (lv_at hl 4 rfl) ?_
        refine lv_iload hx hb dL_law_89 (lv_at hl 1 rfl) ?_
        refine lv_iload hx hb dL_law_91 (lv_at hl 0 rfl) ?_
        obtain ⟨r9, h10, h⟩ := x_bnd h
        refine xz_aclY FF.2.2.2.2.2.1 hJ (xz_runM (rest := [.long r7.1]) F FF.2.2.1 FF.2.2.2.2.2.1.symm hJ.symm (mL_act l FF.2.1 Y _ τ r3 r5 r9 h10) gm_L_313 hd_L_act ⟨by decide, by decide⟩ ⟨rfl, rfl⟩ rfl hl.1 rfl (Nat.le_of_ble_eq_true rfl) dL_law_93 ⟨(by show _ ≤ (775678 : Nat); omega), (by show _ ≤ (6774147 : Nat); omega)⟩) (fun H locs hJ => ?_)
        refine W.lcmp hx hb dL_law_96 ?_
        refine lv_if_ne (tgt := 104) hx hb dL_law_97 (by decide) (fun c11 => ?_) (fun c11 => ?_)
        · have h := x_iff h c11
          refine lv_iconst (v := 0) hx hb dL_law_104 (by decide) ?_
          exact wL_law_j105 FF (fL_law_b47 xs L n) (2022 * n + 0) ih r7.2 r9.2 y4 r5 (0 : Int32) _ _ _ _ _ ⟨by omega, by omega⟩ h hJ (lv_sub hl [2, 3, 4, 6, 0] rfl)
        · have h := x_ift h c11
          refine lv_iconst (v := 1) hx hb dL_law_100 (by decide) ?_
          refine lv_goto (tgt := 105) hx hb dL_law_101 (by decide) ?_
          exact wL_law_j105 FF (fL_law_b47 xs L n) (2022 * n + 0) ih r7.2 r9.2 y4 r5 (1 : Int32) _ _ _ _ _ ⟨by omega, by omega⟩ h hJ (lv_sub hl [2, 3, 4, 6, 0] rfl)
