abbrev rm_L_kept : Room := { frames := 9, cells := 1468, slots := 8808, locals := 159 }
def fL_kept_j836 (σ : x_S) (y7 : Int32) (y8 : Int64) : Option (Int32 × x_S) := (Option.bind (fX6_lost σ ) fun r237 => (Option.bind (fX6_delivered σ ) fun r239 => (if (lg_cmp y8 (((r237 + r239) + y7)).toInt64) = 0 then (Option.bind (fX6_leases σ ) fun r242 => (Option.bind (fL_sent σ (3 : Int32)) fun r244 => (if (lg_cmp r242.toInt64 r244.1) = 0 then some ((1 : Int32), r244.2) else some ((0 : Int32), r244.2)))) else some ((0 : Int32), σ))))
set_option maxHeartbeats 4000000 in
set_option maxRecDepth 100000 in
theorem wL_kept_j836 {p : Program} {l : Launch} {e : Env} {s : State} {m : MethodId} {args : Array Value} {below : List Frame} {meth : Method} {c : Code} {X : x_T} {r : (Int32 × x_S)} (F : x_F p s m args meth c cL_kept 12 RL (some .boolean)) (Z : xm_Z l s X) (σ : x_S) (y7 : Int32) (y8 : Int64) (H : Heap) (locs : List Loc) (ls : Array Slot) (cells slots : Nat) (hf : cells + (1) ≤ 1468 ∧ slots + 6 * (1) ≤ 8808) (h : fL_kept_j836 σ y7 y8 = some r) (hI : x_I X σ s H locs) (hl : lv_has ls 12 [(0, .ref (X.2.2 10 32)), (7, .int y7), (8, .long y8)]) : W p l e rm_L_kept s m args below meth c H locs cells slots (MQ below (x_Qi X r.1 r.2 s.heap.size) args s 1468 8808 (x_A X s.heap.size)) (F0 m 836 ls []) := by
  have hx := F.1
  have hb := F.2.1
  have hml := F.2.2.1
  have hown := F.2.2.2.1
  have hts := F.2.2.2.2.1
  obtain ⟨hf1, hf2⟩ := hf
  unfold fL_kept_j836 at h
  refine lv_lload hx hb dL_kept_836 (lv_at hl 2 rfl) ?_
  refine lv_aload_n hx hb dL_kept_838 rfl (lv_at hl 0 rfl) ?_
  obtain ⟨r237, h238, h⟩ := x_bnd h
  refine x_aci hI (x_runV (rest := [.long y8]) F hI (mX6_lost l X _ σ  r237 h238) g_L_258 ⟨rfl, hd_X6_lost⟩ ⟨by decide, by decide⟩ ⟨rfl, rfl⟩ (x_inO (by decide)) rfl rfl rfl rfl hl.1 rfl (Nat.le_of_ble_eq_true rfl) dL_kept_839 ⟨(by show _ ≤ (1468 : Nat); omega), (by show _ ≤ (8808 : Nat); omega)⟩) (fun H locs hI => ?_)
  refine lv_aload_n hx hb dL_kept_842 rfl (lv_at hl 0 rfl) ?_
  obtain ⟨r239, h240, h⟩ := x_bnd h
  refine x_aci hI (x_runV (rest := [.int r237, .long y8]) F hI (mX6_delivered l X _ σ  r239 h240) g_L_261 ⟨rfl, hd_X6_delivered⟩ ⟨by decide, by decide⟩ ⟨rfl, rfl⟩ (x_inO (by decide)) rfl rfl rfl rfl hl.1 rfl (Nat.le_of_ble_eq_true rfl) dL_kept_843 ⟨(by show _ ≤ (1468 : Nat); omega), (by show _ ≤ (8808 : Nat); omega)⟩) (fun H locs hI => ?_)
  refine lv_iadd hx hb dL_kept_846 ?_
  refine lv_iload hx hb dL_kept_847 (lv_at hl 1 rfl) ?_
  refine lv_iadd hx hb dL_kept_849 ?_
  refine lv_i2l hx hb dL_kept_850 rfl ?_
  refine W.lcmp hx hb dL_kept_851 ?_
  refine lv_if_ne (tgt := 873) hx hb dL_kept_852 (by decide) (fun c241 => ?_) (fun c241 => ?_)
  · have h := x_iff h c241
    refine lv_iconst (v := 0) hx hb dL_kept_873 (by decide) ?_
    rw [x_some h]
    exact W.widen (by omega) (by omega) (x_zret (v := 0) F hI (by decide) dL_kept_874)
  · have h := x_ift h c241
    refine lv_aload_n hx hb dL_kept_855 rfl (lv_at hl 0 rfl) ?_
    obtain ⟨r242, h243, h⟩ := x_bnd h
    refine x_aci hI (x_runV (rest := []) F hI (mX6_leases l X _ σ  r242 h243) g_L_264 ⟨rfl, hd_X6_leases⟩ ⟨by decide, by decide⟩ ⟨rfl, rfl⟩ (x_inO (by decide)) rfl rfl rfl rfl hl.1 rfl (Nat.le_of_ble_eq_true rfl) dL_kept_856 ⟨(by show _ ≤ (1468 : Nat); omega), (by show _ ≤ (8808 : Nat); omega)⟩) (fun H locs hI => ?_)
    refine lv_i2l hx hb dL_kept_859 rfl ?_
    refine lv_aload_n hx hb dL_kept_860 rfl (lv_at hl 0 rfl) ?_
    refine lv_iconst (v := 3) hx hb dL_kept_861 (by decide) ?_
    obtain ⟨r244, h245, h⟩ := x_bnd h
    refine xm_acl hI (xw_run (rest := [.long r242.toInt64]) F Z.2 hI (mL_sent l Z.1 X _ σ (3 : Int32) r244 h245) gw_L_210 hd_L_sent ⟨by decide, by decide⟩ ⟨rfl, rfl⟩ rfl hl.1 rfl (Nat.le_of_ble_eq_true rfl) dL_kept_862 ⟨(by show _ ≤ (1468 : Nat); omega), (by show _ ≤ (8808 : Nat); omega)⟩) (fun H locs hI => ?_)
    refine W.lcmp hx hb dL_kept_865 ?_
    refine lv_if_ne (tgt := 873) hx hb dL_kept_866 (by decide) (fun c246 => ?_) (fun c246 => ?_)
    · have h := x_iff h c246
      refine lv_iconst (v := 0) hx hb dL_kept_873 (by decide) ?_
      rw [x_some h]
      exact W.widen (by omega) (by omega) (x_zret (v := 0) F hI (by decide) dL_kept_874)
    · have h := x_ift h c246
      refine lv_iconst (v := 1) hx hb dL_kept_869 (by decide) ?_
      refine lv_goto (tgt := 874) hx hb dL_kept_870 (by decide) ?_
      rw [x_some h]
      exact W.widen (by omega) (by omega) (x_zret (v := 1) F hI (by decide) dL_kept_874)
def fL_kept_j770 (σ : x_S) (y1 : Int32) (y2 : Int32) (y3 : Int32) (y4 : Int32) (y5 : Int64) (y7 : Int32) (y8 : Int64) : Option (Int32 × x_S) := (if y1 = 0 then some ((0 : Int32), σ) else (Option.bind (fX6_leasedByRooms σ ) fun r220 => (if y2 = r220 then (Option.bind (fX6_freeRooms σ ) fun r223 => (if y3 = r223 then (Option.bind (fX6_housed σ ) fun r226 => (if y4 = r226 then (if y2 < y4 then some ((0 : Int32), σ) else (if (lg_cmp y5 (0 : Int64)) = 0 then (Option.bind (fL_nextByRooms σ ) fun r231 => (if (lg_cmp r231.1 (-9000000000000000003 : Int64)) = 0 then fL_kept_j836 r231.2 y7 y8 else some ((0 : Int32), r231.2))) else (Option.bind (fL_nextByRooms σ ) fun r234 => (if (lg_cmp r234.1 y5) = 0 then fL_kept_j836 r234.2 y7 y8 else some ((0 : Int32), r234.2))))) else some ((0 : Int32), σ))) else some ((0 : Int32), σ))) else some ((0 : Int32), σ))))
set_option maxHeartbeats 4000000 in
set_option maxRecDepth 100000 in
theorem wL_kept_j770 {p : Program} {l : Launch} {e : Env} {s : State} {m : MethodId} {args : Array Value} {below : List Frame} {meth : Method} {c : Code} {X : x_T} {r : (Int32 × x_S)} (F : x_F p s m args meth c cL_kept 12 RL (some .boolean)) (Z : xm_Z l s X) (σ : x_S) (y1 : Int32) (y2 : Int32) (y3 : Int32) (y4 : Int32) (y5 : Int64) (y7 : Int32) (y8 : Int64) (H : Heap) (locs : List Loc) (ls : Array Slot) (cells slots : Nat) (hf : cells + (2) ≤ 1468 ∧ slots + 6 * (2) ≤ 8808) (h : fL_kept_j770 σ y1 y2 y3 y4 y5 y7 y8 = some r) (hI : x_I X σ s H locs) (hl : lv_has ls 12 [(0, .ref (X.2.2 10 32)), (1, .int y1), (2, .int y2), (3, .int y3), (4, .int y4), (5, .long y5), (7, .int y7), (8, .long y8)]) : W p l e rm_L_kept s m args below meth c H locs cells slots (MQ below (x_Qi X r.1 r.2 s.heap.size) args s 1468 8808 (x_A X s.heap.size)) (F0 m 770 ls []) := by
  have hx := F.1
  have hb := F.2.1
  have hml := F.2.2.1
  have hown := F.2.2.2.1
  have hts := F.2.2.2.2.1
  obtain ⟨hf1, hf2⟩ := hf
  unfold fL_kept_j770 at h
  refine lv_iload_n hx hb dL_kept_770 rfl (lv_at hl 1 rfl) ?_
  refine lv_if_eq (tgt := 873) hx hb dL_kept_771 (by decide) (fun c219 => ?_) (fun c219 => ?_)
  · have h := x_ift h c219
    refine lv_iconst (v := 0) hx hb dL_kept_873 (by decide) ?_
    rw [x_some h]
    exact W.widen (by omega) (by omega) (x_zret (v := 0) F hI (by decide) dL_kept_874)
  · have h := x_iff h c219
    refine lv_iload_n hx hb dL_kept_774 rfl (lv_at hl 2 rfl) ?_
    refine lv_aload_n hx hb dL_kept_775 rfl (lv_at hl 0 rfl) ?_
    obtain ⟨r220, h221, h⟩ := x_bnd h
    refine x_aci hI (x_runV (rest := [.int y2]) F hI (mX6_leasedByRooms l X _ σ  r220 h221) g_L_226 ⟨rfl, hd_X6_leasedByRooms⟩ ⟨by decide, by decide⟩ ⟨rfl, rfl⟩ (x_inO (by decide)) rfl rfl rfl rfl hl.1 rfl (Nat.le_of_ble_eq_true rfl) dL_kept_776 ⟨(by show _ ≤ (1468 : Nat); omega), (by show _ ≤ (8808 : Nat); omega)⟩) (fun H locs hI => ?_)
    refine lv_icmp_ne (tgt := 873) hx hb dL_kept_779 (by decide) (fun c222 => ?_) (fun c222 => ?_)
    · have h := x_iff h c222
      refine lv_iconst (v := 0) hx hb dL_kept_873 (by decide) ?_
      rw [x_some h]
      exact W.widen (by omega) (by omega) (x_zret (v := 0) F hI (by decide) dL_kept_874)
    · have h := x_ift h c222
      refine lv_iload_n hx hb dL_kept_782 rfl (lv_at hl 3 rfl) ?_
      refine lv_aload_n hx hb dL_kept_783 rfl (lv_at hl 0 rfl) ?_
      obtain ⟨r223, h224, h⟩ := x_bnd h
      refine x_aci hI (x_runV (rest := [.int y3]) F hI (mX6_freeRooms l X _ σ  r223 h224) g_L_212 ⟨rfl, hd_X6_freeRooms⟩ ⟨by decide, by decide⟩ ⟨rfl, rfl⟩ (x_inO (by decide)) rfl rfl rfl rfl hl.1 rfl (Nat.le_of_ble_eq_true rfl) dL_kept_784 ⟨(by show _ ≤ (1468 : Nat); omega), (by show _ ≤ (8808 : Nat); omega)⟩) (fun H locs hI => ?_)
      refine lv_icmp_ne (tgt := 873) hx hb dL_kept_787 (by decide) (fun c225 => ?_) (fun c225 => ?_)
      · have h := x_iff h c225
        refine lv_iconst (v := 0) hx hb dL_kept_873 (by decide) ?_
        rw [x_some h]
        exact W.widen (by omega) (by omega) (x_zret (v := 0) F hI (by decide) dL_kept_874)
      · have h := x_ift h c225
        refine lv_iload hx hb dL_kept_790 (lv_at hl 4 rfl) ?_
        refine lv_aload_n hx hb dL_kept_792 rfl (lv_at hl 0 rfl) ?_
        obtain ⟨r226, h227, h⟩ := x_bnd h
        refine x_aci hI (x_runV (rest := [.int y4]) F hI (mX6_housed l X _ σ  r226 h227) g_L_243 ⟨rfl, hd_X6_housed⟩ ⟨by decide, by decide⟩ ⟨rfl, rfl⟩ (x_inO (by decide)) rfl rfl rfl rfl hl.1 rfl (Nat.le_of_ble_eq_true rfl) dL_kept_793 ⟨(by show _ ≤ (1468 : Nat); omega), (by show _ ≤ (8808 : Nat); omega)⟩) (fun H locs hI => ?_)
        refine lv_icmp_ne (tgt := 873) hx hb dL_kept_796 (by decide) (fun c228 => ?_) (fun c228 => ?_)
        · have h := x_iff h c228
          refine lv_iconst (v := 0) hx hb dL_kept_873 (by decide) ?_
          rw [x_some h]
          exact W.widen (by omega) (by omega) (x_zret (v := 0) F hI (by decide) dL_kept_874)
        · have h := x_ift h c228
          refine lv_iload hx hb dL_kept_799 (lv_at hl 4 rfl) ?_
          refine lv_iload_n hx hb dL_kept_801 rfl (lv_at hl 2 rfl) ?_
          refine lv_icmp_gt (tgt := 873) hx hb dL_kept_802 (by decide) (fun c229 => ?_) (fun c229 => ?_)
          · have h := x_ift h c229
            refine lv_iconst (v := 0) hx hb dL_kept_873 (by decide) ?_
            rw [x_some h]
            exact W.widen (by omega) (by omega) (x_zret (v := 0) F hI (by decide) dL_kept_874)
          · have h := x_iff h c229
            refine lv_lload hx hb dL_kept_805 (lv_at hl 5 rfl) ?_
            refine lv_lconst (v := 0) hx hb dL_kept_807 (by decide) ?_
            refine W.lcmp hx hb dL_kept_808 ?_
            refine lv_if_ne (tgt := 826) hx hb dL_kept_809 (by decide) (fun c230 => ?_) (fun c230 => ?_)
            · have h := x_iff h c230
              refine lv_aload_n hx hb dL_kept_826 rfl (lv_at hl 0 rfl) ?_
              obtain ⟨r234, h235, h⟩ := x_bnd h
              refine xm_acl hI (xw_run (rest := []) F Z.2 hI (mL_nextByRooms l Z.1 X _ σ  r234 h235) gw_L_215 hd_L_nextByRooms ⟨by decide, by decide⟩ ⟨rfl, rfl⟩ rfl hl.1 rfl (Nat.le_of_ble_eq_true rfl) dL_kept_827 ⟨(by show _ ≤ (1468 : Nat); omega), (by show _ ≤ (8808 : Nat); omega)⟩) (fun H locs hI => ?_)
              refine lv_lload hx hb dL_kept_830 (lv_at hl 5 rfl) ?_
              refine W.lcmp hx hb dL_kept_832 ?_
              refine lv_if_ne (tgt := 873) hx hb dL_kept_833 (by decide) (fun c236 => ?_) (fun c236 => ?_)
              · have h := x_iff h c236
                refine lv_iconst (v := 0) hx hb dL_kept_873 (by decide) ?_
                rw [x_some h]
                exact W.widen (by omega) (by omega) (x_zret (v := 0) F hI (by decide) dL_kept_874)
              · have h := x_ift h c236
                exact wL_kept_j836 F Z r234.2 y7 y8 _ _ _ _ _ ⟨by omega, by omega⟩ h hI (lv_sub hl [0, 6, 7] rfl)
            · have h := x_ift h c230
              refine lv_aload_n hx hb dL_kept_812 rfl (lv_at hl 0 rfl) ?_
              obtain ⟨r231, h232, h⟩ := x_bnd h
              refine xm_acl hI (xw_run (rest := []) F Z.2 hI (mL_nextByRooms l Z.1 X _ σ  r231 h232) gw_L_215 hd_L_nextByRooms ⟨by decide, by decide⟩ ⟨rfl, rfl⟩ rfl hl.1 rfl (Nat.le_of_ble_eq_true rfl) dL_kept_813 ⟨(by show _ ≤ (1468 : Nat); omega), (by show _ ≤ (8808 : Nat); omega)⟩) (fun H locs hI => ?_)
              refine lv_ldc2 (v := -9000000000000000003) hx hb hown (hts _ u_cl_L_21) dL_kept_816 ?_
              refine W.lcmp hx hb dL_kept_819 ?_
              refine lv_if_ne (tgt := 873) hx hb dL_kept_820 (by decide) (fun c233 => ?_) (fun c233 => ?_)
              · have h := x_iff h c233
                refine lv_iconst (v := 0) hx hb dL_kept_873 (by decide) ?_
                rw [x_some h]
                exact W.widen (by omega) (by omega) (x_zret (v := 0) F hI (by decide) dL_kept_874)
              · have h := x_ift h c233
                refine lv_goto (tgt := 836) hx hb dL_kept_823 (by decide) ?_
                exact wL_kept_j836 F Z r231.2 y7 y8 _ _ _ _ _ ⟨by omega, by omega⟩ h hI (lv_sub hl [0, 6, 7] rfl)
def fL_kept_b667 : Nat → x_S → Int32 → Int32 → Int32 → Int32 → Int64 → Int32 → Int64 → Int32 → Option (Int32 × x_S)
  | 0, _, _, _, _, _, _, _, _, _ => none
  | n + 1, σ, y1, y2, y3, y4, y5, y7, y8, y10 => (Option.bind (fX6_messages σ ) fun r180 => (if r180 ≤ y10 then fL_kept_j770 σ y1 y2 y3 y4 y5 y7 y8 else (if y1 = 0 then fL_kept_j770 σ y1 y2 y3 y4 y5 y7 y8 else x_let (y7 + (1 : Int32)) fun x184 => (Option.bind (fL_kindAt σ y10) fun r186 => (Option.bind (fL_in r186.1 (0 : Int64) (6 : Int64)) fun r188 => (if r188 = 0 then x_let (y10 + (1 : Int32)) fun x191 => (fL_kept_b667 n) r186.2 (0 : Int32) y2 y3 y4 y5 x184 y8 x191 else (Option.bind (fL_guestAt r186.2 y10) fun r193 => (Option.bind (fL_in r193.1 (0 : Int64) (11 : Int64)) fun r195 => (if r195 = 0 then x_let (y10 + (1 : Int32)) fun x198 => (fL_kept_b667 n) r193.2 (0 : Int32) y2 y3 y4 y5 x184 y8 x198 else (Option.bind (fL_kindAt r193.2 y10) fun r200 => (if (lg_cmp r200.1 (0 : Int64)) = 0 then (Option.bind (fL_roomAt r200.2 y10) fun r203 => (if (lg_cmp r203.1 (-9000000000000000003 : Int64)) = 0 then x_let (y10 + (1 : Int32)) fun x206 => (fL_kept_b667 n) r203.2 (1 : Int32) y2 y3 y4 y5 x184 y8 x206 else x_let (y10 + (1 : Int32)) fun x208 => (fL_kept_b667 n) r203.2 (0 : Int32) y2 y3 y4 y5 x184 y8 x208)) else (Option.bind (fL_roomAt r200.2 y10) fun r210 => (Option.bind (fL_in r210.1 (0 : Int64) (15 : Int64)) fun r212 => (if r212 = 0 then x_let (y10 + (1 : Int32)) fun x215 => (fL_kept_b667 n) r210.2 (0 : Int32) y2 y3 y4 y5 x184 y8 x215 else x_let (y10 + (1 : Int32)) fun x217 => (fL_kept_b667 n) r210.2 (1 : Int32) y2 y3 y4 y5 x184 y8 x217))))))))))))))
set_option maxHeartbeats 4000000 in
set_option maxRecDepth 100000 in
theorem wL_kept_b667 {p : Program} {l : Launch} {e : Env} {s : State} {m : MethodId} {args : Array Value} {below : List Frame} {meth : Method} {c : Code} {X : x_T} {r : (Int32 × x_S)} (F : x_F p s m args meth c cL_kept 12 RL (some .boolean)) (Z : xm_Z l s X) : ∀ (n : Nat) (σ : x_S) (y1 : Int32) (y2 : Int32) (y3 : Int32) (y4 : Int32) (y5 : Int64) (y7 : Int32) (y8 : Int64) (y10 : Int32) (H : Heap) (locs : List Loc) (ls : Array Slot) (cells slots : Nat), cells + (4 * n + 2) ≤ 1468 ∧ slots + 6 * (4 * n + 2) ≤ 8808 → fL_kept_b667 n σ y1 y2 y3 y4 y5 y7 y8 y10 = some r → x_I X σ s H locs → lv_has ls 12 [(0, .ref (X.2.2 10 32)), (1, .int y1), (2, .int y2), (3, .int y3), (4, .int y4), (5, .long y5), (7, .int y7), (8, .long y8), (10, .int y10)] → W p l e rm_L_kept s m args below meth c H locs cells slots (MQ below (x_Qi X r.1 r.2 s.heap.size) args s 1468 8808 (x_A X s.heap.size)) (F0 m 667 ls []) := by
  have hx := F.1
  have hb := F.2.1
  have hml := F.2.2.1
  have hown := F.2.2.2.1
  have hts := F.2.2.2.2.1
  intro n
  induction n with
  | zero =>
    intro σ y1 y2 y3 y4 y5 y7 y8 y10 H locs ls cells slots hf h
    rw [fL_kept_b667] at h
    cases h
  | succ n ih =>
    intro σ y1 y2 y3 y4 y5 y7 y8 y10 H locs ls cells slots hf h hI hl
    obtain ⟨hf1, hf2⟩ := hf
    rw [fL_kept_b667] at h
    refine lv_iload hx hb dL_kept_667 (lv_at hl 8 rfl) ?_
    refine lv_aload_n hx hb dL_kept_669 rfl (lv_at hl 0 rfl) ?_
    obtain ⟨r180, h181, h⟩ := x_bnd h
    refine x_aci hI (x_runV (rest := [.int y10]) F hI (mX6_messages l X _ σ  r180 h181) g_L_140 ⟨rfl, hd_X6_messages⟩ ⟨by decide, by decide⟩ ⟨rfl, rfl⟩ (x_inO (by decide)) rfl rfl rfl rfl hl.1 rfl (Nat.le_of_ble_eq_true rfl) dL_kept_670 ⟨(by show _ ≤ (1468 : Nat); omega), (by show _ ≤ (8808 : Nat); omega)⟩) (fun H locs hI => ?_)
    refine lv_icmp_ge (tgt := 770) hx hb dL_kept_673 (by decide) (fun c182 => ?_) (fun c182 => ?_)
    · have h := x_ift h c182
      exact wL_kept_j770 F Z σ y1 y2 y3 y4 y5 y7 y8 _ _ _ _ _ ⟨by omega, by omega⟩ h hI (lv_sub hl [0, 1, 2, 3, 4, 5, 6, 7] rfl)
    · have h := x_iff h c182
      refine lv_iload_n hx hb dL_kept_676 rfl (lv_at hl 1 rfl) ?_
      refine lv_if_eq (tgt := 770) hx hb dL_kept_677 (by decide) (fun c183 => ?_) (fun c183 => ?_)
      · have h := x_ift h c183
        exact wL_kept_j770 F Z σ y1 y2 y3 y4 y5 y7 y8 _ _ _ _ _ ⟨by omega, by omega⟩ h hI (lv_sub hl [0, 1, 2, 3, 4, 5, 6, 7] rfl)
      · have h := x_iff h c183
        obtain ⟨x184, e185⟩ : ∃ z : Int32, z = (y7 + (1 : Int32)) := ⟨_, rfl⟩
        have h := x_let_at h e185
        refine lv_iinc (v := x184) (lv' := [(7, .int x184), (0, .ref (X.2.2 10 32)), (1, .int y1), (2, .int y2), (3, .int y3), (4, .int y4), (5, .long y5), (8, .long y8), (10, .int y10)]) hx hb dL_kept_680 hl (k := 6) rfl (by rw [e185]; rfl) (by decide) rfl (fun ls hl => ?_)
        refine lv_aload_n hx hb dL_kept_683 rfl (lv_at hl 1 rfl) ?_
        refine lv_iload hx hb dL_kept_684 (lv_at hl 8 rfl) ?_
        obtain ⟨r186, h187, h⟩ := x_bnd h
        refine xm_acl hI (xw_run (rest := []) F Z.2 hI (mL_kindAt l Z.1 X _ σ y10 r186 h187) gw_L_204 hd_L_kindAt ⟨by decide, by decide⟩ ⟨rfl, rfl⟩ rfl hl.1 rfl (Nat.le_of_ble_eq_true rfl) dL_kept_686 ⟨(by show _ ≤ (1468 : Nat); omega), (by show _ ≤ (8808 : Nat); omega)⟩) (fun H locs hI => ?_)
        refine lv_lconst (v := 0) hx hb dL_kept_689 (by decide) ?_
        refine lv_ldc2 (v := 6) hx hb hown (hts _ u_cl_L_241) dL_kept_690 ?_
        obtain ⟨r188, h189, h⟩ := x_bnd h
        refine x_aci hI (x_runS (rest := []) F hI (mL_in l X r186.2 _ r186.1 (0 : Int64) (6 : Int64) r188 h189) g_L_234 hd_L_in ⟨by decide, by decide⟩ ⟨rfl, rfl⟩ rfl hl.1 rfl (Nat.le_of_ble_eq_true rfl) dL_kept_693 ⟨(by show _ ≤ (1468 : Nat); omega), (by show _ ≤ (8808 : Nat); omega)⟩) (fun H locs hI => ?_)
        refine lv_if_eq (tgt := 762) hx hb dL_kept_696 (by decide) (fun c190 => ?_) (fun c190 => ?_)
        · have h := x_ift h c190
          refine lv_iconst (v := 0) hx hb dL_kept_762 (by decide) ?_
          refine lv_istore_n (lv' := [(1, .int (0)), (7, .int x184), (0, .ref (X.2.2 10 32)), (2, .int y2), (3, .int y3), (4, .int y4), (5, .long y5), (8, .long y8), (10, .int y10)]) hx hb dL_kept_763 rfl hl (by decide) rfl (fun ls hl => ?_)
          obtain ⟨x191, e192⟩ : ∃ z : Int32, z = (y10 + (1 : Int32)) := ⟨_, rfl⟩
          have h := x_let_at h e192
          refine lv_iinc (v := x191) (lv' := [(10, .int x191), (1, .int (0)), (7, .int x184), (0, .ref (X.2.2 10 32)), (2, .int y2), (3, .int y3), (4, .int y4), (5, .long y5), (8, .long y8)]) hx hb dL_kept_764 hl (k := 8) rfl (by rw [e192]; rfl) (by decide) rfl (fun ls hl => ?_)
          refine lv_goto (tgt := 667) hx hb dL_kept_767 (by decide) ?_
          exact ih r186.2 (0 : Int32) y2 y3 y4 y5 x184 y8 x191 _ _ _ _ _ ⟨by omega, by omega⟩ h hI (lv_sub hl [3, 1, 4, 5, 6, 7, 2, 8, 0] rfl)
        · have h := x_iff h c190
          refine lv_aload_n hx hb dL_kept_699 rfl (lv_at hl 1 rfl) ?_
          refine lv_iload hx hb dL_kept_700 (lv_at hl 8 rfl) ?_
          obtain ⟨r193, h194, h⟩ := x_bnd h
          refine xm_acl hI (xw_run (rest := []) F Z.2 hI (mL_guestAt l Z.1 X _ r186.2 y10 r193 h194) gw_L_206 hd_L_guestAt ⟨by decide, by decide⟩ ⟨rfl, rfl⟩ rfl hl.1 rfl (Nat.le_of_ble_eq_true rfl) dL_kept_702 ⟨(by show _ ≤ (1468 : Nat); omega), (by show _ ≤ (8808 : Nat); omega)⟩) (fun H locs hI => ?_)
          refine lv_lconst (v := 0) hx hb dL_kept_705 (by decide) ?_
          refine lv_ldc2 (v := 11) hx hb hown (hts _ u_cl_L_254) dL_kept_706 ?_
          obtain ⟨r195, h196, h⟩ := x_bnd h
          refine x_aci hI (x_runS (rest := []) F hI (mL_in l X r193.2 _ r193.1 (0 : Int64) (11 : Int64) r195 h196) g_L_234 hd_L_in ⟨by decide, by decide⟩ ⟨rfl, rfl⟩ rfl hl.1 rfl (Nat.le_of_ble_eq_true rfl) dL_kept_709 ⟨(by show _ ≤ (1468 : Nat); omega), (by show _ ≤ (8808 : Nat); omega)⟩) (fun H locs hI => ?_)
          refine lv_if_eq (tgt := 762) hx hb dL_kept_712 (by decide) (fun c197 => ?_) (fun c197 => ?_)
          · have h := x_ift h c197
            refine lv_iconst (v := 0) hx hb dL_kept_762 (by decide) ?_
            refine lv_istore_n (lv' := [(1, .int (0)), (7, .int x184), (0, .ref (X.2.2 10 32)), (2, .int y2), (3, .int y3), (4, .int y4), (5, .long y5), (8, .long y8), (10, .int y10)]) hx hb dL_kept_763 rfl hl (by decide) rfl (fun ls hl => ?_)
            obtain ⟨x198, e199⟩ : ∃ z : Int32, z = (y10 + (1 : Int32)) := ⟨_, rfl⟩
            have h := x_let_at h e199
            refine lv_iinc (v := x198) (lv' := [(10, .int x198), (1, .int (0)), (7, .int x184), (0, .ref (X.2.2 10 32)), (2, .int y2), (3, .int y3), (4, .int y4), (5, .long y5), (8, .long y8)]) hx hb dL_kept_764 hl (k := 8) rfl (by rw [e199]; rfl) (by decide) rfl (fun ls hl => ?_)
            refine lv_goto (tgt := 667) hx hb dL_kept_767 (by decide) ?_
            exact ih r193.2 (0 : Int32) y2 y3 y4 y5 x184 y8 x198 _ _ _ _ _ ⟨by omega, by omega⟩ h hI (lv_sub hl [3, 1, 4, 5, 6, 7, 2, 8, 0] rfl)
          · have h := x_iff h c197
            refine lv_aload_n hx hb dL_kept_715 rfl (lv_at hl 1 rfl) ?_
            refine lv_iload hx hb dL_kept_716 (lv_at hl 8 rfl) ?_
            obtain ⟨r200, h201, h⟩ := x_bnd h
            refine xm_acl hI (xw_run (rest := []) F Z.2 hI (mL_kindAt l Z.1 X _ r193.2 y10 r200 h201) gw_L_204 hd_L_kindAt ⟨by decide, by decide⟩ ⟨rfl, rfl⟩ rfl hl.1 rfl (Nat.le_of_ble_eq_true rfl) dL_kept_718 ⟨(by show _ ≤ (1468 : Nat); omega), (by show _ ≤ (8808 : Nat); omega)⟩) (fun H locs hI => ?_)
            refine lv_lconst (v := 0) hx hb dL_kept_721 (by decide) ?_
            refine W.lcmp hx hb dL_kept_722 ?_
            refine lv_if_ne (tgt := 742) hx hb dL_kept_723 (by decide) (fun c202 => ?_) (fun c202 => ?_)
            · have h := x_iff h c202
              refine lv_aload_n hx hb dL_kept_742 rfl (lv_at hl 1 rfl) ?_
              refine lv_iload hx hb dL_kept_743 (lv_at hl 8 rfl) ?_
              obtain ⟨r210, h211, h⟩ := x_bnd h
              refine xm_acl hI (xw_run (rest := []) F Z.2 hI (mL_roomAt l Z.1 X _ r200.2 y10 r210 h211) gw_L_208 hd_L_roomAt ⟨by decide, by decide⟩ ⟨rfl, rfl⟩ rfl hl.1 rfl (Nat.le_of_ble_eq_true rfl) dL_kept_745 ⟨(by show _ ≤ (1468 : Nat); omega), (by show _ ≤ (8808 : Nat); omega)⟩) (fun H locs hI => ?_)
              refine lv_lconst (v := 0) hx hb dL_kept_748 (by decide) ?_
              refine lv_ldc2 (v := 15) hx hb hown (hts _ u_cl_L_256) dL_kept_749 ?_
              obtain ⟨r212, h213, h⟩ := x_bnd h
              refine x_aci hI (x_runS (rest := []) F hI (mL_in l X r210.2 _ r210.1 (0 : Int64) (15 : Int64) r212 h213) g_L_234 hd_L_in ⟨by decide, by decide⟩ ⟨rfl, rfl⟩ rfl hl.1 rfl (Nat.le_of_ble_eq_true rfl) dL_kept_752 ⟨(by show _ ≤ (1468 : Nat); omega), (by show _ ≤ (8808 : Nat); omega)⟩) (fun H locs hI => ?_)
              refine lv_if_eq (tgt := 762) hx hb dL_kept_755 (by decide) (fun c214 => ?_) (fun c214 => ?_)
              · have h := x_ift h c214
                refine lv_iconst (v := 0) hx hb dL_kept_762 (by decide) ?_
                refine lv_istore_n (lv' := [(1, .int (0)), (7, .int x184), (0, .ref (X.2.2 10 32)), (2, .int y2), (3, .int y3), (4, .int y4), (5, .long y5), (8, .long y8), (10, .int y10)]) hx hb dL_kept_763 rfl hl (by decide) rfl (fun ls hl => ?_)
                obtain ⟨x215, e216⟩ : ∃ z : Int32, z = (y10 + (1 : Int32)) := ⟨_, rfl⟩
                have h := x_let_at h e216
                refine lv_iinc (v := x215) (lv' := [(10, .int x215), (1, .int (0)), (7, .int x184), (0, .ref (X.2.2 10 32)), (2, .int y2), (3, .int y3), (4, .int y4), (5, .long y5), (8, .long y8)]) hx hb dL_kept_764 hl (k := 8) rfl (by rw [e216]; rfl) (by decide) rfl (fun ls hl => ?_)
                refine lv_goto (tgt := 667) hx hb dL_kept_767 (by decide) ?_
                exact ih r210.2 (0 : Int32) y2 y3 y4 y5 x184 y8 x215 _ _ _ _ _ ⟨by omega, by omega⟩ h hI (lv_sub hl [3, 1, 4, 5, 6, 7, 2, 8, 0] rfl)
              · have h := x_iff h c214
                refine lv_iconst (v := 1) hx hb dL_kept_758 (by decide) ?_
                refine lv_goto (tgt := 763) hx hb dL_kept_759 (by decide) ?_
                refine lv_istore_n (lv' := [(1, .int (1)), (7, .int x184), (0, .ref (X.2.2 10 32)), (2, .int y2), (3, .int y3), (4, .int y4), (5, .long y5), (8, .long y8), (10, .int y10)]) hx hb dL_kept_763 rfl hl (by decide) rfl (fun ls hl => ?_)
                obtain ⟨x217, e218⟩ : ∃ z : Int32, z = (y10 + (1 : Int32)) := ⟨_, rfl⟩
                have h := x_let_at h e218
                refine lv_iinc (v := x217) (lv' := [(10, .int x217), (1, .int (1)), (7, .int x184), (0, .ref (X.2.2 10 32)), (2, .int y2), (3, .int y3), (4, .int y4), (5, .long y5), (8, .long y8)]) hx hb dL_kept_764 hl (k := 8) rfl (by rw [e218]; rfl) (by decide) rfl (fun ls hl => ?_)
                refine lv_goto (tgt := 667) hx hb dL_kept_767 (by decide) ?_
                exact ih r210.2 (1 : Int32) y2 y3 y4 y5 x184 y8 x217 _ _ _ _ _ ⟨by omega, by omega⟩ h hI (lv_sub hl [3, 1, 4, 5, 6, 7, 2, 8, 0] rfl)
            · have h := x_ift h c202
              refine lv_aload_n hx hb dL_kept_726 rfl (lv_at hl 1 rfl) ?_
              refine lv_iload hx hb dL_kept_727 (lv_at hl 8 rfl) ?_
              obtain ⟨r203, h204, h⟩ := x_bnd h
              refine xm_acl hI (xw_run (rest := []) F Z.2 hI (mL_roomAt l Z.1 X _ r200.2 y10 r203 h204) gw_L_208 hd_L_roomAt ⟨by decide, by decide⟩ ⟨rfl, rfl⟩ rfl hl.1 rfl (Nat.le_of_ble_eq_true rfl) dL_kept_729 ⟨(by show _ ≤ (1468 : Nat); omega), (by show _ ≤ (8808 : Nat); omega)⟩) (fun H locs hI => ?_)
              refine lv_ldc2 (v := -9000000000000000003) hx hb hown (hts _ u_cl_L_21) dL_kept_732 ?_
              refine W.lcmp hx hb dL_kept_735 ?_
              refine lv_if_ne (tgt := 762) hx hb dL_kept_736 (by decide) (fun c205 => ?_) (fun c205 => ?_)
              · have h := x_iff h c205
                refine lv_iconst (v := 0) hx hb dL_kept_762 (by decide) ?_
                refine lv_istore_n (lv' := [(1, .int (0)), (7, .int x184), (0, .ref (X.2.2 10 32)), (2, .int y2), (3, .int y3), (4, .int y4), (5, .long y5), (8, .long y8), (10, .int y10)]) hx hb dL_kept_763 rfl hl (by decide) rfl (fun ls hl => ?_)
                obtain ⟨x208, e209⟩ : ∃ z : Int32, z = (y10 + (1 : Int32)) := ⟨_, rfl⟩
                have h := x_let_at h e209
                refine lv_iinc (v := x208) (lv' := [(10, .int x208), (1, .int (0)), (7, .int x184), (0, .ref (X.2.2 10 32)), (2, .int y2), (3, .int y3), (4, .int y4), (5, .long y5), (8, .long y8)]) hx hb dL_kept_764 hl (k := 8) rfl (by rw [e209]; rfl) (by decide) rfl (fun ls hl => ?_)
                refine lv_goto (tgt := 667) hx hb dL_kept_767 (by decide) ?_
                exact ih r203.2 (0 : Int32) y2 y3 y4 y5 x184 y8 x208 _ _ _ _ _ ⟨by omega, by omega⟩ h hI (lv_sub hl [3, 1, 4, 5, 6, 7, 2, 8, 0] rfl)
              · have h := x_ift h c205
                refine lv_goto (tgt := 758) hx hb dL_kept_739 (by decide) ?_
                refine lv_iconst (v := 1) hx hb dL_kept_758 (by decide) ?_
                refine lv_goto (tgt := 763) hx hb dL_kept_759 (by decide) ?_
                refine lv_istore_n (lv' := [(1, .int (1)), (7, .int x184), (0, .ref (X.2.2 10 32)), (2, .int y2), (3, .int y3), (4, .int y4), (5, .long y5), (8, .long y8), (10, .int y10)]) hx hb dL_kept_763 rfl hl (by decide) rfl (fun ls hl => ?_)
                obtain ⟨x206, e207⟩ : ∃ z : Int32, z = (y10 + (1 : Int32)) := ⟨_, rfl⟩
                have h := x_let_at h e207
                refine lv_iinc (v := x206) (lv' := [(10, .int x206), (1, .int (1)), (7, .int x184), (0, .ref (X.2.2 10 32)), (2, .int y2), (3, .int y3), (4, .int y4), (5, .long y5), (8, .long y8)]) hx hb dL_kept_764 hl (k := 8) rfl (by rw [e207]; rfl) (by decide) rfl (fun ls hl => ?_)
                refine lv_goto (tgt := 667) hx hb dL_kept_767 (by decide) ?_
                exact ih r203.2 (1 : Int32) y2 y3 y4 y5 x184 y8 x206 _ _ _ _ _ ⟨by omega, by omega⟩ h hI (lv_sub hl [3, 1, 4, 5, 6, 7, 2, 8, 0] rfl)
def fL_kept_b636 : Nat → x_S → Int32 → Int32 → Int32 → Int32 → Int64 → Int32 → Int64 → Int32 → Option (Int32 × x_S)
  | 0, _, _, _, _, _, _, _, _, _ => none
  | n + 1, σ, y1, y2, y3, y4, y5, y7, y8, y10 => (if (7 : Int32) ≤ y10 then fL_kept_b667 61 σ y1 y2 y3 y4 y5 y7 y8 (0 : Int32) else (if y1 = 0 then fL_kept_b667 61 σ y1 y2 y3 y4 y5 y7 y8 (0 : Int32) else (Option.bind (fL_sent σ y10) fun r174 => x_let (y8 + r174.1) fun x176 => x_let (y10 + (1 : Int32)) fun x178 => (fL_kept_b636 n) r174.2 y1 y2 y3 y4 y5 y7 x176 x178)))
set_option maxHeartbeats 4000000 in
set_option maxRecDepth 100000 in
theorem wL_kept_b636 {p : Program} {l : Launch} {e : Env} {s : State} {m : MethodId} {args : Array Value} {below : List Frame} {meth : Method} {c : Code} {X : x_T} {r : (Int32 × x_S)} (F : x_F p s m args meth c cL_kept 12 RL (some .boolean)) (Z : xm_Z l s X) : ∀ (n : Nat) (σ : x_S) (y1 : Int32) (y2 : Int32) (y3 : Int32) (y4 : Int32) (y5 : Int64) (y7 : Int32) (y8 : Int64) (y10 : Int32) (H : Heap) (locs : List Loc) (ls : Array Slot) (cells slots : Nat), cells + (1 * n + 246) ≤ 1468 ∧ slots + 6 * (1 * n + 246) ≤ 8808 → fL_kept_b636 n σ y1 y2 y3 y4 y5 y7 y8 y10 = some r → x_I X σ s H locs → lv_has ls 12 [(0, .ref (X.2.2 10 32)), (1, .int y1), (2, .int y2), (3, .int y3), (4, .int y4), (5, .long y5), (7, .int y7), (8, .long y8), (10, .int y10)] → W p l e rm_L_kept s m args below meth c H locs cells slots (MQ below (x_Qi X r.1 r.2 s.heap.size) args s 1468 8808 (x_A X s.heap.size)) (F0 m 636 ls []) := by
  have hx := F.1
  have hb := F.2.1
  have hml := F.2.2.1
  have hown := F.2.2.2.1
  have hts := F.2.2.2.2.1
  intro n
  induction n with
  | zero =>
    intro σ y1 y2 y3 y4 y5 y7 y8 y10 H locs ls cells slots hf h
    rw [fL_kept_b636] at h
    cases h
  | succ n ih =>
    intro σ y1 y2 y3 y4 y5 y7 y8 y10 H locs ls cells slots hf h hI hl
    obtain ⟨hf1, hf2⟩ := hf
    rw [fL_kept_b636] at h
    refine lv_iload hx hb dL_kept_636 (lv_at hl 8 rfl) ?_
    refine lv_bipush (v := 7) hx hb dL_kept_638 (by decide) ?_
    refine lv_icmp_ge (tgt := 664) hx hb dL_kept_640 (by decide) (fun c172 => ?_) (fun c172 => ?_)
    · have h := x_ift h c172
      refine lv_iconst (v := 0) hx hb dL_kept_664 (by decide) ?_
      refine lv_istore (lv' := [(10, .int (0)), (0, .ref (X.2.2 10 32)), (1, .int y1), (2, .int y2), (3, .int y3), (4, .int y4), (5, .long y5), (7, .int y7), (8, .long y8)]) hx hb dL_kept_665 hl (by decide) rfl (fun ls hl => ?_)
      exact wL_kept_b667 F Z 61 σ y1 y2 y3 y4 y5 y7 y8 (0 : Int32) _ _ _ _ _ ⟨by omega, by omega⟩ h hI (lv_sub hl [1, 2, 3, 4, 5, 6, 7, 8, 0] rfl)
    · have h := x_iff h c172
      refine lv_iload_n hx hb dL_kept_643 rfl (lv_at hl 1 rfl) ?_
      refine lv_if_eq (tgt := 664) hx hb dL_kept_644 (by decide) (fun c173 => ?_) (fun c173 => ?_)
      · have h := x_ift h c173
        refine lv_iconst (v := 0) hx hb dL_kept_664 (by decide) ?_
        refine lv_istore (lv' := [(10, .int (0)), (0, .ref (X.2.2 10 32)), (1, .int y1), (2, .int y2), (3, .int y3), (4, .int y4), (5, .long y5), (7, .int y7), (8, .long y8)]) hx hb dL_kept_665 hl (by decide) rfl (fun ls hl => ?_)
        exact wL_kept_b667 F Z 61 σ y1 y2 y3 y4 y5 y7 y8 (0 : Int32) _ _ _ _ _ ⟨by omega, by omega⟩ h hI (lv_sub hl [1, 2, 3, 4, 5, 6, 7, 8, 0] rfl)
      · have h := x_iff h c173
        refine lv_lload hx hb dL_kept_647 (lv_at hl 7 rfl) ?_
        refine lv_aload_n hx hb dL_kept_649 rfl (lv_at hl 0 rfl) ?_
        refine lv_iload hx hb dL_kept_650 (lv_at hl 8 rfl) ?_
        obtain ⟨r174, h175, h⟩ := x_bnd h
        refine xm_acl hI (xw_run (rest := [.long y8]) F Z.2 hI (mL_sent l Z.1 X _ σ y10 r174 h175) gw_L_210 hd_L_sent ⟨by decide, by decide⟩ ⟨rfl, rfl⟩ rfl hl.1 rfl (Nat.le_of_ble_eq_true rfl) dL_kept_652 ⟨(by show _ ≤ (1468 : Nat); omega), (by show _ ≤ (8808 : Nat); omega)⟩) (fun H locs hI => ?_)
        refine lv_ladd hx hb dL_kept_655 ?_
        refine lv_topl (fun x176 e177 => ?_)
        have h := x_let_at h e177
        refine lv_lstore (lv' := [(8, .long x176), (0, .ref (X.2.2 10 32)), (1, .int y1), (2, .int y2), (3, .int y3), (4, .int y4), (5, .long y5), (7, .int y7), (10, .int y10)]) hx hb dL_kept_656 hl (by decide) rfl (fun ls hl => ?_)
        obtain ⟨x178, e179⟩ : ∃ z : Int32, z = (y10 + (1 : Int32)) := ⟨_, rfl⟩
        have h := x_let_at h e179
        refine lv_iinc (v := x178) (lv' := [(10, .int x178), (8, .long x176), (0, .ref (X.2.2 10 32)), (1, .int y1), (2, .int y2), (3, .int y3), (4, .int y4), (5, .long y5), (7, .int y7)]) hx hb dL_kept_658 hl (k := 8) rfl (by rw [e179]; rfl) (by decide) rfl (fun ls hl => ?_)
        refine lv_goto (tgt := 636) hx hb dL_kept_661 (by decide) ?_
        exact ih r174.2 y1 y2 y3 y4 y5 y7 x176 x178 _ _ _ _ _ ⟨by omega, by omega⟩ h hI (lv_sub hl [2, 3, 4, 5, 6, 7, 8, 1, 0] rfl)
def fL_kept_j578 (k338 : x_S → Int32 → Int32 → Int32 → Int32 → Int64 → Int32 → Int32 → Option (Int32 × x_S)) (σ : x_S) (y2 : Int32) (y3 : Int32) (y4 : Int32) (y5 : Int64) (y7 : Int32) (y8 : Int32) (y10 : Int64) : Option (Int32 × x_S) := (Option.bind (fL_stateOf σ (y10).toInt32) fun r135 => (if (lg_cmp r135.1 (1 : Int64)) = 0 then x_let (y8 + (1 : Int32)) fun x138 => k338 r135.2 (1 : Int32) y2 y3 y4 y5 y7 x138 else (Option.bind (fL_reservedFor r135.2 (y10).toInt32) fun r140 => (if (lg_cmp r140.1 (-9000000000000000003 : Int64)) = 0 then x_let (y8 + (1 : Int32)) fun x143 => k338 r140.2 (1 : Int32) y2 y3 y4 y5 y7 x143 else (Option.bind (fL_reservedFor r140.2 (y10).toInt32) fun r145 => (if (lg_cmp r145.1 y8.toInt64) = 0 then x_let (y8 + (1 : Int32)) fun x148 => k338 r145.2 (1 : Int32) y2 y3 y4 y5 y7 x148 else x_let (y8 + (1 : Int32)) fun x150 => k338 r145.2 (0 : Int32) y2 y3 y4 y5 y7 x150))))))
set_option maxHeartbeats 4000000 in
set_option maxRecDepth 100000 in
theorem wL_kept_j578 {p : Program} {l : Launch} {e : Env} {s : State} {m : MethodId} {args : Array Value} {below : List Frame} {meth : Method} {c : Code} {X : x_T} {r : (Int32 × x_S)} (F : x_F p s m args meth c cL_kept 12 RL (some .boolean)) (Z : xm_Z l s X) (k338 : x_S → Int32 → Int32 → Int32 → Int32 → Int64 → Int32 → Int32 → Option (Int32 × x_S)) (c338 : Nat) (hk338 : ∀ (σ : x_S) (y1 : Int32) (y2 : Int32) (y3 : Int32) (y4 : Int32) (y5 : Int64) (y7 : Int32) (y8 : Int32) (H : Heap) (locs : List Loc) (ls : Array Slot) (cells slots : Nat), cells + c338 ≤ 1468 ∧ slots + 6 * c338 ≤ 8808 → k338 σ y1 y2 y3 y4 y5 y7 y8 = some r → x_I X σ s H locs → lv_has ls 12 [(0, .ref (X.2.2 10 32)), (1, .int y1), (2, .int y2), (3, .int y3), (4, .int y4), (5, .long y5), (7, .int y7), (8, .int y8)] → W p l e rm_L_kept s m args below meth c H locs cells slots (MQ below (x_Qi X r.1 r.2 s.heap.size) args s 1468 8808 (x_A X s.heap.size)) (F0 m 338 ls [])) (σ : x_S) (y2 : Int32) (y3 : Int32) (y4 : Int32) (y5 : Int64) (y7 : Int32) (y8 : Int32) (y10 : Int64) (H : Heap) (locs : List Loc) (ls : Array Slot) (cells slots : Nat) (hf : cells + (3 + c338) ≤ 1468 ∧ slots + 6 * (3 + c338) ≤ 8808) (h : fL_kept_j578 k338 σ y2 y3 y4 y5 y7 y8 y10 = some r) (hI : x_I X σ s H locs) (hl : lv_has ls 12 [(0, .ref (X.2.2 10 32)), (2, .int y2), (3, .int y3), (4, .int y4), (5, .long y5), (7, .int y7), (8, .int y8), (10, .long y10)]) : W p l e rm_L_kept s m args below meth c H locs cells slots (MQ below (x_Qi X r.1 r.2 s.heap.size) args s 1468 8808 (x_A X s.heap.size)) (F0 m 578 ls []) := by
  have hx := F.1
  have hb := F.2.1
  have hml := F.2.2.1
  have hown := F.2.2.2.1
  have hts := F.2.2.2.2.1
  obtain ⟨hf1, hf2⟩ := hf
  unfold fL_kept_j578 at h
  refine lv_aload_n hx hb dL_kept_578 rfl (lv_at hl 0 rfl) ?_
  refine lv_lload hx hb dL_kept_579 (lv_at hl 7 rfl) ?_
  refine lv_l2i hx hb dL_kept_581 rfl ?_
  obtain ⟨r135, h136, h⟩ := x_bnd h
  refine xm_acl hI (xw_run (rest := []) F Z.2 hI (mL_stateOf l Z.1 X _ σ (y10).toInt32 r135 h136) gw_L_192 hd_L_stateOf ⟨by decide, by decide⟩ ⟨rfl, rfl⟩ rfl hl.1 rfl (Nat.le_of_ble_eq_true rfl) dL_kept_582 ⟨(by show _ ≤ (1468 : Nat); omega), (by show _ ≤ (8808 : Nat); omega)⟩) (fun H locs hI => ?_)
  refine lv_lconst (v := 1) hx hb dL_kept_585 (by decide) ?_
  refine W.lcmp hx hb dL_kept_586 ?_
  refine lv_if_eq (tgt := 618) hx hb dL_kept_587 (by decide) (fun c137 => ?_) (fun c137 => ?_)
  · have h := x_ift h c137
    refine lv_iconst (v := 1) hx hb dL_kept_618 (by decide) ?_
    refine lv_goto (tgt := 623) hx hb dL_kept_619 (by decide) ?_
    refine lv_istore_n (lv' := [(1, .int (1)), (0, .ref (X.2.2 10 32)), (2, .int y2), (3, .int y3), (4, .int y4), (5, .long y5), (7, .int y7), (8, .int y8), (10, .long y10)]) hx hb dL_kept_623 rfl hl (by decide) rfl (fun ls hl => ?_)
    obtain ⟨x138, e139⟩ : ∃ z : Int32, z = (y8 + (1 : Int32)) := ⟨_, rfl⟩
    have h := x_let_at h e139
    refine lv_iinc (v := x138) (lv' := [(8, .int x138), (1, .int (1)), (0, .ref (X.2.2 10 32)), (2, .int y2), (3, .int y3), (4, .int y4), (5, .long y5), (7, .int y7), (10, .long y10)]) hx hb dL_kept_624 hl (k := 7) rfl (by rw [e139]; rfl) (by decide) rfl (fun ls hl => ?_)
    refine lv_goto (tgt := 338) hx hb dL_kept_627 (by decide) ?_
    exact hk338 r135.2 (1 : Int32) y2 y3 y4 y5 y7 x138 _ _ _ _ _ ⟨by omega, by omega⟩ h hI (lv_sub hl [2, 1, 3, 4, 5, 6, 7, 0] rfl)
  · have h := x_iff h c137
    refine lv_aload_n hx hb dL_kept_590 rfl (lv_at hl 0 rfl) ?_
    refine lv_lload hx hb dL_kept_591 (lv_at hl 7 rfl) ?_
    refine lv_l2i hx hb dL_kept_593 rfl ?_
    obtain ⟨r140, h141, h⟩ := x_bnd h
    refine xm_acl hI (xw_run (rest := []) F Z.2 hI (mL_reservedFor l Z.1 X _ r135.2 (y10).toInt32 r140 h141) gw_L_198 hd_L_reservedFor ⟨by decide, by decide⟩ ⟨rfl, rfl⟩ rfl hl.1 rfl (Nat.le_of_ble_eq_true rfl) dL_kept_594 ⟨(by show _ ≤ (1468 : Nat); omega), (by show _ ≤ (8808 : Nat); omega)⟩) (fun H locs hI => ?_)
    refine lv_ldc2 (v := -9000000000000000003) hx hb hown (hts _ u_cl_L_21) dL_kept_597 ?_
    refine W.lcmp hx hb dL_kept_600 ?_
    refine lv_if_eq (tgt := 618) hx hb dL_kept_601 (by decide) (fun c142 => ?_) (fun c142 => ?_)
    · have h := x_ift h c142
      refine lv_iconst (v := 1) hx hb dL_kept_618 (by decide) ?_
      refine lv_goto (tgt := 623) hx hb dL_kept_619 (by decide) ?_
      refine lv_istore_n (lv' := [(1, .int (1)), (0, .ref (X.2.2 10 32)), (2, .int y2), (3, .int y3), (4, .int y4), (5, .long y5), (7, .int y7), (8, .int y8), (10, .long y10)]) hx hb dL_kept_623 rfl hl (by decide) rfl (fun ls hl => ?_)
      obtain ⟨x143, e144⟩ : ∃ z : Int32, z = (y8 + (1 : Int32)) := ⟨_, rfl⟩
      have h := x_let_at h e144
      refine lv_iinc (v := x143) (lv' := [(8, .int x143), (1, .int (1)), (0, .ref (X.2.2 10 32)), (2, .int y2), (3, .int y3), (4, .int y4), (5, .long y5), (7, .int y7), (10, .long y10)]) hx hb dL_kept_624 hl (k := 7) rfl (by rw [e144]; rfl) (by decide) rfl (fun ls hl => ?_)
      refine lv_goto (tgt := 338) hx hb dL_kept_627 (by decide) ?_
      exact hk338 r140.2 (1 : Int32) y2 y3 y4 y5 y7 x143 _ _ _ _ _ ⟨by omega, by omega⟩ h hI (lv_sub hl [2, 1, 3, 4, 5, 6, 7, 0] rfl)
    · have h := x_iff h c142
      refine lv_aload_n hx hb dL_kept_604 rfl (lv_at hl 0 rfl) ?_
      refine lv_lload hx hb dL_kept_605 (lv_at hl 7 rfl) ?_
      refine lv_l2i hx hb dL_kept_607 rfl ?_
      obtain ⟨r145, h146, h⟩ := x_bnd h
      refine xm_acl hI (xw_run (rest := []) F Z.2 hI (mL_reservedFor l Z.1 X _ r140.2 (y10).toInt32 r145 h146) gw_L_198 hd_L_reservedFor ⟨by decide, by decide⟩ ⟨rfl, rfl⟩ rfl hl.1 rfl (Nat.le_of_ble_eq_true rfl) dL_kept_608 ⟨(by show _ ≤ (1468 : Nat); omega), (by show _ ≤ (8808 : Nat); omega)⟩) (fun H locs hI => ?_)
      refine lv_iload hx hb dL_kept_611 (lv_at hl 6 rfl) ?_
      refine lv_i2l hx hb dL_kept_613 rfl ?_
      refine W.lcmp hx hb dL_kept_614 ?_
      refine lv_if_ne (tgt := 622) hx hb dL_kept_615 (by decide) (fun c147 => ?_) (fun c147 => ?_)
      · have h := x_iff h c147
        refine lv_iconst (v := 0) hx hb dL_kept_622 (by decide) ?_
        refine lv_istore_n (lv' := [(1, .int (0)), (0, .ref (X.2.2 10 32)), (2, .int y2), (3, .int y3), (4, .int y4), (5, .long y5), (7, .int y7), (8, .int y8), (10, .long y10)]) hx hb dL_kept_623 rfl hl (by decide) rfl (fun ls hl => ?_)
        obtain ⟨x150, e151⟩ : ∃ z : Int32, z = (y8 + (1 : Int32)) := ⟨_, rfl⟩
        have h := x_let_at h e151
        refine lv_iinc (v := x150) (lv' := [(8, .int x150), (1, .int (0)), (0, .ref (X.2.2 10 32)), (2, .int y2), (3, .int y3), (4, .int y4), (5, .long y5), (7, .int y7), (10, .long y10)]) hx hb dL_kept_624 hl (k := 7) rfl (by rw [e151]; rfl) (by decide) rfl (fun ls hl => ?_)
        refine lv_goto (tgt := 338) hx hb dL_kept_627 (by decide) ?_
        exact hk338 r145.2 (0 : Int32) y2 y3 y4 y5 y7 x150 _ _ _ _ _ ⟨by omega, by omega⟩ h hI (lv_sub hl [2, 1, 3, 4, 5, 6, 7, 0] rfl)
      · have h := x_ift h c147
        refine lv_iconst (v := 1) hx hb dL_kept_618 (by decide) ?_
        refine lv_goto (tgt := 623) hx hb dL_kept_619 (by decide) ?_
        refine lv_istore_n (lv' := [(1, .int (1)), (0, .ref (X.2.2 10 32)), (2, .int y2), (3, .int y3), (4, .int y4), (5, .long y5), (7, .int y7), (8, .int y8), (10, .long y10)]) hx hb dL_kept_623 rfl hl (by decide) rfl (fun ls hl => ?_)
        obtain ⟨x148, e149⟩ : ∃ z : Int32, z = (y8 + (1 : Int32)) := ⟨_, rfl⟩
        have h := x_let_at h e149
        refine lv_iinc (v := x148) (lv' := [(8, .int x148), (1, .int (1)), (0, .ref (X.2.2 10 32)), (2, .int y2), (3, .int y3), (4, .int y4), (5, .long y5), (7, .int y7), (10, .long y10)]) hx hb dL_kept_624 hl (k := 7) rfl (by rw [e149]; rfl) (by decide) rfl (fun ls hl => ?_)
        refine lv_goto (tgt := 338) hx hb dL_kept_627 (by decide) ?_
        exact hk338 r145.2 (1 : Int32) y2 y3 y4 y5 y7 x148 _ _ _ _ _ ⟨by omega, by omega⟩ h hI (lv_sub hl [2, 1, 3, 4, 5, 6, 7, 0] rfl)
def fL_kept_j516 (k338 : x_S → Int32 → Int32 → Int32 → Int32 → Int64 → Int32 → Int32 → Option (Int32 × x_S)) (σ : x_S) (y1 : Int32) (y2 : Int32) (y3 : Int32) (y4 : Int32) (y5 : Int64) (y7 : Int32) (y8 : Int32) : Option (Int32 × x_S) := (Option.bind (fL_roomFor σ y8) fun r112 => (if y1 = 0 then x_let (y8 + (1 : Int32)) fun x115 => k338 r112.2 (0 : Int32) y2 y3 y4 y5 y7 x115 else (if (lg_cmp r112.1 (-9000000000000000003 : Int64)) = 0 then x_let (y8 + (1 : Int32)) fun x118 => k338 r112.2 (1 : Int32) y2 y3 y4 y5 y7 x118 else (Option.bind (fL_stateOf r112.2 (r112.1).toInt32) fun r120 => (Option.bind (fL_in r120.1 (0 : Int64) (1 : Int64)) fun r122 => (if r122 = 0 then x_let (y8 + (1 : Int32)) fun x125 => k338 r120.2 (0 : Int32) y2 y3 y4 y5 y7 x125 else (Option.bind (fL_stateOf r120.2 (r112.1).toInt32) fun r127 => (if (lg_cmp r127.1 (0 : Int64)) = 0 then fL_kept_j578 k338 r127.2 y2 y3 y4 y5 y7 y8 r112.1 else (Option.bind (fL_guestOf r127.2 (r112.1).toInt32) fun r130 => (if (lg_cmp r130.1 y8.toInt64) = 0 then fL_kept_j578 k338 r130.2 y2 y3 y4 y5 y7 y8 r112.1 else x_let (y8 + (1 : Int32)) fun x133 => k338 r130.2 (0 : Int32) y2 y3 y4 y5 y7 x133))))))))))
set_option maxHeartbeats 4000000 in
set_option maxRecDepth 100000 in
theorem wL_kept_j516 {p : Program} {l : Launch} {e : Env} {s : State} {m : MethodId} {args : Array Value} {below : List Frame} {meth : Method} {c : Code} {X : x_T} {r : (Int32 × x_S)} (F : x_F p s m args meth c cL_kept 12 RL (some .boolean)) (Z : xm_Z l s X) (k338 : x_S → Int32 → Int32 → Int32 → Int32 → Int64 → Int32 → Int32 → Option (Int32 × x_S)) (c338 : Nat) (hk338 : ∀ (σ : x_S) (y1 : Int32) (y2 : Int32) (y3 : Int32) (y4 : Int32) (y5 : Int64) (y7 : Int32) (y8 : Int32) (H : Heap) (locs : List Loc) (ls : Array Slot) (cells slots : Nat), cells + c338 ≤ 1468 ∧ slots + 6 * c338 ≤ 8808 → k338 σ y1 y2 y3 y4 y5 y7 y8 = some r → x_I X σ s H locs → lv_has ls 12 [(0, .ref (X.2.2 10 32)), (1, .int y1), (2, .int y2), (3, .int y3), (4, .int y4), (5, .long y5), (7, .int y7), (8, .int y8)] → W p l e rm_L_kept s m args below meth c H locs cells slots (MQ below (x_Qi X r.1 r.2 s.heap.size) args s 1468 8808 (x_A X s.heap.size)) (F0 m 338 ls [])) (σ : x_S) (y1 : Int32) (y2 : Int32) (y3 : Int32) (y4 : Int32) (y5 : Int64) (y7 : Int32) (y8 : Int32) (H : Heap) (locs : List Loc) (ls : Array Slot) (cells slots : Nat) (hf : cells + (7 + c338) ≤ 1468 ∧ slots + 6 * (7 + c338) ≤ 8808) (h : fL_kept_j516 k338 σ y1 y2 y3 y4 y5 y7 y8 = some r) (hI : x_I X σ s H locs) (hl : lv_has ls 12 [(0, .ref (X.2.2 10 32)), (1, .int y1), (2, .int y2), (3, .int y3), (4, .int y4), (5, .long y5), (7, .int y7), (8, .int y8)]) : W p l e rm_L_kept s m args below meth c H locs cells slots (MQ below (x_Qi X r.1 r.2 s.heap.size) args s 1468 8808 (x_A X s.heap.size)) (F0 m 516 ls []) := by
  have hx := F.1
  have hb := F.2.1
  have hml := F.2.2.1
  have hown := F.2.2.2.1
  have hts := F.2.2.2.2.1
  obtain ⟨hf1, hf2⟩ := hf
  unfold fL_kept_j516 at h
  refine lv_aload_n hx hb dL_kept_516 rfl (lv_at hl 0 rfl) ?_
  refine lv_iload hx hb dL_kept_517 (lv_at hl 7 rfl) ?_
  obtain ⟨r112, h113, h⟩ := x_bnd h
  refine xm_acl hI (xw_run (rest := []) F Z.2 hI (mL_roomFor l Z.1 X _ σ y8 r112 h113) gw_L_202 hd_L_roomFor ⟨by decide, by decide⟩ ⟨rfl, rfl⟩ rfl hl.1 rfl (Nat.le_of_ble_eq_true rfl) dL_kept_519 ⟨(by show _ ≤ (1468 : Nat); omega), (by show _ ≤ (8808 : Nat); omega)⟩) (fun H locs hI => ?_)
  refine lv_lstore (lv' := [(10, .long r112.1), (0, .ref (X.2.2 10 32)), (1, .int y1), (2, .int y2), (3, .int y3), (4, .int y4), (5, .long y5), (7, .int y7), (8, .int y8)]) hx hb dL_kept_522 hl (by decide) rfl (fun ls hl => ?_)
  refine lv_iload_n hx hb dL_kept_524 rfl (lv_at hl 2 rfl) ?_
  refine lv_if_eq (tgt := 622) hx hb dL_kept_525 (by decide) (fun c114 => ?_) (fun c114 => ?_)
  · have h := x_ift h c114
    refine lv_iconst (v := 0) hx hb dL_kept_622 (by decide) ?_
    refine lv_istore_n (lv' := [(1, .int (0)), (10, .long r112.1), (0, .ref (X.2.2 10 32)), (2, .int y2), (3, .int y3), (4, .int y4), (5, .long y5), (7, .int y7), (8, .int y8)]) hx hb dL_kept_623 rfl hl (by decide) rfl (fun ls hl => ?_)
    obtain ⟨x115, e116⟩ : ∃ z : Int32, z = (y8 + (1 : Int32)) := ⟨_, rfl⟩
    have h := x_let_at h e116
    refine lv_iinc (v := x115) (lv' := [(8, .int x115), (1, .int (0)), (10, .long r112.1), (0, .ref (X.2.2 10 32)), (2, .int y2), (3, .int y3), (4, .int y4), (5, .long y5), (7, .int y7)]) hx hb dL_kept_624 hl (k := 8) rfl (by rw [e116]; rfl) (by decide) rfl (fun ls hl => ?_)
    refine lv_goto (tgt := 338) hx hb dL_kept_627 (by decide) ?_
    exact hk338 r112.2 (0 : Int32) y2 y3 y4 y5 y7 x115 _ _ _ _ _ ⟨by omega, by omega⟩ h hI (lv_sub hl [3, 1, 4, 5, 6, 7, 8, 0] rfl)
  · have h := x_iff h c114
    refine lv_lload hx hb dL_kept_528 (lv_at hl 0 rfl) ?_
    refine lv_ldc2 (v := -9000000000000000003) hx hb hown (hts _ u_cl_L_21) dL_kept_530 ?_
    refine W.lcmp hx hb dL_kept_533 ?_
    refine lv_if_eq (tgt := 618) hx hb dL_kept_534 (by decide) (fun c117 => ?_) (fun c117 => ?_)
    · have h := x_ift h c117
      refine lv_iconst (v := 1) hx hb dL_kept_618 (by decide) ?_
      refine lv_goto (tgt := 623) hx hb dL_kept_619 (by decide) ?_
      refine lv_istore_n (lv' := [(1, .int (1)), (10, .long r112.1), (0, .ref (X.2.2 10 32)), (2, .int y2), (3, .int y3), (4, .int y4), (5, .long y5), (7, .int y7), (8, .int y8)]) hx hb dL_kept_623 rfl hl (by decide) rfl (fun ls hl => ?_)
      obtain ⟨x118, e119⟩ : ∃ z : Int32, z = (y8 + (1 : Int32)) := ⟨_, rfl⟩
      have h := x_let_at h e119
      refine lv_iinc (v := x118) (lv' := [(8, .int x118), (1, .int (1)), (10, .long r112.1), (0, .ref (X.2.2 10 32)), (2, .int y2), (3, .int y3), (4, .int y4), (5, .long y5), (7, .int y7)]) hx hb dL_kept_624 hl (k := 8) rfl (by rw [e119]; rfl) (by decide) rfl (fun ls hl => ?_)
      refine lv_goto (tgt := 338) hx hb dL_kept_627 (by decide) ?_
      exact hk338 r112.2 (1 : Int32) y2 y3 y4 y5 y7 x118 _ _ _ _ _ ⟨by omega, by omega⟩ h hI (lv_sub hl [3, 1, 4, 5, 6, 7, 8, 0] rfl)
    · have h := x_iff h c117
      refine lv_aload_n hx hb dL_kept_537 rfl (lv_at hl 1 rfl) ?_
      refine lv_lload hx hb dL_kept_538 (lv_at hl 0 rfl) ?_
      refine lv_l2i hx hb dL_kept_540 rfl ?_
      obtain ⟨r120, h121, h⟩ := x_bnd h
      refine xm_acl hI (xw_run (rest := []) F Z.2 hI (mL_stateOf l Z.1 X _ r112.2 (r112.1).toInt32 r120 h121) gw_L_192 hd_L_stateOf ⟨by decide, by decide⟩ ⟨rfl, rfl⟩ rfl hl.1 rfl (Nat.le_of_ble_eq_true rfl) dL_kept_541 ⟨(by show _ ≤ (1468 : Nat); omega), (by show _ ≤ (8808 : Nat); omega)⟩) (fun H locs hI => ?_)
      refine lv_lconst (v := 0) hx hb dL_kept_544 (by decide) ?_
      refine lv_lconst (v := 1) hx hb dL_kept_545 (by decide) ?_
      obtain ⟨r122, h123, h⟩ := x_bnd h
      refine x_aci hI (x_runS (rest := []) F hI (mL_in l X r120.2 _ r120.1 (0 : Int64) (1 : Int64) r122 h123) g_L_234 hd_L_in ⟨by decide, by decide⟩ ⟨rfl, rfl⟩ rfl hl.1 rfl (Nat.le_of_ble_eq_true rfl) dL_kept_546 ⟨(by show _ ≤ (1468 : Nat); omega), (by show _ ≤ (8808 : Nat); omega)⟩) (fun H locs hI => ?_)
      refine lv_if_eq (tgt := 622) hx hb dL_kept_549 (by decide) (fun c124 => ?_) (fun c124 => ?_)
      · have h := x_ift h c124
        refine lv_iconst (v := 0) hx hb dL_kept_622 (by decide) ?_
        refine lv_istore_n (lv' := [(1, .int (0)), (10, .long r112.1), (0, .ref (X.2.2 10 32)), (2, .int y2), (3, .int y3), (4, .int y4), (5, .long y5), (7, .int y7), (8, .int y8)]) hx hb dL_kept_623 rfl hl (by decide) rfl (fun ls hl => ?_)
        obtain ⟨x125, e126⟩ : ∃ z : Int32, z = (y8 + (1 : Int32)) := ⟨_, rfl⟩
        have h := x_let_at h e126
        refine lv_iinc (v := x125) (lv' := [(8, .int x125), (1, .int (0)), (10, .long r112.1), (0, .ref (X.2.2 10 32)), (2, .int y2), (3, .int y3), (4, .int y4), (5, .long y5), (7, .int y7)]) hx hb dL_kept_624 hl (k := 8) rfl (by rw [e126]; rfl) (by decide) rfl (fun ls hl => ?_)
        refine lv_goto (tgt := 338) hx hb dL_kept_627 (by decide) ?_
        exact hk338 r120.2 (0 : Int32) y2 y3 y4 y5 y7 x125 _ _ _ _ _ ⟨by omega, by omega⟩ h hI (lv_sub hl [3, 1, 4, 5, 6, 7, 8, 0] rfl)
      · have h := x_iff h c124
        refine lv_aload_n hx hb dL_kept_552 rfl (lv_at hl 1 rfl) ?_
        refine lv_lload hx hb dL_kept_553 (lv_at hl 0 rfl) ?_
        refine lv_l2i hx hb dL_kept_555 rfl ?_
        obtain ⟨r127, h128, h⟩ := x_bnd h
        refine xm_acl hI (xw_run (rest := []) F Z.2 hI (mL_stateOf l Z.1 X _ r120.2 (r112.1).toInt32 r127 h128) gw_L_192 hd_L_stateOf ⟨by decide, by decide⟩ ⟨rfl, rfl⟩ rfl hl.1 rfl (Nat.le_of_ble_eq_true rfl) dL_kept_556 ⟨(by show _ ≤ (1468 : Nat); omega), (by show _ ≤ (8808 : Nat); omega)⟩) (fun H locs hI => ?_)
        refine lv_lconst (v := 0) hx hb dL_kept_559 (by decide) ?_
        refine W.lcmp hx hb dL_kept_560 ?_
        refine lv_if_eq (tgt := 578) hx hb dL_kept_561 (by decide) (fun c129 => ?_) (fun c129 => ?_)
        · have h := x_ift h c129
          exact wL_kept_j578 F Z k338 c338 hk338 r127.2 y2 y3 y4 y5 y7 y8 r112.1 _ _ _ _ _ ⟨by omega, by omega⟩ h hI (lv_sub hl [1, 3, 4, 5, 6, 7, 8, 0] rfl)
        · have h := x_iff h c129
          refine lv_aload_n hx hb dL_kept_564 rfl (lv_at hl 1 rfl) ?_
          refine lv_lload hx hb dL_kept_565 (lv_at hl 0 rfl) ?_
          refine lv_l2i hx hb dL_kept_567 rfl ?_
          obtain ⟨r130, h131, h⟩ := x_bnd h
          refine xm_acl hI (xw_run (rest := []) F Z.2 hI (mL_guestOf l Z.1 X _ r127.2 (r112.1).toInt32 r130 h131) gw_L_194 hd_L_guestOf ⟨by decide, by decide⟩ ⟨rfl, rfl⟩ rfl hl.1 rfl (Nat.le_of_ble_eq_true rfl) dL_kept_568 ⟨(by show _ ≤ (1468 : Nat); omega), (by show _ ≤ (8808 : Nat); omega)⟩) (fun H locs hI => ?_)
          refine lv_iload hx hb dL_kept_571 (lv_at hl 8 rfl) ?_
          refine lv_i2l hx hb dL_kept_573 rfl ?_
          refine W.lcmp hx hb dL_kept_574 ?_
          refine lv_if_ne (tgt := 622) hx hb dL_kept_575 (by decide) (fun c132 => ?_) (fun c132 => ?_)
          · have h := x_iff h c132
            refine lv_iconst (v := 0) hx hb dL_kept_622 (by decide) ?_
            refine lv_istore_n (lv' := [(1, .int (0)), (10, .long r112.1), (0, .ref (X.2.2 10 32)), (2, .int y2), (3, .int y3), (4, .int y4), (5, .long y5), (7, .int y7), (8, .int y8)]) hx hb dL_kept_623 rfl hl (by decide) rfl (fun ls hl => ?_)
            obtain ⟨x133, e134⟩ : ∃ z : Int32, z = (y8 + (1 : Int32)) := ⟨_, rfl⟩
            have h := x_let_at h e134
            refine lv_iinc (v := x133) (lv' := [(8, .int x133), (1, .int (0)), (10, .long r112.1), (0, .ref (X.2.2 10 32)), (2, .int y2), (3, .int y3), (4, .int y4), (5, .long y5), (7, .int y7)]) hx hb dL_kept_624 hl (k := 8) rfl (by rw [e134]; rfl) (by decide) rfl (fun ls hl => ?_)
            refine lv_goto (tgt := 338) hx hb dL_kept_627 (by decide) ?_
            exact hk338 r130.2 (0 : Int32) y2 y3 y4 y5 y7 x133 _ _ _ _ _ ⟨by omega, by omega⟩ h hI (lv_sub hl [3, 1, 4, 5, 6, 7, 8, 0] rfl)
          · have h := x_ift h c132
            exact wL_kept_j578 F Z k338 c338 hk338 r130.2 y2 y3 y4 y5 y7 y8 r112.1 _ _ _ _ _ ⟨by omega, by omega⟩ h hI (lv_sub hl [1, 3, 4, 5, 6, 7, 8, 0] rfl)
def fL_kept_j515 (k338 : x_S → Int32 → Int32 → Int32 → Int32 → Int64 → Int32 → Int32 → Option (Int32 × x_S)) (σ : x_S) (y2 : Int32) (y3 : Int32) (y4 : Int32) (y5 : Int64) (y7 : Int32) (y8 : Int32) (z0 : Int32) : Option (Int32 × x_S) := fL_kept_j516 k338 σ z0 y2 y3 y4 y5 y7 y8
set_option maxHeartbeats 4000000 in
set_option maxRecDepth 100000 in
theorem wL_kept_j515 {p : Program} {l : Launch} {e : Env} {s : State} {m : MethodId} {args : Array Value} {below : List Frame} {meth : Method} {c : Code} {X : x_T} {r : (Int32 × x_S)} (F : x_F p s m args meth c cL_kept 12 RL (some .boolean)) (Z : xm_Z l s X) (k338 : x_S → Int32 → Int32 → Int32 → Int32 → Int64 → Int32 → Int32 → Option (Int32 × x_S)) (c338 : Nat) (hk338 : ∀ (σ : x_S) (y1 : Int32) (y2 : Int32) (y3 : Int32) (y4 : Int32) (y5 : Int64) (y7 : Int32) (y8 : Int32) (H : Heap) (locs : List Loc) (ls : Array Slot) (cells slots : Nat), cells + c338 ≤ 1468 ∧ slots + 6 * c338 ≤ 8808 → k338 σ y1 y2 y3 y4 y5 y7 y8 = some r → x_I X σ s H locs → lv_has ls 12 [(0, .ref (X.2.2 10 32)), (1, .int y1), (2, .int y2), (3, .int y3), (4, .int y4), (5, .long y5), (7, .int y7), (8, .int y8)] → W p l e rm_L_kept s m args below meth c H locs cells slots (MQ below (x_Qi X r.1 r.2 s.heap.size) args s 1468 8808 (x_A X s.heap.size)) (F0 m 338 ls [])) (σ : x_S) (y2 : Int32) (y3 : Int32) (y4 : Int32) (y5 : Int64) (y7 : Int32) (y8 : Int32) (z0 : Int32) (H : Heap) (locs : List Loc) (ls : Array Slot) (cells slots : Nat) (hf : cells + (7 + c338) ≤ 1468 ∧ slots + 6 * (7 + c338) ≤ 8808) (h : fL_kept_j515 k338 σ y2 y3 y4 y5 y7 y8 z0 = some r) (hI : x_I X σ s H locs) (hl : lv_has ls 12 [(0, .ref (X.2.2 10 32)), (2, .int y2), (3, .int y3), (4, .int y4), (5, .long y5), (7, .int y7), (8, .int y8)]) : W p l e rm_L_kept s m args below meth c H locs cells slots (MQ below (x_Qi X r.1 r.2 s.heap.size) args s 1468 8808 (x_A X s.heap.size)) (F0 m 515 ls [.int z0]) := by
  have hx := F.1
  have hb := F.2.1
  have hml := F.2.2.1
  have hown := F.2.2.2.1
  have hts := F.2.2.2.2.1
  obtain ⟨hf1, hf2⟩ := hf
  unfold fL_kept_j515 at h
  refine lv_istore_n (lv' := [(1, .int z0), (0, .ref (X.2.2 10 32)), (2, .int y2), (3, .int y3), (4, .int y4), (5, .long y5), (7, .int y7), (8, .int y8)]) hx hb dL_kept_515 rfl hl (by decide) rfl (fun ls hl => ?_)
  exact wL_kept_j516 F Z k338 c338 hk338 σ z0 y2 y3 y4 y5 y7 y8 _ _ _ _ _ ⟨by omega, by omega⟩ h hI (lv_sub hl [1, 0, 2, 3, 4, 5, 6, 7] rfl)
def fL_kept_j510 (k338 : x_S → Int32 → Int32 → Int32 → Int32 → Int64 → Int32 → Int32 → Option (Int32 × x_S)) (σ : x_S) (y2 : Int32) (y3 : Int32) (y4 : Int32) (y5 : Int64) (y7 : Int32) (y8 : Int32) : Option (Int32 × x_S) := fL_kept_j515 k338 σ y2 y3 y4 y5 y7 y8 (1 : Int32)
set_option maxHeartbeats 4000000 in
set_option maxRecDepth 100000 in
theorem wL_kept_j510 {p : Program} {l : Launch} {e : Env} {s : State} {m : MethodId} {args : Array Value} {below : List Frame} {meth : Method} {c : Code} {X : x_T} {r : (Int32 × x_S)} (F : x_F p s m args meth c cL_kept 12 RL (some .boolean)) (Z : xm_Z l s X) (k338 : x_S → Int32 → Int32 → Int32 → Int32 → Int64 → Int32 → Int32 → Option (Int32 × x_S)) (c338 : Nat) (hk338 : ∀ (σ : x_S) (y1 : Int32) (y2 : Int32) (y3 : Int32) (y4 : Int32) (y5 : Int64) (y7 : Int32) (y8 : Int32) (H : Heap) (locs : List Loc) (ls : Array Slot) (cells slots : Nat), cells + c338 ≤ 1468 ∧ slots + 6 * c338 ≤ 8808 → k338 σ y1 y2 y3 y4 y5 y7 y8 = some r → x_I X σ s H locs → lv_has ls 12 [(0, .ref (X.2.2 10 32)), (1, .int y1), (2, .int y2), (3, .int y3), (4, .int y4), (5, .long y5), (7, .int y7), (8, .int y8)] → W p l e rm_L_kept s m args below meth c H locs cells slots (MQ below (x_Qi X r.1 r.2 s.heap.size) args s 1468 8808 (x_A X s.heap.size)) (F0 m 338 ls [])) (σ : x_S) (y2 : Int32) (y3 : Int32) (y4 : Int32) (y5 : Int64) (y7 : Int32) (y8 : Int32) (H : Heap) (locs : List Loc) (ls : Array Slot) (cells slots : Nat) (hf : cells + (7 + c338) ≤ 1468 ∧ slots + 6 * (7 + c338) ≤ 8808) (h : fL_kept_j510 k338 σ y2 y3 y4 y5 y7 y8 = some r) (hI : x_I X σ s H locs) (hl : lv_has ls 12 [(0, .ref (X.2.2 10 32)), (2, .int y2), (3, .int y3), (4, .int y4), (5, .long y5), (7, .int y7), (8, .int y8)]) : W p l e rm_L_kept s m args below meth c H locs cells slots (MQ below (x_Qi X r.1 r.2 s.heap.size) args s 1468 8808 (x_A X s.heap.size)) (F0 m 510 ls []) := by
  have hx := F.1
  have hb := F.2.1
  have hml := F.2.2.1
  have hown := F.2.2.2.1
  have hts := F.2.2.2.2.1
  obtain ⟨hf1, hf2⟩ := hf
  unfold fL_kept_j510 at h
  refine lv_iconst (v := 1) hx hb dL_kept_510 (by decide) ?_
  refine lv_goto (tgt := 515) hx hb dL_kept_511 (by decide) ?_
  exact wL_kept_j515 F Z k338 c338 hk338 σ y2 y3 y4 y5 y7 y8 (1 : Int32) _ _ _ _ _ ⟨by omega, by omega⟩ h hI (lv_sub hl [0, 1, 2, 3, 4, 5, 6] rfl)
def fL_kept_j514 (k338 : x_S → Int32 → Int32 → Int32 → Int32 → Int64 → Int32 → Int32 → Option (Int32 × x_S)) (σ : x_S) (y2 : Int32) (y3 : Int32) (y4 : Int32) (y5 : Int64) (y7 : Int32) (y8 : Int32) : Option (Int32 × x_S) := fL_kept_j515 k338 σ y2 y3 y4 y5 y7 y8 (0 : Int32)
set_option maxHeartbeats 4000000 in
set_option maxRecDepth 100000 in
theorem wL_kept_j514 {p : Program} {l : Launch} {e : Env} {s : State} {m : MethodId} {args : Array Value} {below : List Frame} {meth : Method} {c : Code} {X : x_T} {r : (Int32 × x_S)} (F : x_F p s m args meth c cL_kept 12 RL (some .boolean)) (Z : xm_Z l s X) (k338 : x_S → Int32 → Int32 → Int32 → Int32 → Int64 → Int32 → Int32 → Option (Int32 × x_S)) (c338 : Nat) (hk338 : ∀ (σ : x_S) (y1 : Int32) (y2 : Int32) (y3 : Int32) (y4 : Int32) (y5 : Int64) (y7 : Int32) (y8 : Int32) (H : Heap) (locs : List Loc) (ls : Array Slot) (cells slots : Nat), cells + c338 ≤ 1468 ∧ slots + 6 * c338 ≤ 8808 → k338 σ y1 y2 y3 y4 y5 y7 y8 = some r → x_I X σ s H locs → lv_has ls 12 [(0, .ref (X.2.2 10 32)), (1, .int y1), (2, .int y2), (3, .int y3), (4, .int y4), (5, .long y5), (7, .int y7), (8, .int y8)] → W p l e rm_L_kept s m args below meth c H locs cells slots (MQ below (x_Qi X r.1 r.2 s.heap.size) args s 1468 8808 (x_A X s.heap.size)) (F0 m 338 ls [])) (σ : x_S) (y2 : Int32) (y3 : Int32) (y4 : Int32) (y5 : Int64) (y7 : Int32) (y8 : Int32) (H : Heap) (locs : List Loc) (ls : Array Slot) (cells slots : Nat) (hf : cells + (7 + c338) ≤ 1468 ∧ slots + 6 * (7 + c338) ≤ 8808) (h : fL_kept_j514 k338 σ y2 y3 y4 y5 y7 y8 = some r) (hI : x_I X σ s H locs) (hl : lv_has ls 12 [(0, .ref (X.2.2 10 32)), (2, .int y2), (3, .int y3), (4, .int y4), (5, .long y5), (7, .int y7), (8, .int y8)]) : W p l e rm_L_kept s m args below meth c H locs cells slots (MQ below (x_Qi X r.1 r.2 s.heap.size) args s 1468 8808 (x_A X s.heap.size)) (F0 m 514 ls []) := by
  have hx := F.1
  have hb := F.2.1
  have hml := F.2.2.1
  have hown := F.2.2.2.1
  have hts := F.2.2.2.2.1
  obtain ⟨hf1, hf2⟩ := hf
  unfold fL_kept_j514 at h
  refine lv_iconst (v := 0) hx hb dL_kept_514 (by decide) ?_
  exact wL_kept_j515 F Z k338 c338 hk338 σ y2 y3 y4 y5 y7 y8 (0 : Int32) _ _ _ _ _ ⟨by omega, by omega⟩ h hI (lv_sub hl [0, 1, 2, 3, 4, 5, 6] rfl)
def fL_kept_j381 (k338 : x_S → Int32 → Int32 → Int32 → Int32 → Int64 → Int32 → Int32 → Option (Int32 × x_S)) (σ : x_S) (y1 : Int32) (y2 : Int32) (y3 : Int32) (y5 : Int64) (y7 : Int32) (y8 : Int32) (y9 : Int32) (z0 : Int32) (z1 : Int32) : Option (Int32 × x_S) := x_let (z1 + z0) fun x73 => (if y9 = 0 then fL_kept_j516 k338 σ y1 y2 y3 x73 y5 y7 y8 else (Option.bind (fL_roomOf σ y8) fun r76 => x_let (r76.1).toInt32 fun x78 => (Option.bind (fL_ticksLeft r76.2 y8) fun r80 => (if (lg_cmp r80.1 (0 : Int64)) ≤ 0 then fL_kept_j514 k338 r80.2 y2 y3 x73 y5 y7 y8 else (Option.bind (fL_stateOf r80.2 x78) fun r83 => (if (lg_cmp r83.1 (2 : Int64)) = 0 then (Option.bind (fL_guestOf r83.2 x78) fun r86 => (if (lg_cmp r86.1 y8.toInt64) = 0 then (Option.bind (fL_ticksLeft r86.2 y8) fun r89 => (Option.bind (fL_ticksOf r89.2 x78) fun r91 => (if 0 < (lg_cmp r89.1 r91.1) then fL_kept_j514 k338 r91.2 y2 y3 x73 y5 y7 y8 else (Option.bind (fL_staysOf r91.2 y8) fun r94 => (if (lg_cmp r94.1 (0 : Int64)) ≤ 0 then fL_kept_j514 k338 r94.2 y2 y3 x73 y5 y7 y8 else (Option.bind (fL_isHaunted r94.2 y8) fun r97 => (Option.bind (fL_hasGhost r97.2 x78) fun r99 => (if (lg_cmp r97.1 r99.1) = 0 then (Option.bind (fL_toRenewal r99.2 y8) fun r102 => (if (lg_cmp r102.1 (-9000000000000000003 : Int64)) = 0 then fL_kept_j510 k338 r102.2 y2 y3 x73 y5 y7 y8 else (Option.bind (fL_toRenewal r102.2 y8) fun r105 => (Option.bind (fL_ticksLeft r105.2 y8) fun r107 => (Option.bind (fL_in r105.1 (1 : Int64) r107.1) fun r109 => (if r109 = 0 then fL_kept_j514 k338 r107.2 y2 y3 x73 y5 y7 y8 else fL_kept_j510 k338 r107.2 y2 y3 x73 y5 y7 y8)))))) else fL_kept_j514 k338 r99.2 y2 y3 x73 y5 y7 y8)))))))) else fL_kept_j514 k338 r86.2 y2 y3 x73 y5 y7 y8)) else fL_kept_j514 k338 r83.2 y2 y3 x73 y5 y7 y8))))))
set_option maxHeartbeats 4000000 in
set_option maxRecDepth 100000 in
theorem wL_kept_j381 {p : Program} {l : Launch} {e : Env} {s : State} {m : MethodId} {args : Array Value} {below : List Frame} {meth : Method} {c : Code} {X : x_T} {r : (Int32 × x_S)} (F : x_F p s m args meth c cL_kept 12 RL (some .boolean)) (Z : xm_Z l s X) (k338 : x_S → Int32 → Int32 → Int32 → Int32 → Int64 → Int32 → Int32 → Option (Int32 × x_S)) (c338 : Nat) (hk338 : ∀ (σ : x_S) (y1 : Int32) (y2 : Int32) (y3 : Int32) (y4 : Int32) (y5 : Int64) (y7 : Int32) (y8 : Int32) (H : Heap) (locs : List Loc) (ls : Array Slot) (cells slots : Nat), cells + c338 ≤ 1468 ∧ slots + 6 * c338 ≤ 8808 → k338 σ y1 y2 y3 y4 y5 y7 y8 = some r → x_I X σ s H locs → lv_has ls 12 [(0, .ref (X.2.2 10 32)), (1, .int y1), (2, .int y2), (3, .int y3), (4, .int y4), (5, .long y5), (7, .int y7), (8, .int y8)] → W p l e rm_L_kept s m args below meth c H locs cells slots (MQ below (x_Qi X r.1 r.2 s.heap.size) args s 1468 8808 (x_A X s.heap.size)) (F0 m 338 ls [])) (σ : x_S) (y1 : Int32) (y2 : Int32) (y3 : Int32) (y5 : Int64) (y7 : Int32) (y8 : Int32) (y9 : Int32) (z0 : Int32) (z1 : Int32) (H : Heap) (locs : List Loc) (ls : Array Slot) (cells slots : Nat) (hf : cells + (19 + c338) ≤ 1468 ∧ slots + 6 * (19 + c338) ≤ 8808) (h : fL_kept_j381 k338 σ y1 y2 y3 y5 y7 y8 y9 z0 z1 = some r) (hI : x_I X σ s H locs) (hl : lv_has ls 12 [(0, .ref (X.2.2 10 32)), (1, .int y1), (2, .int y2), (3, .int y3), (5, .long y5), (7, .int y7), (8, .int y8), (9, .int y9)]) : W p l e rm_L_kept s m args below meth c H locs cells slots (MQ below (x_Qi X r.1 r.2 s.heap.size) args s 1468 8808 (x_A X s.heap.size)) (F0 m 381 ls [.int z0, .int z1]) := by
  have hx := F.1
  have hb := F.2.1
  have hml := F.2.2.1
  have hown := F.2.2.2.1
  have hts := F.2.2.2.2.1
  obtain ⟨hf1, hf2⟩ := hf
  unfold fL_kept_j381 at h
  refine lv_iadd hx hb dL_kept_381 ?_
  refine lv_topi (fun x73 e74 => ?_)
  have h := x_let_at h e74
  refine lv_istore (lv' := [(4, .int x73), (0, .ref (X.2.2 10 32)), (1, .int y1), (2, .int y2), (3, .int y3), (5, .long y5), (7, .int y7), (8, .int y8), (9, .int y9)]) hx hb dL_kept_382 hl (by decide) rfl (fun ls hl => ?_)
  refine lv_iload hx hb dL_kept_384 (lv_at hl 8 rfl) ?_
  refine lv_if_eq (tgt := 516) hx hb dL_kept_386 (by decide) (fun c75 => ?_) (fun c75 => ?_)
  · have h := x_ift h c75
    exact wL_kept_j516 F Z k338 c338 hk338 σ y1 y2 y3 x73 y5 y7 y8 _ _ _ _ _ ⟨by omega, by omega⟩ h hI (lv_sub hl [1, 2, 3, 4, 0, 5, 6, 7] rfl)
  · have h := x_iff h c75
    refine lv_aload_n hx hb dL_kept_389 rfl (lv_at hl 1 rfl) ?_
    refine lv_iload hx hb dL_kept_390 (lv_at hl 7 rfl) ?_
    obtain ⟨r76, h77, h⟩ := x_bnd h
    refine xm_acl hI (xw_run (rest := []) F Z.2 hI (mL_roomOf l Z.1 X _ σ y8 r76 h77) gw_L_181 hd_L_roomOf ⟨by decide, by decide⟩ ⟨rfl, rfl⟩ rfl hl.1 rfl (Nat.le_of_ble_eq_true rfl) dL_kept_392 ⟨(by show _ ≤ (1468 : Nat); omega), (by show _ ≤ (8808 : Nat); omega)⟩) (fun H locs hI => ?_)
    refine lv_l2i hx hb dL_kept_395 rfl ?_
    refine lv_topi (fun x78 e79 => ?_)
    have h := x_let_at h e79
    refine lv_istore (lv' := [(10, .int x78), (4, .int x73), (0, .ref (X.2.2 10 32)), (1, .int y1), (2, .int y2), (3, .int y3), (5, .long y5), (7, .int y7), (8, .int y8), (9, .int y9)]) hx hb dL_kept_396 hl (by decide) rfl (fun ls hl => ?_)
    refine lv_aload_n hx hb dL_kept_398 rfl (lv_at hl 2 rfl) ?_
    refine lv_iload hx hb dL_kept_399 (lv_at hl 8 rfl) ?_
    obtain ⟨r80, h81, h⟩ := x_bnd h
    refine xm_acl hI (xw_run (rest := []) F Z.2 hI (mL_ticksLeft l Z.1 X _ r76.2 y8 r80 h81) gw_L_183 hd_L_ticksLeft ⟨by decide, by decide⟩ ⟨rfl, rfl⟩ rfl hl.1 rfl (Nat.le_of_ble_eq_true rfl) dL_kept_401 ⟨(by show _ ≤ (1468 : Nat); omega), (by show _ ≤ (8808 : Nat); omega)⟩) (fun H locs hI => ?_)
    refine lv_lconst (v := 0) hx hb dL_kept_404 (by decide) ?_
    refine W.lcmp hx hb dL_kept_405 ?_
    refine lv_if_le (tgt := 514) hx hb dL_kept_406 (by decide) (fun c82 => ?_) (fun c82 => ?_)
    · have h := x_ift h c82
      exact wL_kept_j514 F Z k338 c338 hk338 r80.2 y2 y3 x73 y5 y7 y8 _ _ _ _ _ ⟨by omega, by omega⟩ h hI (lv_sub hl [2, 4, 5, 1, 6, 7, 8] rfl)
    · have h := x_iff h c82
      refine lv_aload_n hx hb dL_kept_409 rfl (lv_at hl 2 rfl) ?_
      refine lv_iload hx hb dL_kept_410 (lv_at hl 0 rfl) ?_
      obtain ⟨r83, h84, h⟩ := x_bnd h
      refine xm_acl hI (xw_run (rest := []) F Z.2 hI (mL_stateOf l Z.1 X _ r80.2 x78 r83 h84) gw_L_192 hd_L_stateOf ⟨by decide, by decide⟩ ⟨rfl, rfl⟩ rfl hl.1 rfl (Nat.le_of_ble_eq_true rfl) dL_kept_412 ⟨(by show _ ≤ (1468 : Nat); omega), (by show _ ≤ (8808 : Nat); omega)⟩) (fun H locs hI => ?_)
      refine lv_ldc2 (v := 2) hx hb hown (hts _ u_cl_L_224) dL_kept_415 ?_
      refine W.lcmp hx hb dL_kept_418 ?_
      refine lv_if_ne (tgt := 514) hx hb dL_kept_419 (by decide) (fun c85 => ?_) (fun c85 => ?_)
      · have h := x_iff h c85
        exact wL_kept_j514 F Z k338 c338 hk338 r83.2 y2 y3 x73 y5 y7 y8 _ _ _ _ _ ⟨by omega, by omega⟩ h hI (lv_sub hl [2, 4, 5, 1, 6, 7, 8] rfl)
      · have h := x_ift h c85
        refine lv_aload_n hx hb dL_kept_422 rfl (lv_at hl 2 rfl) ?_
        refine lv_iload hx hb dL_kept_423 (lv_at hl 0 rfl) ?_
        obtain ⟨r86, h87, h⟩ := x_bnd h
        refine xm_acl hI (xw_run (rest := []) F Z.2 hI (mL_guestOf l Z.1 X _ r83.2 x78 r86 h87) gw_L_194 hd_L_guestOf ⟨by decide, by decide⟩ ⟨rfl, rfl⟩ rfl hl.1 rfl (Nat.le_of_ble_eq_true rfl) dL_kept_425 ⟨(by show _ ≤ (1468 : Nat); omega), (by show _ ≤ (8808 : Nat); omega)⟩) (fun H locs hI => ?_)
        refine lv_iload hx hb dL_kept_428 (lv_at hl 8 rfl) ?_
        refine lv_i2l hx hb dL_kept_430 rfl ?_
        refine W.lcmp hx hb dL_kept_431 ?_
        refine lv_if_ne (tgt := 514) hx hb dL_kept_432 (by decide) (fun c88 => ?_) (fun c88 => ?_)
        · have h := x_iff h c88
          exact wL_kept_j514 F Z k338 c338 hk338 r86.2 y2 y3 x73 y5 y7 y8 _ _ _ _ _ ⟨by omega, by omega⟩ h hI (lv_sub hl [2, 4, 5, 1, 6, 7, 8] rfl)
        · have h := x_ift h c88
          refine lv_aload_n hx hb dL_kept_435 rfl (lv_at hl 2 rfl) ?_
          refine lv_iload hx hb dL_kept_436 (lv_at hl 8 rfl) ?_
          obtain ⟨r89, h90, h⟩ := x_bnd h
          refine xm_acl hI (xw_run (rest := []) F Z.2 hI (mL_ticksLeft l Z.1 X _ r86.2 y8 r89 h90) gw_L_183 hd_L_ticksLeft ⟨by decide, by decide⟩ ⟨rfl, rfl⟩ rfl hl.1 rfl (Nat.le_of_ble_eq_true rfl) dL_kept_438 ⟨(by show _ ≤ (1468 : Nat); omega), (by show _ ≤ (8808 : Nat); omega)⟩) (fun H locs hI => ?_)
          refine lv_aload_n hx hb dL_kept_441 rfl (lv_at hl 2 rfl) ?_
          refine lv_iload hx hb dL_kept_442 (lv_at hl 0 rfl) ?_
          obtain ⟨r91, h92, h⟩ := x_bnd h
          refine xm_acl hI (xw_run (rest := [.long r89.1]) F Z.2 hI (mL_ticksOf l Z.1 X _ r89.2 x78 r91 h92) gw_L_196 hd_L_ticksOf ⟨by decide, by decide⟩ ⟨rfl, rfl⟩ rfl hl.1 rfl (Nat.le_of_ble_eq_true rfl) dL_kept_444 ⟨(by show _ ≤ (1468 : Nat); omega), (by show _ ≤ (8808 : Nat); omega)⟩) (fun H locs hI => ?_)
          refine W.lcmp hx hb dL_kept_447 ?_
          refine lv_if_gt (tgt := 514) hx hb dL_kept_448 (by decide) (fun c93 => ?_) (fun c93 => ?_)
          · have h := x_ift h c93
            exact wL_kept_j514 F Z k338 c338 hk338 r91.2 y2 y3 x73 y5 y7 y8 _ _ _ _ _ ⟨by omega, by omega⟩ h hI (lv_sub hl [2, 4, 5, 1, 6, 7, 8] rfl)
          · have h := x_iff h c93
            refine lv_aload_n hx hb dL_kept_451 rfl (lv_at hl 2 rfl) ?_
            refine lv_iload hx hb dL_kept_452 (lv_at hl 8 rfl) ?_
            obtain ⟨r94, h95, h⟩ := x_bnd h
            refine xm_acl hI (xw_run (rest := []) F Z.2 hI (mL_staysOf l Z.1 X _ r91.2 y8 r94 h95) gw_L_190 hd_L_staysOf ⟨by decide, by decide⟩ ⟨rfl, rfl⟩ rfl hl.1 rfl (Nat.le_of_ble_eq_true rfl) dL_kept_454 ⟨(by show _ ≤ (1468 : Nat); omega), (by show _ ≤ (8808 : Nat); omega)⟩) (fun H locs hI => ?_)
            refine lv_lconst (v := 0) hx hb dL_kept_457 (by decide) ?_
            refine W.lcmp hx hb dL_kept_458 ?_
            refine lv_if_le (tgt := 514) hx hb dL_kept_459 (by decide) (fun c96 => ?_) (fun c96 => ?_)
            · have h := x_ift h c96
              exact wL_kept_j514 F Z k338 c338 hk338 r94.2 y2 y3 x73 y5 y7 y8 _ _ _ _ _ ⟨by omega, by omega⟩ h hI (lv_sub hl [2, 4, 5, 1, 6, 7, 8] rfl)
            · have h := x_iff h c96
              refine lv_aload_n hx hb dL_kept_462 rfl (lv_at hl 2 rfl) ?_
              refine lv_iload hx hb dL_kept_463 (lv_at hl 8 rfl) ?_
              obtain ⟨r97, h98, h⟩ := x_bnd h
              refine xm_acl hI (xw_run (rest := []) F Z.2 hI (mL_isHaunted l Z.1 X _ r94.2 y8 r97 h98) gw_L_188 hd_L_isHaunted ⟨by decide, by decide⟩ ⟨rfl, rfl⟩ rfl hl.1 rfl (Nat.le_of_ble_eq_true rfl) dL_kept_465 ⟨(by show _ ≤ (1468 : Nat); omega), (by show _ ≤ (8808 : Nat); omega)⟩) (fun H locs hI => ?_)
              refine lv_aload_n hx hb dL_kept_468 rfl (lv_at hl 2 rfl) ?_
              refine lv_iload hx hb dL_kept_469 (lv_at hl 0 rfl) ?_
              obtain ⟨r99, h100, h⟩ := x_bnd h
              refine xm_acl hI (xw_run (rest := [.long r97.1]) F Z.2 hI (mL_hasGhost l Z.1 X _ r97.2 x78 r99 h100) gw_L_200 hd_L_hasGhost ⟨by decide, by decide⟩ ⟨rfl, rfl⟩ rfl hl.1 rfl (Nat.le_of_ble_eq_true rfl) dL_kept_471 ⟨(by show _ ≤ (1468 : Nat); omega), (by show _ ≤ (8808 : Nat); omega)⟩) (fun H locs hI => ?_)
              refine W.lcmp hx hb dL_kept_474 ?_
              refine lv_if_ne (tgt := 514) hx hb dL_kept_475 (by decide) (fun c101 => ?_) (fun c101 => ?_)
              · have h := x_iff h c101
                exact wL_kept_j514 F Z k338 c338 hk338 r99.2 y2 y3 x73 y5 y7 y8 _ _ _ _ _ ⟨by omega, by omega⟩ h hI (lv_sub hl [2, 4, 5, 1, 6, 7, 8] rfl)
              · have h := x_ift h c101
                refine lv_aload_n hx hb dL_kept_478 rfl (lv_at hl 2 rfl) ?_
                refine lv_iload hx hb dL_kept_479 (lv_at hl 8 rfl) ?_
                obtain ⟨r102, h103, h⟩ := x_bnd h
                refine xm_acl hI (xw_run (rest := []) F Z.2 hI (mL_toRenewal l Z.1 X _ r99.2 y8 r102 h103) gw_L_185 hd_L_toRenewal ⟨by decide, by decide⟩ ⟨rfl, rfl⟩ rfl hl.1 rfl (Nat.le_of_ble_eq_true rfl) dL_kept_481 ⟨(by show _ ≤ (1468 : Nat); omega), (by show _ ≤ (8808 : Nat); omega)⟩) (fun H locs hI => ?_)
                refine lv_ldc2 (v := -9000000000000000003) hx hb hown (hts _ u_cl_L_21) dL_kept_484 ?_
                refine W.lcmp hx hb dL_kept_487 ?_
                refine lv_if_eq (tgt := 510) hx hb dL_kept_488 (by decide) (fun c104 => ?_) (fun c104 => ?_)
                · have h := x_ift h c104
                  exact wL_kept_j510 F Z k338 c338 hk338 r102.2 y2 y3 x73 y5 y7 y8 _ _ _ _ _ ⟨by omega, by omega⟩ h hI (lv_sub hl [2, 4, 5, 1, 6, 7, 8] rfl)
                · have h := x_iff h c104
                  refine lv_aload_n hx hb dL_kept_491 rfl (lv_at hl 2 rfl) ?_
                  refine lv_iload hx hb dL_kept_492 (lv_at hl 8 rfl) ?_
                  obtain ⟨r105, h106, h⟩ := x_bnd h
                  refine xm_acl hI (xw_run (rest := []) F Z.2 hI (mL_toRenewal l Z.1 X _ r102.2 y8 r105 h106) gw_L_185 hd_L_toRenewal ⟨by decide, by decide⟩ ⟨rfl, rfl⟩ rfl hl.1 rfl (Nat.le_of_ble_eq_true rfl) dL_kept_494 ⟨(by show _ ≤ (1468 : Nat); omega), (by show _ ≤ (8808 : Nat); omega)⟩) (fun H locs hI => ?_)
                  refine lv_lconst (v := 1) hx hb dL_kept_497 (by decide) ?_
                  refine lv_aload_n hx hb dL_kept_498 rfl (lv_at hl 2 rfl) ?_
                  refine lv_iload hx hb dL_kept_499 (lv_at hl 8 rfl) ?_
                  obtain ⟨r107, h108, h⟩ := x_bnd h
                  refine xm_acl hI (xw_run (rest := [.long (1 : Int64), .long r105.1]) F Z.2 hI (mL_ticksLeft l Z.1 X _ r105.2 y8 r107 h108) gw_L_183 hd_L_ticksLeft ⟨by decide, by decide⟩ ⟨rfl, rfl⟩ rfl hl.1 rfl (Nat.le_of_ble_eq_true rfl) dL_kept_501 ⟨(by show _ ≤ (1468 : Nat); omega), (by show _ ≤ (8808 : Nat); omega)⟩) (fun H locs hI => ?_)
                  obtain ⟨r109, h110, h⟩ := x_bnd h
                  refine x_aci hI (x_runS (rest := []) F hI (mL_in l X r107.2 _ r105.1 (1 : Int64) r107.1 r109 h110) g_L_234 hd_L_in ⟨by decide, by decide⟩ ⟨rfl, rfl⟩ rfl hl.1 rfl (Nat.le_of_ble_eq_true rfl) dL_kept_504 ⟨(by show _ ≤ (1468 : Nat); omega), (by show _ ≤ (8808 : Nat); omega)⟩) (fun H locs hI => ?_)
                  refine lv_if_eq (tgt := 514) hx hb dL_kept_507 (by decide) (fun c111 => ?_) (fun c111 => ?_)
                  · have h := x_ift h c111
                    exact wL_kept_j514 F Z k338 c338 hk338 r107.2 y2 y3 x73 y5 y7 y8 _ _ _ _ _ ⟨by omega, by omega⟩ h hI (lv_sub hl [2, 4, 5, 1, 6, 7, 8] rfl)
                  · have h := x_iff h c111
                    exact wL_kept_j510 F Z k338 c338 hk338 r107.2 y2 y3 x73 y5 y7 y8 _ _ _ _ _ ⟨by omega, by omega⟩ h hI (lv_sub hl [2, 4, 5, 1, 6, 7, 8] rfl)
def fL_kept_j367 (k338 : x_S → Int32 → Int32 → Int32 → Int32 → Int64 → Int32 → Int32 → Option (Int32 × x_S)) (σ : x_S) (y1 : Int32) (y2 : Int32) (y3 : Int32) (y4 : Int32) (y5 : Int64) (y7 : Int32) (y8 : Int32) (z0 : Int32) : Option (Int32 × x_S) := (if z0 = 0 then fL_kept_j381 k338 σ y1 y2 y3 y5 y7 y8 z0 (0 : Int32) y4 else fL_kept_j381 k338 σ y1 y2 y3 y5 y7 y8 z0 (1 : Int32) y4)
set_option maxHeartbeats 4000000 in
set_option maxRecDepth 100000 in
theorem wL_kept_j367 {p : Program} {l : Launch} {e : Env} {s : State} {m : MethodId} {args : Array Value} {below : List Frame} {meth : Method} {c : Code} {X : x_T} {r : (Int32 × x_S)} (F : x_F p s m args meth c cL_kept 12 RL (some .boolean)) (Z : xm_Z l s X) (k338 : x_S → Int32 → Int32 → Int32 → Int32 → Int64 → Int32 → Int32 → Option (Int32 × x_S)) (c338 : Nat) (hk338 : ∀ (σ : x_S) (y1 : Int32) (y2 : Int32) (y3 : Int32) (y4 : Int32) (y5 : Int64) (y7 : Int32) (y8 : Int32) (H : Heap) (locs : List Loc) (ls : Array Slot) (cells slots : Nat), cells + c338 ≤ 1468 ∧ slots + 6 * c338 ≤ 8808 → k338 σ y1 y2 y3 y4 y5 y7 y8 = some r → x_I X σ s H locs → lv_has ls 12 [(0, .ref (X.2.2 10 32)), (1, .int y1), (2, .int y2), (3, .int y3), (4, .int y4), (5, .long y5), (7, .int y7), (8, .int y8)] → W p l e rm_L_kept s m args below meth c H locs cells slots (MQ below (x_Qi X r.1 r.2 s.heap.size) args s 1468 8808 (x_A X s.heap.size)) (F0 m 338 ls [])) (σ : x_S) (y1 : Int32) (y2 : Int32) (y3 : Int32) (y4 : Int32) (y5 : Int64) (y7 : Int32) (y8 : Int32) (z0 : Int32) (H : Heap) (locs : List Loc) (ls : Array Slot) (cells slots : Nat) (hf : cells + (19 + c338) ≤ 1468 ∧ slots + 6 * (19 + c338) ≤ 8808) (h : fL_kept_j367 k338 σ y1 y2 y3 y4 y5 y7 y8 z0 = some r) (hI : x_I X σ s H locs) (hl : lv_has ls 12 [(0, .ref (X.2.2 10 32)), (1, .int y1), (2, .int y2), (3, .int y3), (4, .int y4), (5, .long y5), (7, .int y7), (8, .int y8)]) : W p l e rm_L_kept s m args below meth c H locs cells slots (MQ below (x_Qi X r.1 r.2 s.heap.size) args s 1468 8808 (x_A X s.heap.size)) (F0 m 367 ls [.int z0]) := by
  have hx := F.1
  have hb := F.2.1
  have hml := F.2.2.1
  have hown := F.2.2.2.1
  have hts := F.2.2.2.2.1
  obtain ⟨hf1, hf2⟩ := hf
  unfold fL_kept_j367 at h
  refine lv_istore (lv' := [(9, .int z0), (0, .ref (X.2.2 10 32)), (1, .int y1), (2, .int y2), (3, .int y3), (4, .int y4), (5, .long y5), (7, .int y7), (8, .int y8)]) hx hb dL_kept_367 hl (by decide) rfl (fun ls hl => ?_)
  refine lv_iload hx hb dL_kept_369 (lv_at hl 5 rfl) ?_
  refine lv_iload hx hb dL_kept_371 (lv_at hl 0 rfl) ?_
  refine lv_if_eq (tgt := 380) hx hb dL_kept_373 (by decide) (fun c72 => ?_) (fun c72 => ?_)
  · have h := x_ift h c72
    refine lv_iconst (v := 0) hx hb dL_kept_380 (by decide) ?_
    exact wL_kept_j381 F Z k338 c338 hk338 σ y1 y2 y3 y5 y7 y8 z0 (0 : Int32) y4 _ _ _ _ _ ⟨by omega, by omega⟩ h hI (lv_sub hl [1, 2, 3, 4, 6, 7, 8, 0] rfl)
  · have h := x_iff h c72
    refine lv_iconst (v := 1) hx hb dL_kept_376 (by decide) ?_
    refine lv_goto (tgt := 381) hx hb dL_kept_377 (by decide) ?_
    exact wL_kept_j381 F Z k338 c338 hk338 σ y1 y2 y3 y5 y7 y8 z0 (1 : Int32) y4 _ _ _ _ _ ⟨by omega, by omega⟩ h hI (lv_sub hl [1, 2, 3, 4, 6, 7, 8, 0] rfl)
def fL_kept_b338 : Nat → x_S → Int32 → Int32 → Int32 → Int32 → Int64 → Int32 → Int32 → Option (Int32 × x_S)
  | 0, _, _, _, _, _, _, _, _ => none
  | n + 1, σ, y1, y2, y3, y4, y5, y7, y8 => (if (12 : Int32) ≤ y8 then fL_kept_b636 8 σ y1 y2 y3 y4 y5 y7 (0 : Int64) (0 : Int32) else (if y1 = 0 then fL_kept_b636 8 σ y1 y2 y3 y4 y5 y7 (0 : Int64) (0 : Int32) else (Option.bind (fL_doingOf σ y8) fun r69 => (if (lg_cmp r69.1 (3 : Int64)) = 0 then fL_kept_j367 (fL_kept_b338 n) r69.2 y1 y2 y3 y4 y5 y7 y8 (1 : Int32) else fL_kept_j367 (fL_kept_b338 n) r69.2 y1 y2 y3 y4 y5 y7 y8 (0 : Int32)))))
set_option maxHeartbeats 4000000 in
set_option maxRecDepth 100000 in
theorem wL_kept_b338 {p : Program} {l : Launch} {e : Env} {s : State} {m : MethodId} {args : Array Value} {below : List Frame} {meth : Method} {c : Code} {X : x_T} {r : (Int32 × x_S)} (F : x_F p s m args meth c cL_kept 12 RL (some .boolean)) (Z : xm_Z l s X) : ∀ (n : Nat) (σ : x_S) (y1 : Int32) (y2 : Int32) (y3 : Int32) (y4 : Int32) (y5 : Int64) (y7 : Int32) (y8 : Int32) (H : Heap) (locs : List Loc) (ls : Array Slot) (cells slots : Nat), cells + (20 * n + 254) ≤ 1468 ∧ slots + 6 * (20 * n + 254) ≤ 8808 → fL_kept_b338 n σ y1 y2 y3 y4 y5 y7 y8 = some r → x_I X σ s H locs → lv_has ls 12 [(0, .ref (X.2.2 10 32)), (1, .int y1), (2, .int y2), (3, .int y3), (4, .int y4), (5, .long y5), (7, .int y7), (8, .int y8)] → W p l e rm_L_kept s m args below meth c H locs cells slots (MQ below (x_Qi X r.1 r.2 s.heap.size) args s 1468 8808 (x_A X s.heap.size)) (F0 m 338 ls []) := by
  have hx := F.1
  have hb := F.2.1
  have hml := F.2.2.1
  have hown := F.2.2.2.1
  have hts := F.2.2.2.2.1
  intro n
  induction n with
  | zero =>
    intro σ y1 y2 y3 y4 y5 y7 y8 H locs ls cells slots hf h
    rw [fL_kept_b338] at h
    cases h
  | succ n ih =>
    intro σ y1 y2 y3 y4 y5 y7 y8 H locs ls cells slots hf h hI hl
    obtain ⟨hf1, hf2⟩ := hf
    rw [fL_kept_b338] at h
    refine lv_iload hx hb dL_kept_338 (lv_at hl 7 rfl) ?_
    refine lv_bipush (v := 12) hx hb dL_kept_340 (by decide) ?_
    refine lv_icmp_ge (tgt := 630) hx hb dL_kept_342 (by decide) (fun c67 => ?_) (fun c67 => ?_)
    · have h := x_ift h c67
      refine lv_lconst (v := 0) hx hb dL_kept_630 (by decide) ?_
      refine lv_lstore (lv' := [(8, .long (0 : Int64)), (0, .ref (X.2.2 10 32)), (1, .int y1), (2, .int y2), (3, .int y3), (4, .int y4), (5, .long y5), (7, .int y7)]) hx hb dL_kept_631 hl (by decide) rfl (fun ls hl => ?_)
      refine lv_iconst (v := 0) hx hb dL_kept_633 (by decide) ?_
      refine lv_istore (lv' := [(10, .int (0)), (8, .long (0 : Int64)), (0, .ref (X.2.2 10 32)), (1, .int y1), (2, .int y2), (3, .int y3), (4, .int y4), (5, .long y5), (7, .int y7)]) hx hb dL_kept_634 hl (by decide) rfl (fun ls hl => ?_)
      exact wL_kept_b636 F Z 8 σ y1 y2 y3 y4 y5 y7 (0 : Int64) (0 : Int32) _ _ _ _ _ ⟨by omega, by omega⟩ h hI (lv_sub hl [2, 3, 4, 5, 6, 7, 8, 1, 0] rfl)
    · have h := x_iff h c67
      refine lv_iload_n hx hb dL_kept_345 rfl (lv_at hl 1 rfl) ?_
      refine lv_if_eq (tgt := 630) hx hb dL_kept_346 (by decide) (fun c68 => ?_) (fun c68 => ?_)
      · have h := x_ift h c68
        refine lv_lconst (v := 0) hx hb dL_kept_630 (by decide) ?_
        refine lv_lstore (lv' := [(8, .long (0 : Int64)), (0, .ref (X.2.2 10 32)), (1, .int y1), (2, .int y2), (3, .int y3), (4, .int y4), (5, .long y5), (7, .int y7)]) hx hb dL_kept_631 hl (by decide) rfl (fun ls hl => ?_)
        refine lv_iconst (v := 0) hx hb dL_kept_633 (by decide) ?_
        refine lv_istore (lv' := [(10, .int (0)), (8, .long (0 : Int64)), (0, .ref (X.2.2 10 32)), (1, .int y1), (2, .int y2), (3, .int y3), (4, .int y4), (5, .long y5), (7, .int y7)]) hx hb dL_kept_634 hl (by decide) rfl (fun ls hl => ?_)
        exact wL_kept_b636 F Z 8 σ y1 y2 y3 y4 y5 y7 (0 : Int64) (0 : Int32) _ _ _ _ _ ⟨by omega, by omega⟩ h hI (lv_sub hl [2, 3, 4, 5, 6, 7, 8, 1, 0] rfl)
      · have h := x_iff h c68
        refine lv_aload_n hx hb dL_kept_349 rfl (lv_at hl 0 rfl) ?_
        refine lv_iload hx hb dL_kept_350 (lv_at hl 7 rfl) ?_
        obtain ⟨r69, h70, h⟩ := x_bnd h
        refine xm_acl hI (xw_run (rest := []) F Z.2 hI (mL_doingOf l Z.1 X _ σ y8 r69 h70) gw_L_179 hd_L_doingOf ⟨by decide, by decide⟩ ⟨rfl, rfl⟩ rfl hl.1 rfl (Nat.le_of_ble_eq_true rfl) dL_kept_352 ⟨(by show _ ≤ (1468 : Nat); omega), (by show _ ≤ (8808 : Nat); omega)⟩) (fun H locs hI => ?_)
        refine lv_ldc2 (v := 3) hx hb hown (hts _ u_cl_L_222) dL_kept_355 ?_
        refine W.lcmp hx hb dL_kept_358 ?_
        refine lv_if_ne (tgt := 366) hx hb dL_kept_359 (by decide) (fun c71 => ?_) (fun c71 => ?_)
        · have h := x_iff h c71
          refine lv_iconst (v := 0) hx hb dL_kept_366 (by decide) ?_
          exact wL_kept_j367 F Z (fL_kept_b338 n) (20 * n + 254) ih r69.2 y1 y2 y3 y4 y5 y7 y8 (0 : Int32) _ _ _ _ _ ⟨by omega, by omega⟩ h hI (lv_sub hl [0, 1, 2, 3, 4, 5, 6, 7] rfl)
        · have h := x_ift h c71
          refine lv_iconst (v := 1) hx hb dL_kept_362 (by decide) ?_
          refine lv_goto (tgt := 367) hx hb dL_kept_363 (by decide) ?_
          exact wL_kept_j367 F Z (fL_kept_b338 n) (20 * n + 254) ih r69.2 y1 y2 y3 y4 y5 y7 y8 (1 : Int32) _ _ _ _ _ ⟨by omega, by omega⟩ h hI (lv_sub hl [0, 1, 2, 3, 4, 5, 6, 7] rfl)
def fL_kept_b277 (k116 : x_S → Int32 → Int32 → Int32 → Int32 → Int64 → Int32 → Int32 → Option (Int32 × x_S)) : Nat → x_S → Int32 → Int32 → Int32 → Int32 → Int64 → Int32 → Int32 → Int32 → Option (Int32 × x_S)
  | 0, _, _, _, _, _, _, _, _, _ => none
  | n + 1, σ, y1, y2, y3, y4, y5, y7, y8, y11 => (if y8 ≤ y11 then x_let (y8 + (1 : Int32)) fun x153 => k116 σ y1 y2 y3 y4 y5 y7 x153 else (if y1 = 0 then x_let (y8 + (1 : Int32)) fun x156 => k116 σ y1 y2 y3 y4 y5 y7 x156 else (Option.bind (fL_reservedFor σ y8) fun r158 => (if (lg_cmp r158.1 (-9000000000000000003 : Int64)) = 0 then x_let (y11 + (1 : Int32)) fun x161 => (fL_kept_b277 k116 n) r158.2 (1 : Int32) y2 y3 y4 y5 y7 y8 x161 else (Option.bind (fL_reservedFor r158.2 y8) fun r163 => (Option.bind (fL_reservedFor r163.2 y11) fun r165 => (if (lg_cmp r163.1 r165.1) = 0 then x_let (y11 + (1 : Int32)) fun x168 => (fL_kept_b277 k116 n) r165.2 (0 : Int32) y2 y3 y4 y5 y7 y8 x168 else x_let (y11 + (1 : Int32)) fun x170 => (fL_kept_b277 k116 n) r165.2 (1 : Int32) y2 y3 y4 y5 y7 y8 x170)))))))
set_option maxHeartbeats 4000000 in
set_option maxRecDepth 100000 in
theorem wL_kept_b277 {p : Program} {l : Launch} {e : Env} {s : State} {m : MethodId} {args : Array Value} {below : List Frame} {meth : Method} {c : Code} {X : x_T} {r : (Int32 × x_S)} (F : x_F p s m args meth c cL_kept 12 RL (some .boolean)) (Z : xm_Z l s X) (k116 : x_S → Int32 → Int32 → Int32 → Int32 → Int64 → Int32 → Int32 → Option (Int32 × x_S)) (c116 : Nat) (hk116 : ∀ (σ : x_S) (y1 : Int32) (y2 : Int32) (y3 : Int32) (y4 : Int32) (y5 : Int64) (y7 : Int32) (y8 : Int32) (H : Heap) (locs : List Loc) (ls : Array Slot) (cells slots : Nat), cells + c116 ≤ 1468 ∧ slots + 6 * c116 ≤ 8808 → k116 σ y1 y2 y3 y4 y5 y7 y8 = some r → x_I X σ s H locs → lv_has ls 12 [(0, .ref (X.2.2 10 32)), (1, .int y1), (2, .int y2), (3, .int y3), (4, .int y4), (5, .long y5), (7, .int y7), (8, .int y8)] → W p l e rm_L_kept s m args below meth c H locs cells slots (MQ below (x_Qi X r.1 r.2 s.heap.size) args s 1468 8808 (x_A X s.heap.size)) (F0 m 116 ls [])) : ∀ (n : Nat) (σ : x_S) (y1 : Int32) (y2 : Int32) (y3 : Int32) (y4 : Int32) (y5 : Int64) (y7 : Int32) (y8 : Int32) (y11 : Int32) (H : Heap) (locs : List Loc) (ls : Array Slot) (cells slots : Nat), cells + (3 * n + 0 + c116) ≤ 1468 ∧ slots + 6 * (3 * n + 0 + c116) ≤ 8808 → fL_kept_b277 k116 n σ y1 y2 y3 y4 y5 y7 y8 y11 = some r → x_I X σ s H locs → lv_has ls 12 [(0, .ref (X.2.2 10 32)), (1, .int y1), (2, .int y2), (3, .int y3), (4, .int y4), (5, .long y5), (7, .int y7), (8, .int y8), (11, .int y11)] → W p l e rm_L_kept s m args below meth c H locs cells slots (MQ below (x_Qi X r.1 r.2 s.heap.size) args s 1468 8808 (x_A X s.heap.size)) (F0 m 277 ls []) := by
  have hx := F.1
  have hb := F.2.1
  have hml := F.2.2.1
  have hown := F.2.2.2.1
  have hts := F.2.2.2.2.1
  intro n
  induction n with
  | zero =>
    intro σ y1 y2 y3 y4 y5 y7 y8 y11 H locs ls cells slots hf h
    rw [fL_kept_b277] at h
    cases h
  | succ n ih =>
    intro σ y1 y2 y3 y4 y5 y7 y8 y11 H locs ls cells slots hf h hI hl
    obtain ⟨hf1, hf2⟩ := hf
    rw [fL_kept_b277] at h
    refine lv_iload hx hb dL_kept_277 (lv_at hl 8 rfl) ?_
    refine lv_iload hx hb dL_kept_279 (lv_at hl 7 rfl) ?_
    refine lv_icmp_ge (tgt := 329) hx hb dL_kept_281 (by decide) (fun c152 => ?_) (fun c152 => ?_)
    · have h := x_ift h c152
      obtain ⟨x153, e154⟩ : ∃ z : Int32, z = (y8 + (1 : Int32)) := ⟨_, rfl⟩
      have h := x_let_at h e154
      refine lv_iinc (v := x153) (lv' := [(8, .int x153), (0, .ref (X.2.2 10 32)), (1, .int y1), (2, .int y2), (3, .int y3), (4, .int y4), (5, .long y5), (7, .int y7), (11, .int y11)]) hx hb dL_kept_329 hl (k := 7) rfl (by rw [e154]; rfl) (by decide) rfl (fun ls hl => ?_)
      refine lv_goto (tgt := 116) hx hb dL_kept_332 (by decide) ?_
      exact hk116 σ y1 y2 y3 y4 y5 y7 x153 _ _ _ _ _ ⟨by omega, by omega⟩ h hI (lv_sub hl [1, 2, 3, 4, 5, 6, 7, 0] rfl)
    · have h := x_iff h c152
      refine lv_iload_n hx hb dL_kept_284 rfl (lv_at hl 1 rfl) ?_
      refine lv_if_eq (tgt := 329) hx hb dL_kept_285 (by decide) (fun c155 => ?_) (fun c155 => ?_)
      · have h := x_ift h c155
        obtain ⟨x156, e157⟩ : ∃ z : Int32, z = (y8 + (1 : Int32)) := ⟨_, rfl⟩
        have h := x_let_at h e157
        refine lv_iinc (v := x156) (lv' := [(8, .int x156), (0, .ref (X.2.2 10 32)), (1, .int y1), (2, .int y2), (3, .int y3), (4, .int y4), (5, .long y5), (7, .int y7), (11, .int y11)]) hx hb dL_kept_329 hl (k := 7) rfl (by rw [e157]; rfl) (by decide) rfl (fun ls hl => ?_)
        refine lv_goto (tgt := 116) hx hb dL_kept_332 (by decide) ?_
        exact hk116 σ y1 y2 y3 y4 y5 y7 x156 _ _ _ _ _ ⟨by omega, by omega⟩ h hI (lv_sub hl [1, 2, 3, 4, 5, 6, 7, 0] rfl)
      · have h := x_iff h c155
        refine lv_aload_n hx hb dL_kept_288 rfl (lv_at hl 0 rfl) ?_
        refine lv_iload hx hb dL_kept_289 (lv_at hl 7 rfl) ?_
        obtain ⟨r158, h159, h⟩ := x_bnd h
        refine xm_acl hI (xw_run (rest := []) F Z.2 hI (mL_reservedFor l Z.1 X _ σ y8 r158 h159) gw_L_198 hd_L_reservedFor ⟨by decide, by decide⟩ ⟨rfl, rfl⟩ rfl hl.1 rfl (Nat.le_of_ble_eq_true rfl) dL_kept_291 ⟨(by show _ ≤ (1468 : Nat); omega), (by show _ ≤ (8808 : Nat); omega)⟩) (fun H locs hI => ?_)
        refine lv_ldc2 (v := -9000000000000000003) hx hb hown (hts _ u_cl_L_21) dL_kept_294 ?_
        refine W.lcmp hx hb dL_kept_297 ?_
        refine lv_if_eq (tgt := 317) hx hb dL_kept_298 (by decide) (fun c160 => ?_) (fun c160 => ?_)
        · have h := x_ift h c160
          refine lv_iconst (v := 1) hx hb dL_kept_317 (by decide) ?_
          refine lv_goto (tgt := 322) hx hb dL_kept_318 (by decide) ?_
          refine lv_istore_n (lv' := [(1, .int (1)), (0, .ref (X.2.2 10 32)), (2, .int y2), (3, .int y3), (4, .int y4), (5, .long y5), (7, .int y7), (8, .int y8), (11, .int y11)]) hx hb dL_kept_322 rfl hl (by decide) rfl (fun ls hl => ?_)
          obtain ⟨x161, e162⟩ : ∃ z : Int32, z = (y11 + (1 : Int32)) := ⟨_, rfl⟩
          have h := x_let_at h e162
          refine lv_iinc (v := x161) (lv' := [(11, .int x161), (1, .int (1)), (0, .ref (X.2.2 10 32)), (2, .int y2), (3, .int y3), (4, .int y4), (5, .long y5), (7, .int y7), (8, .int y8)]) hx hb dL_kept_323 hl (k := 8) rfl (by rw [e162]; rfl) (by decide) rfl (fun ls hl => ?_)
          refine lv_goto (tgt := 277) hx hb dL_kept_326 (by decide) ?_
          exact ih r158.2 (1 : Int32) y2 y3 y4 y5 y7 y8 x161 _ _ _ _ _ ⟨by omega, by omega⟩ h hI (lv_sub hl [2, 1, 3, 4, 5, 6, 7, 8, 0] rfl)
        · have h := x_iff h c160
          refine lv_aload_n hx hb dL_kept_301 rfl (lv_at hl 0 rfl) ?_
          refine lv_iload hx hb dL_kept_302 (lv_at hl 7 rfl) ?_
          obtain ⟨r163, h164, h⟩ := x_bnd h
          refine xm_acl hI (xw_run (rest := []) F Z.2 hI (mL_reservedFor l Z.1 X _ r158.2 y8 r163 h164) gw_L_198 hd_L_reservedFor ⟨by decide, by decide⟩ ⟨rfl, rfl⟩ rfl hl.1 rfl (Nat.le_of_ble_eq_true rfl) dL_kept_304 ⟨(by show _ ≤ (1468 : Nat); omega), (by show _ ≤ (8808 : Nat); omega)⟩) (fun H locs hI => ?_)
          refine lv_aload_n hx hb dL_kept_307 rfl (lv_at hl 0 rfl) ?_
          refine lv_iload hx hb dL_kept_308 (lv_at hl 8 rfl) ?_
          obtain ⟨r165, h166, h⟩ := x_bnd h
          refine xm_acl hI (xw_run (rest := [.long r163.1]) F Z.2 hI (mL_reservedFor l Z.1 X _ r163.2 y11 r165 h166) gw_L_198 hd_L_reservedFor ⟨by decide, by decide⟩ ⟨rfl, rfl⟩ rfl hl.1 rfl (Nat.le_of_ble_eq_true rfl) dL_kept_310 ⟨(by show _ ≤ (1468 : Nat); omega), (by show _ ≤ (8808 : Nat); omega)⟩) (fun H locs hI => ?_)
          refine W.lcmp hx hb dL_kept_313 ?_
          refine lv_if_eq (tgt := 321) hx hb dL_kept_314 (by decide) (fun c167 => ?_) (fun c167 => ?_)
          · have h := x_ift h c167
            refine lv_iconst (v := 0) hx hb dL_kept_321 (by decide) ?_
            refine lv_istore_n (lv' := [(1, .int (0)), (0, .ref (X.2.2 10 32)), (2, .int y2), (3, .int y3), (4, .int y4), (5, .long y5), (7, .int y7), (8, .int y8), (11, .int y11)]) hx hb dL_kept_322 rfl hl (by decide) rfl (fun ls hl => ?_)
            obtain ⟨x168, e169⟩ : ∃ z : Int32, z = (y11 + (1 : Int32)) := ⟨_, rfl⟩
            have h := x_let_at h e169
            refine lv_iinc (v := x168) (lv' := [(11, .int x168), (1, .int (0)), (0, .ref (X.2.2 10 32)), (2, .int y2), (3, .int y3), (4, .int y4), (5, .long y5), (7, .int y7), (8, .int y8)]) hx hb dL_kept_323 hl (k := 8) rfl (by rw [e169]; rfl) (by decide) rfl (fun ls hl => ?_)
            refine lv_goto (tgt := 277) hx hb dL_kept_326 (by decide) ?_
            exact ih r165.2 (0 : Int32) y2 y3 y4 y5 y7 y8 x168 _ _ _ _ _ ⟨by omega, by omega⟩ h hI (lv_sub hl [2, 1, 3, 4, 5, 6, 7, 8, 0] rfl)
          · have h := x_iff h c167
            refine lv_iconst (v := 1) hx hb dL_kept_317 (by decide) ?_
            refine lv_goto (tgt := 322) hx hb dL_kept_318 (by decide) ?_
            refine lv_istore_n (lv' := [(1, .int (1)), (0, .ref (X.2.2 10 32)), (2, .int y2), (3, .int y3), (4, .int y4), (5, .long y5), (7, .int y7), (8, .int y8), (11, .int y11)]) hx hb dL_kept_322 rfl hl (by decide) rfl (fun ls hl => ?_)
            obtain ⟨x170, e171⟩ : ∃ z : Int32, z = (y11 + (1 : Int32)) := ⟨_, rfl⟩
            have h := x_let_at h e171
            refine lv_iinc (v := x170) (lv' := [(11, .int x170), (1, .int (1)), (0, .ref (X.2.2 10 32)), (2, .int y2), (3, .int y3), (4, .int y4), (5, .long y5), (7, .int y7), (8, .int y8)]) hx hb dL_kept_323 hl (k := 8) rfl (by rw [e171]; rfl) (by decide) rfl (fun ls hl => ?_)
            refine lv_goto (tgt := 277) hx hb dL_kept_326 (by decide) ?_
            exact ih r165.2 (1 : Int32) y2 y3 y4 y5 y7 y8 x170 _ _ _ _ _ ⟨by omega, by omega⟩ h hI (lv_sub hl [2, 1, 3, 4, 5, 6, 7, 8, 0] rfl)
def fL_kept_j236 (k116 : x_S → Int32 → Int32 → Int32 → Int32 → Int64 → Int32 → Int32 → Option (Int32 × x_S)) (σ : x_S) (y2 : Int32) (y3 : Int32) (y4 : Int32) (y5 : Int64) (y7 : Int32) (y8 : Int32) (y9 : Int64) : Option (Int32 × x_S) := (if (lg_cmp y9 (0 : Int64)) = 0 then fL_kept_b277 k116 17 σ (1 : Int32) y2 y3 y4 y5 y7 y8 (0 : Int32) else (if (lg_cmp y9 (3 : Int64)) = 0 then fL_kept_b277 k116 17 σ (1 : Int32) y2 y3 y4 y5 y7 y8 (0 : Int32) else (Option.bind (fL_guestOf σ y8) fun r62 => (Option.bind (fL_in r62.1 (0 : Int64) (11 : Int64)) fun r64 => (if r64 = 0 then fL_kept_b277 k116 17 r62.2 (0 : Int32) y2 y3 y4 y5 y7 y8 (0 : Int32) else fL_kept_b277 k116 17 r62.2 (1 : Int32) y2 y3 y4 y5 y7 y8 (0 : Int32))))))
set_option maxHeartbeats 4000000 in
set_option maxRecDepth 100000 in
theorem wL_kept_j236 {p : Program} {l : Launch} {e : Env} {s : State} {m : MethodId} {args : Array Value} {below : List Frame} {meth : Method} {c : Code} {X : x_T} {r : (Int32 × x_S)} (F : x_F p s m args meth c cL_kept 12 RL (some .boolean)) (Z : xm_Z l s X) (k116 : x_S → Int32 → Int32 → Int32 → Int32 → Int64 → Int32 → Int32 → Option (Int32 × x_S)) (c116 : Nat) (hk116 : ∀ (σ : x_S) (y1 : Int32) (y2 : Int32) (y3 : Int32) (y4 : Int32) (y5 : Int64) (y7 : Int32) (y8 : Int32) (H : Heap) (locs : List Loc) (ls : Array Slot) (cells slots : Nat), cells + c116 ≤ 1468 ∧ slots + 6 * c116 ≤ 8808 → k116 σ y1 y2 y3 y4 y5 y7 y8 = some r → x_I X σ s H locs → lv_has ls 12 [(0, .ref (X.2.2 10 32)), (1, .int y1), (2, .int y2), (3, .int y3), (4, .int y4), (5, .long y5), (7, .int y7), (8, .int y8)] → W p l e rm_L_kept s m args below meth c H locs cells slots (MQ below (x_Qi X r.1 r.2 s.heap.size) args s 1468 8808 (x_A X s.heap.size)) (F0 m 116 ls [])) (σ : x_S) (y2 : Int32) (y3 : Int32) (y4 : Int32) (y5 : Int64) (y7 : Int32) (y8 : Int32) (y9 : Int64) (H : Heap) (locs : List Loc) (ls : Array Slot) (cells slots : Nat) (hf : cells + (52 + c116) ≤ 1468 ∧ slots + 6 * (52 + c116) ≤ 8808) (h : fL_kept_j236 k116 σ y2 y3 y4 y5 y7 y8 y9 = some r) (hI : x_I X σ s H locs) (hl : lv_has ls 12 [(0, .ref (X.2.2 10 32)), (2, .int y2), (3, .int y3), (4, .int y4), (5, .long y5), (7, .int y7), (8, .int y8), (9, .long y9)]) : W p l e rm_L_kept s m args below meth c H locs cells slots (MQ below (x_Qi X r.1 r.2 s.heap.size) args s 1468 8808 (x_A X s.heap.size)) (F0 m 236 ls []) := by
  have hx := F.1
  have hb := F.2.1
  have hml := F.2.2.1
  have hown := F.2.2.2.1
  have hts := F.2.2.2.2.1
  obtain ⟨hf1, hf2⟩ := hf
  unfold fL_kept_j236 at h
  refine lv_lload hx hb dL_kept_236 (lv_at hl 7 rfl) ?_
  refine lv_lconst (v := 0) hx hb dL_kept_238 (by decide) ?_
  refine W.lcmp hx hb dL_kept_239 ?_
  refine lv_if_eq (tgt := 268) hx hb dL_kept_240 (by decide) (fun c60 => ?_) (fun c60 => ?_)
  · have h := x_ift h c60
    refine lv_iconst (v := 1) hx hb dL_kept_268 (by decide) ?_
    refine lv_goto (tgt := 273) hx hb dL_kept_269 (by decide) ?_
    refine lv_istore_n (lv' := [(1, .int (1)), (0, .ref (X.2.2 10 32)), (2, .int y2), (3, .int y3), (4, .int y4), (5, .long y5), (7, .int y7), (8, .int y8), (9, .long y9)]) hx hb dL_kept_273 rfl hl (by decide) rfl (fun ls hl => ?_)
    refine lv_iconst (v := 0) hx hb dL_kept_274 (by decide) ?_
    refine lv_istore (lv' := [(11, .int (0)), (1, .int (1)), (0, .ref (X.2.2 10 32)), (2, .int y2), (3, .int y3), (4, .int y4), (5, .long y5), (7, .int y7), (8, .int y8), (9, .long y9)]) hx hb dL_kept_275 hl (by decide) rfl (fun ls hl => ?_)
    exact wL_kept_b277 F Z k116 c116 hk116 17 σ (1 : Int32) y2 y3 y4 y5 y7 y8 (0 : Int32) _ _ _ _ _ ⟨by omega, by omega⟩ h hI (lv_sub hl [2, 1, 3, 4, 5, 6, 7, 8, 0] rfl)
  · have h := x_iff h c60
    refine lv_lload hx hb dL_kept_243 (lv_at hl 7 rfl) ?_
    refine lv_ldc2 (v := 3) hx hb hown (hts _ u_cl_L_222) dL_kept_245 ?_
    refine W.lcmp hx hb dL_kept_248 ?_
    refine lv_if_eq (tgt := 268) hx hb dL_kept_249 (by decide) (fun c61 => ?_) (fun c61 => ?_)
    · have h := x_ift h c61
      refine lv_iconst (v := 1) hx hb dL_kept_268 (by decide) ?_
      refine lv_goto (tgt := 273) hx hb dL_kept_269 (by decide) ?_
      refine lv_istore_n (lv' := [(1, .int (1)), (0, .ref (X.2.2 10 32)), (2, .int y2), (3, .int y3), (4, .int y4), (5, .long y5), (7, .int y7), (8, .int y8), (9, .long y9)]) hx hb dL_kept_273 rfl hl (by decide) rfl (fun ls hl => ?_)
      refine lv_iconst (v := 0) hx hb dL_kept_274 (by decide) ?_
      refine lv_istore (lv' := [(11, .int (0)), (1, .int (1)), (0, .ref (X.2.2 10 32)), (2, .int y2), (3, .int y3), (4, .int y4), (5, .long y5), (7, .int y7), (8, .int y8), (9, .long y9)]) hx hb dL_kept_275 hl (by decide) rfl (fun ls hl => ?_)
      exact wL_kept_b277 F Z k116 c116 hk116 17 σ (1 : Int32) y2 y3 y4 y5 y7 y8 (0 : Int32) _ _ _ _ _ ⟨by omega, by omega⟩ h hI (lv_sub hl [2, 1, 3, 4, 5, 6, 7, 8, 0] rfl)
    · have h := x_iff h c61
      refine lv_aload_n hx hb dL_kept_252 rfl (lv_at hl 0 rfl) ?_
      refine lv_iload hx hb dL_kept_253 (lv_at hl 6 rfl) ?_
      obtain ⟨r62, h63, h⟩ := x_bnd h
      refine xm_acl hI (xw_run (rest := []) F Z.2 hI (mL_guestOf l Z.1 X _ σ y8 r62 h63) gw_L_194 hd_L_guestOf ⟨by decide, by decide⟩ ⟨rfl, rfl⟩ rfl hl.1 rfl (Nat.le_of_ble_eq_true rfl) dL_kept_255 ⟨(by show _ ≤ (1468 : Nat); omega), (by show _ ≤ (8808 : Nat); omega)⟩) (fun H locs hI => ?_)
      refine lv_lconst (v := 0) hx hb dL_kept_258 (by decide) ?_
      refine lv_ldc2 (v := 11) hx hb hown (hts _ u_cl_L_254) dL_kept_259 ?_
      obtain ⟨r64, h65, h⟩ := x_bnd h
      refine x_aci hI (x_runS (rest := []) F hI (mL_in l X r62.2 _ r62.1 (0 : Int64) (11 : Int64) r64 h65) g_L_234 hd_L_in ⟨by decide, by decide⟩ ⟨rfl, rfl⟩ rfl hl.1 rfl (Nat.le_of_ble_eq_true rfl) dL_kept_262 ⟨(by show _ ≤ (1468 : Nat); omega), (by show _ ≤ (8808 : Nat); omega)⟩) (fun H locs hI => ?_)
      refine lv_if_eq (tgt := 272) hx hb dL_kept_265 (by decide) (fun c66 => ?_) (fun c66 => ?_)
      · have h := x_ift h c66
        refine lv_iconst (v := 0) hx hb dL_kept_272 (by decide) ?_
        refine lv_istore_n (lv' := [(1, .int (0)), (0, .ref (X.2.2 10 32)), (2, .int y2), (3, .int y3), (4, .int y4), (5, .long y5), (7, .int y7), (8, .int y8), (9, .long y9)]) hx hb dL_kept_273 rfl hl (by decide) rfl (fun ls hl => ?_)
        refine lv_iconst (v := 0) hx hb dL_kept_274 (by decide) ?_
        refine lv_istore (lv' := [(11, .int (0)), (1, .int (0)), (0, .ref (X.2.2 10 32)), (2, .int y2), (3, .int y3), (4, .int y4), (5, .long y5), (7, .int y7), (8, .int y8), (9, .long y9)]) hx hb dL_kept_275 hl (by decide) rfl (fun ls hl => ?_)
        exact wL_kept_b277 F Z k116 c116 hk116 17 r62.2 (0 : Int32) y2 y3 y4 y5 y7 y8 (0 : Int32) _ _ _ _ _ ⟨by omega, by omega⟩ h hI (lv_sub hl [2, 1, 3, 4, 5, 6, 7, 8, 0] rfl)
      · have h := x_iff h c66
        refine lv_iconst (v := 1) hx hb dL_kept_268 (by decide) ?_
        refine lv_goto (tgt := 273) hx hb dL_kept_269 (by decide) ?_
        refine lv_istore_n (lv' := [(1, .int (1)), (0, .ref (X.2.2 10 32)), (2, .int y2), (3, .int y3), (4, .int y4), (5, .long y5), (7, .int y7), (8, .int y8), (9, .long y9)]) hx hb dL_kept_273 rfl hl (by decide) rfl (fun ls hl => ?_)
        refine lv_iconst (v := 0) hx hb dL_kept_274 (by decide) ?_
        refine lv_istore (lv' := [(11, .int (0)), (1, .int (1)), (0, .ref (X.2.2 10 32)), (2, .int y2), (3, .int y3), (4, .int y4), (5, .long y5), (7, .int y7), (8, .int y8), (9, .long y9)]) hx hb dL_kept_275 hl (by decide) rfl (fun ls hl => ?_)
        exact wL_kept_b277 F Z k116 c116 hk116 17 r62.2 (1 : Int32) y2 y3 y4 y5 y7 y8 (0 : Int32) _ _ _ _ _ ⟨by omega, by omega⟩ h hI (lv_sub hl [2, 1, 3, 4, 5, 6, 7, 8, 0] rfl)
def fL_kept_j204 (k116 : x_S → Int32 → Int32 → Int32 → Int32 → Int64 → Int32 → Int32 → Option (Int32 × x_S)) (σ : x_S) (y2 : Int32) (y3 : Int32) (y4 : Int32) (y7 : Int32) (y8 : Int32) (y9 : Int64) (z0 : Int64) : Option (Int32 × x_S) := (Option.bind (fL_in y9 (0 : Int64) (3 : Int64)) fun r53 => (if r53 = 0 then fL_kept_b277 k116 17 σ (0 : Int32) y2 y3 y4 z0 y7 y8 (0 : Int32) else (if (lg_cmp y9 (0 : Int64)) = 0 then fL_kept_j236 k116 σ y2 y3 y4 z0 y7 y8 y9 else (Option.bind (fL_ticksOf σ y8) fun r57 => (if (lg_cmp r57.1 (0 : Int64)) ≤ 0 then fL_kept_b277 k116 17 r57.2 (0 : Int32) y2 y3 y4 z0 y7 y8 (0 : Int32) else fL_kept_j236 k116 r57.2 y2 y3 y4 z0 y7 y8 y9)))))
set_option maxHeartbeats 4000000 in
set_option maxRecDepth 100000 in
theorem wL_kept_j204 {p : Program} {l : Launch} {e : Env} {s : State} {m : MethodId} {args : Array Value} {below : List Frame} {meth : Method} {c : Code} {X : x_T} {r : (Int32 × x_S)} (F : x_F p s m args meth c cL_kept 12 RL (some .boolean)) (Z : xm_Z l s X) (k116 : x_S → Int32 → Int32 → Int32 → Int32 → Int64 → Int32 → Int32 → Option (Int32 × x_S)) (c116 : Nat) (hk116 : ∀ (σ : x_S) (y1 : Int32) (y2 : Int32) (y3 : Int32) (y4 : Int32) (y5 : Int64) (y7 : Int32) (y8 : Int32) (H : Heap) (locs : List Loc) (ls : Array Slot) (cells slots : Nat), cells + c116 ≤ 1468 ∧ slots + 6 * c116 ≤ 8808 → k116 σ y1 y2 y3 y4 y5 y7 y8 = some r → x_I X σ s H locs → lv_has ls 12 [(0, .ref (X.2.2 10 32)), (1, .int y1), (2, .int y2), (3, .int y3), (4, .int y4), (5, .long y5), (7, .int y7), (8, .int y8)] → W p l e rm_L_kept s m args below meth c H locs cells slots (MQ below (x_Qi X r.1 r.2 s.heap.size) args s 1468 8808 (x_A X s.heap.size)) (F0 m 116 ls [])) (σ : x_S) (y2 : Int32) (y3 : Int32) (y4 : Int32) (y7 : Int32) (y8 : Int32) (y9 : Int64) (z0 : Int64) (H : Heap) (locs : List Loc) (ls : Array Slot) (cells slots : Nat) (hf : cells + (53 + c116) ≤ 1468 ∧ slots + 6 * (53 + c116) ≤ 8808) (h : fL_kept_j204 k116 σ y2 y3 y4 y7 y8 y9 z0 = some r) (hI : x_I X σ s H locs) (hl : lv_has ls 12 [(0, .ref (X.2.2 10 32)), (2, .int y2), (3, .int y3), (4, .int y4), (7, .int y7), (8, .int y8), (9, .long y9)]) : W p l e rm_L_kept s m args below meth c H locs cells slots (MQ below (x_Qi X r.1 r.2 s.heap.size) args s 1468 8808 (x_A X s.heap.size)) (F0 m 204 ls [.long z0]) := by
  have hx := F.1
  have hb := F.2.1
  have hml := F.2.2.1
  have hown := F.2.2.2.1
  have hts := F.2.2.2.2.1
  obtain ⟨hf1, hf2⟩ := hf
  unfold fL_kept_j204 at h
  refine lv_lstore (lv' := [(5, .long z0), (0, .ref (X.2.2 10 32)), (2, .int y2), (3, .int y3), (4, .int y4), (7, .int y7), (8, .int y8), (9, .long y9)]) hx hb dL_kept_204 hl (by decide) rfl (fun ls hl => ?_)
  refine lv_lload hx hb dL_kept_206 (lv_at hl 7 rfl) ?_
  refine lv_lconst (v := 0) hx hb dL_kept_208 (by decide) ?_
  refine lv_ldc2 (v := 3) hx hb hown (hts _ u_cl_L_222) dL_kept_209 ?_
  obtain ⟨r53, h54, h⟩ := x_bnd h
  refine x_aci hI (x_runS (rest := []) F hI (mL_in l X σ _ y9 (0 : Int64) (3 : Int64) r53 h54) g_L_234 hd_L_in ⟨by decide, by decide⟩ ⟨rfl, rfl⟩ rfl hl.1 rfl (Nat.le_of_ble_eq_true rfl) dL_kept_212 ⟨(by show _ ≤ (1468 : Nat); omega), (by show _ ≤ (8808 : Nat); omega)⟩) (fun H locs hI => ?_)
  refine lv_if_eq (tgt := 272) hx hb dL_kept_215 (by decide) (fun c55 => ?_) (fun c55 => ?_)
  · have h := x_ift h c55
    refine lv_iconst (v := 0) hx hb dL_kept_272 (by decide) ?_
    refine lv_istore_n (lv' := [(1, .int (0)), (5, .long z0), (0, .ref (X.2.2 10 32)), (2, .int y2), (3, .int y3), (4, .int y4), (7, .int y7), (8, .int y8), (9, .long y9)]) hx hb dL_kept_273 rfl hl (by decide) rfl (fun ls hl => ?_)
    refine lv_iconst (v := 0) hx hb dL_kept_274 (by decide) ?_
    refine lv_istore (lv' := [(11, .int (0)), (1, .int (0)), (5, .long z0), (0, .ref (X.2.2 10 32)), (2, .int y2), (3, .int y3), (4, .int y4), (7, .int y7), (8, .int y8), (9, .long y9)]) hx hb dL_kept_275 hl (by decide) rfl (fun ls hl => ?_)
    exact wL_kept_b277 F Z k116 c116 hk116 17 σ (0 : Int32) y2 y3 y4 z0 y7 y8 (0 : Int32) _ _ _ _ _ ⟨by omega, by omega⟩ h hI (lv_sub hl [3, 1, 4, 5, 6, 2, 7, 8, 0] rfl)
  · have h := x_iff h c55
    refine lv_lload hx hb dL_kept_218 (lv_at hl 7 rfl) ?_
    refine lv_lconst (v := 0) hx hb dL_kept_220 (by decide) ?_
    refine W.lcmp hx hb dL_kept_221 ?_
    refine lv_if_eq (tgt := 236) hx hb dL_kept_222 (by decide) (fun c56 => ?_) (fun c56 => ?_)
    · have h := x_ift h c56
      exact wL_kept_j236 F Z k116 c116 hk116 σ y2 y3 y4 z0 y7 y8 y9 _ _ _ _ _ ⟨by omega, by omega⟩ h hI (lv_sub hl [1, 2, 3, 4, 0, 5, 6, 7] rfl)
    · have h := x_iff h c56
      refine lv_aload_n hx hb dL_kept_225 rfl (lv_at hl 1 rfl) ?_
      refine lv_iload hx hb dL_kept_226 (lv_at hl 6 rfl) ?_
      obtain ⟨r57, h58, h⟩ := x_bnd h
      refine xm_acl hI (xw_run (rest := []) F Z.2 hI (mL_ticksOf l Z.1 X _ σ y8 r57 h58) gw_L_196 hd_L_ticksOf ⟨by decide, by decide⟩ ⟨rfl, rfl⟩ rfl hl.1 rfl (Nat.le_of_ble_eq_true rfl) dL_kept_228 ⟨(by show _ ≤ (1468 : Nat); omega), (by show _ ≤ (8808 : Nat); omega)⟩) (fun H locs hI => ?_)
      refine lv_lconst (v := 0) hx hb dL_kept_231 (by decide) ?_
      refine W.lcmp hx hb dL_kept_232 ?_
      refine lv_if_le (tgt := 272) hx hb dL_kept_233 (by decide) (fun c59 => ?_) (fun c59 => ?_)
      · have h := x_ift h c59
        refine lv_iconst (v := 0) hx hb dL_kept_272 (by decide) ?_
        refine lv_istore_n (lv' := [(1, .int (0)), (5, .long z0), (0, .ref (X.2.2 10 32)), (2, .int y2), (3, .int y3), (4, .int y4), (7, .int y7), (8, .int y8), (9, .long y9)]) hx hb dL_kept_273 rfl hl (by decide) rfl (fun ls hl => ?_)
        refine lv_iconst (v := 0) hx hb dL_kept_274 (by decide) ?_
        refine lv_istore (lv' := [(11, .int (0)), (1, .int (0)), (5, .long z0), (0, .ref (X.2.2 10 32)), (2, .int y2), (3, .int y3), (4, .int y4), (7, .int y7), (8, .int y8), (9, .long y9)]) hx hb dL_kept_275 hl (by decide) rfl (fun ls hl => ?_)
        exact wL_kept_b277 F Z k116 c116 hk116 17 r57.2 (0 : Int32) y2 y3 y4 z0 y7 y8 (0 : Int32) _ _ _ _ _ ⟨by omega, by omega⟩ h hI (lv_sub hl [3, 1, 4, 5, 6, 2, 7, 8, 0] rfl)
      · have h := x_iff h c59
        exact wL_kept_j236 F Z k116 c116 hk116 r57.2 y2 y3 y4 z0 y7 y8 y9 _ _ _ _ _ ⟨by omega, by omega⟩ h hI (lv_sub hl [1, 2, 3, 4, 0, 5, 6, 7] rfl)
def fL_kept_j193 (k116 : x_S → Int32 → Int32 → Int32 → Int32 → Int64 → Int32 → Int32 → Option (Int32 × x_S)) (σ : x_S) (y2 : Int32) (y3 : Int32) (y4 : Int32) (y7 : Int32) (y8 : Int32) (y9 : Int64) : Option (Int32 × x_S) := (Option.bind (fL_ticksOf σ y8) fun r51 => fL_kept_j204 k116 r51.2 y2 y3 y4 y7 y8 y9 r51.1)
set_option maxHeartbeats 4000000 in
set_option maxRecDepth 100000 in
theorem wL_kept_j193 {p : Program} {l : Launch} {e : Env} {s : State} {m : MethodId} {args : Array Value} {below : List Frame} {meth : Method} {c : Code} {X : x_T} {r : (Int32 × x_S)} (F : x_F p s m args meth c cL_kept 12 RL (some .boolean)) (Z : xm_Z l s X) (k116 : x_S → Int32 → Int32 → Int32 → Int32 → Int64 → Int32 → Int32 → Option (Int32 × x_S)) (c116 : Nat) (hk116 : ∀ (σ : x_S) (y1 : Int32) (y2 : Int32) (y3 : Int32) (y4 : Int32) (y5 : Int64) (y7 : Int32) (y8 : Int32) (H : Heap) (locs : List Loc) (ls : Array Slot) (cells slots : Nat), cells + c116 ≤ 1468 ∧ slots + 6 * c116 ≤ 8808 → k116 σ y1 y2 y3 y4 y5 y7 y8 = some r → x_I X σ s H locs → lv_has ls 12 [(0, .ref (X.2.2 10 32)), (1, .int y1), (2, .int y2), (3, .int y3), (4, .int y4), (5, .long y5), (7, .int y7), (8, .int y8)] → W p l e rm_L_kept s m args below meth c H locs cells slots (MQ below (x_Qi X r.1 r.2 s.heap.size) args s 1468 8808 (x_A X s.heap.size)) (F0 m 116 ls [])) (σ : x_S) (y2 : Int32) (y3 : Int32) (y4 : Int32) (y7 : Int32) (y8 : Int32) (y9 : Int64) (H : Heap) (locs : List Loc) (ls : Array Slot) (cells slots : Nat) (hf : cells + (54 + c116) ≤ 1468 ∧ slots + 6 * (54 + c116) ≤ 8808) (h : fL_kept_j193 k116 σ y2 y3 y4 y7 y8 y9 = some r) (hI : x_I X σ s H locs) (hl : lv_has ls 12 [(0, .ref (X.2.2 10 32)), (2, .int y2), (3, .int y3), (4, .int y4), (7, .int y7), (8, .int y8), (9, .long y9)]) : W p l e rm_L_kept s m args below meth c H locs cells slots (MQ below (x_Qi X r.1 r.2 s.heap.size) args s 1468 8808 (x_A X s.heap.size)) (F0 m 193 ls []) := by
  have hx := F.1
  have hb := F.2.1
  have hml := F.2.2.1
  have hown := F.2.2.2.1
  have hts := F.2.2.2.2.1
  obtain ⟨hf1, hf2⟩ := hf
  unfold fL_kept_j193 at h
  refine lv_aload_n hx hb dL_kept_193 rfl (lv_at hl 0 rfl) ?_
  refine lv_iload hx hb dL_kept_194 (lv_at hl 5 rfl) ?_
  obtain ⟨r51, h52, h⟩ := x_bnd h
  refine xm_acl hI (xw_run (rest := []) F Z.2 hI (mL_ticksOf l Z.1 X _ σ y8 r51 h52) gw_L_196 hd_L_ticksOf ⟨by decide, by decide⟩ ⟨rfl, rfl⟩ rfl hl.1 rfl (Nat.le_of_ble_eq_true rfl) dL_kept_196 ⟨(by show _ ≤ (1468 : Nat); omega), (by show _ ≤ (8808 : Nat); omega)⟩) (fun H locs hI => ?_)
  refine lv_goto (tgt := 204) hx hb dL_kept_199 (by decide) ?_
  exact wL_kept_j204 F Z k116 c116 hk116 r51.2 y2 y3 y4 y7 y8 y9 r51.1 _ _ _ _ _ ⟨by omega, by omega⟩ h hI (lv_sub hl [0, 1, 2, 3, 4, 5, 6] rfl)
def fL_kept_j202 (k116 : x_S → Int32 → Int32 → Int32 → Int32 → Int64 → Int32 → Int32 → Option (Int32 × x_S)) (σ : x_S) (y2 : Int32) (y3 : Int32) (y4 : Int32) (y5 : Int64) (y7 : Int32) (y8 : Int32) (y9 : Int64) : Option (Int32 × x_S) := fL_kept_j204 k116 σ y2 y3 y4 y7 y8 y9 y5
set_option maxHeartbeats 4000000 in
set_option maxRecDepth 100000 in
theorem wL_kept_j202 {p : Program} {l : Launch} {e : Env} {s : State} {m : MethodId} {args : Array Value} {below : List Frame} {meth : Method} {c : Code} {X : x_T} {r : (Int32 × x_S)} (F : x_F p s m args meth c cL_kept 12 RL (some .boolean)) (Z : xm_Z l s X) (k116 : x_S → Int32 → Int32 → Int32 → Int32 → Int64 → Int32 → Int32 → Option (Int32 × x_S)) (c116 : Nat) (hk116 : ∀ (σ : x_S) (y1 : Int32) (y2 : Int32) (y3 : Int32) (y4 : Int32) (y5 : Int64) (y7 : Int32) (y8 : Int32) (H : Heap) (locs : List Loc) (ls : Array Slot) (cells slots : Nat), cells + c116 ≤ 1468 ∧ slots + 6 * c116 ≤ 8808 → k116 σ y1 y2 y3 y4 y5 y7 y8 = some r → x_I X σ s H locs → lv_has ls 12 [(0, .ref (X.2.2 10 32)), (1, .int y1), (2, .int y2), (3, .int y3), (4, .int y4), (5, .long y5), (7, .int y7), (8, .int y8)] → W p l e rm_L_kept s m args below meth c H locs cells slots (MQ below (x_Qi X r.1 r.2 s.heap.size) args s 1468 8808 (x_A X s.heap.size)) (F0 m 116 ls [])) (σ : x_S) (y2 : Int32) (y3 : Int32) (y4 : Int32) (y5 : Int64) (y7 : Int32) (y8 : Int32) (y9 : Int64) (H : Heap) (locs : List Loc) (ls : Array Slot) (cells slots : Nat) (hf : cells + (53 + c116) ≤ 1468 ∧ slots + 6 * (53 + c116) ≤ 8808) (h : fL_kept_j202 k116 σ y2 y3 y4 y5 y7 y8 y9 = some r) (hI : x_I X σ s H locs) (hl : lv_has ls 12 [(0, .ref (X.2.2 10 32)), (2, .int y2), (3, .int y3), (4, .int y4), (5, .long y5), (7, .int y7), (8, .int y8), (9, .long y9)]) : W p l e rm_L_kept s m args below meth c H locs cells slots (MQ below (x_Qi X r.1 r.2 s.heap.size) args s 1468 8808 (x_A X s.heap.size)) (F0 m 202 ls []) := by
  have hx := F.1
  have hb := F.2.1
  have hml := F.2.2.1
  have hown := F.2.2.2.1
  have hts := F.2.2.2.2.1
  obtain ⟨hf1, hf2⟩ := hf
  unfold fL_kept_j202 at h
  refine lv_lload hx hb dL_kept_202 (lv_at hl 4 rfl) ?_
  exact wL_kept_j204 F Z k116 c116 hk116 σ y2 y3 y4 y7 y8 y9 y5 _ _ _ _ _ ⟨by omega, by omega⟩ h hI (lv_sub hl [0, 1, 2, 3, 5, 6, 7] rfl)
def fL_kept_j165 (k116 : x_S → Int32 → Int32 → Int32 → Int32 → Int64 → Int32 → Int32 → Option (Int32 × x_S)) (σ : x_S) (y2 : Int32) (y4 : Int32) (y5 : Int64) (y7 : Int32) (y8 : Int32) (y9 : Int64) (z0 : Int32) (z1 : Int32) : Option (Int32 × x_S) := x_let (z1 + z0) fun x44 => (if (lg_cmp y9 (0 : Int64)) ≤ 0 then fL_kept_j202 k116 σ y2 x44 y4 y5 y7 y8 y9 else (if (lg_cmp y5 (0 : Int64)) = 0 then fL_kept_j193 k116 σ y2 x44 y4 y7 y8 y9 else (Option.bind (fL_ticksOf σ y8) fun r48 => (if 0 ≤ (lg_cmp r48.1 y5) then fL_kept_j202 k116 r48.2 y2 x44 y4 y5 y7 y8 y9 else fL_kept_j193 k116 r48.2 y2 x44 y4 y7 y8 y9))))
set_option maxHeartbeats 4000000 in
set_option maxRecDepth 100000 in
theorem wL_kept_j165 {p : Program} {l : Launch} {e : Env} {s : State} {m : MethodId} {args : Array Value} {below : List Frame} {meth : Method} {c : Code} {X : x_T} {r : (Int32 × x_S)} (F : x_F p s m args meth c cL_kept 12 RL (some .boolean)) (Z : xm_Z l s X) (k116 : x_S → Int32 → Int32 → Int32 → Int32 → Int64 → Int32 → Int32 → Option (Int32 × x_S)) (c116 : Nat) (hk116 : ∀ (σ : x_S) (y1 : Int32) (y2 : Int32) (y3 : Int32) (y4 : Int32) (y5 : Int64) (y7 : Int32) (y8 : Int32) (H : Heap) (locs : List Loc) (ls : Array Slot) (cells slots : Nat), cells + c116 ≤ 1468 ∧ slots + 6 * c116 ≤ 8808 → k116 σ y1 y2 y3 y4 y5 y7 y8 = some r → x_I X σ s H locs → lv_has ls 12 [(0, .ref (X.2.2 10 32)), (1, .int y1), (2, .int y2), (3, .int y3), (4, .int y4), (5, .long y5), (7, .int y7), (8, .int y8)] → W p l e rm_L_kept s m args below meth c H locs cells slots (MQ below (x_Qi X r.1 r.2 s.heap.size) args s 1468 8808 (x_A X s.heap.size)) (F0 m 116 ls [])) (σ : x_S) (y2 : Int32) (y4 : Int32) (y5 : Int64) (y7 : Int32) (y8 : Int32) (y9 : Int64) (z0 : Int32) (z1 : Int32) (H : Heap) (locs : List Loc) (ls : Array Slot) (cells slots : Nat) (hf : cells + (55 + c116) ≤ 1468 ∧ slots + 6 * (55 + c116) ≤ 8808) (h : fL_kept_j165 k116 σ y2 y4 y5 y7 y8 y9 z0 z1 = some r) (hI : x_I X σ s H locs) (hl : lv_has ls 12 [(0, .ref (X.2.2 10 32)), (2, .int y2), (4, .int y4), (5, .long y5), (7, .int y7), (8, .int y8), (9, .long y9)]) : W p l e rm_L_kept s m args below meth c H locs cells slots (MQ below (x_Qi X r.1 r.2 s.heap.size) args s 1468 8808 (x_A X s.heap.size)) (F0 m 165 ls [.int z0, .int z1]) := by
  have hx := F.1
  have hb := F.2.1
  have hml := F.2.2.1
  have hown := F.2.2.2.1
  have hts := F.2.2.2.2.1
  obtain ⟨hf1, hf2⟩ := hf
  unfold fL_kept_j165 at h
  refine lv_iadd hx hb dL_kept_165 ?_
  refine lv_topi (fun x44 e45 => ?_)
  have h := x_let_at h e45
  refine lv_istore_n (lv' := [(3, .int x44), (0, .ref (X.2.2 10 32)), (2, .int y2), (4, .int y4), (5, .long y5), (7, .int y7), (8, .int y8), (9, .long y9)]) hx hb dL_kept_166 rfl hl (by decide) rfl (fun ls hl => ?_)
  refine lv_lload hx hb dL_kept_167 (lv_at hl 7 rfl) ?_
  refine lv_lconst (v := 0) hx hb dL_kept_169 (by decide) ?_
  refine W.lcmp hx hb dL_kept_170 ?_
  refine lv_if_le (tgt := 202) hx hb dL_kept_171 (by decide) (fun c46 => ?_) (fun c46 => ?_)
  · have h := x_ift h c46
    exact wL_kept_j202 F Z k116 c116 hk116 σ y2 x44 y4 y5 y7 y8 y9 _ _ _ _ _ ⟨by omega, by omega⟩ h hI (lv_sub hl [1, 2, 0, 3, 4, 5, 6, 7] rfl)
  · have h := x_iff h c46
    refine lv_lload hx hb dL_kept_174 (lv_at hl 4 rfl) ?_
    refine lv_lconst (v := 0) hx hb dL_kept_176 (by decide) ?_
    refine W.lcmp hx hb dL_kept_177 ?_
    refine lv_if_eq (tgt := 193) hx hb dL_kept_178 (by decide) (fun c47 => ?_) (fun c47 => ?_)
    · have h := x_ift h c47
      exact wL_kept_j193 F Z k116 c116 hk116 σ y2 x44 y4 y7 y8 y9 _ _ _ _ _ ⟨by omega, by omega⟩ h hI (lv_sub hl [1, 2, 0, 3, 5, 6, 7] rfl)
    · have h := x_iff h c47
      refine lv_aload_n hx hb dL_kept_181 rfl (lv_at hl 1 rfl) ?_
      refine lv_iload hx hb dL_kept_182 (lv_at hl 6 rfl) ?_
      obtain ⟨r48, h49, h⟩ := x_bnd h
      refine xm_acl hI (xw_run (rest := []) F Z.2 hI (mL_ticksOf l Z.1 X _ σ y8 r48 h49) gw_L_196 hd_L_ticksOf ⟨by decide, by decide⟩ ⟨rfl, rfl⟩ rfl hl.1 rfl (Nat.le_of_ble_eq_true rfl) dL_kept_184 ⟨(by show _ ≤ (1468 : Nat); omega), (by show _ ≤ (8808 : Nat); omega)⟩) (fun H locs hI => ?_)
      refine lv_lload hx hb dL_kept_187 (lv_at hl 4 rfl) ?_
      refine W.lcmp hx hb dL_kept_189 ?_
      refine lv_if_ge (tgt := 202) hx hb dL_kept_190 (by decide) (fun c50 => ?_) (fun c50 => ?_)
      · have h := x_ift h c50
        exact wL_kept_j202 F Z k116 c116 hk116 r48.2 y2 x44 y4 y5 y7 y8 y9 _ _ _ _ _ ⟨by omega, by omega⟩ h hI (lv_sub hl [1, 2, 0, 3, 4, 5, 6, 7] rfl)
      · have h := x_iff h c50
        exact wL_kept_j193 F Z k116 c116 hk116 r48.2 y2 x44 y4 y7 y8 y9 _ _ _ _ _ ⟨by omega, by omega⟩ h hI (lv_sub hl [1, 2, 0, 3, 5, 6, 7] rfl)
def fL_kept_j150 (k116 : x_S → Int32 → Int32 → Int32 → Int32 → Int64 → Int32 → Int32 → Option (Int32 × x_S)) (σ : x_S) (y3 : Int32) (y4 : Int32) (y5 : Int64) (y7 : Int32) (y8 : Int32) (y9 : Int64) (z0 : Int32) (z1 : Int32) : Option (Int32 × x_S) := x_let (z1 + z0) fun x41 => (if (lg_cmp y9 (0 : Int64)) = 0 then fL_kept_j165 k116 σ x41 y4 y5 y7 y8 y9 (1 : Int32) y3 else fL_kept_j165 k116 σ x41 y4 y5 y7 y8 y9 (0 : Int32) y3)
set_option maxHeartbeats 4000000 in
set_option maxRecDepth 100000 in
theorem wL_kept_j150 {p : Program} {l : Launch} {e : Env} {s : State} {m : MethodId} {args : Array Value} {below : List Frame} {meth : Method} {c : Code} {X : x_T} {r : (Int32 × x_S)} (F : x_F p s m args meth c cL_kept 12 RL (some .boolean)) (Z : xm_Z l s X) (k116 : x_S → Int32 → Int32 → Int32 → Int32 → Int64 → Int32 → Int32 → Option (Int32 × x_S)) (c116 : Nat) (hk116 : ∀ (σ : x_S) (y1 : Int32) (y2 : Int32) (y3 : Int32) (y4 : Int32) (y5 : Int64) (y7 : Int32) (y8 : Int32) (H : Heap) (locs : List Loc) (ls : Array Slot) (cells slots : Nat), cells + c116 ≤ 1468 ∧ slots + 6 * c116 ≤ 8808 → k116 σ y1 y2 y3 y4 y5 y7 y8 = some r → x_I X σ s H locs → lv_has ls 12 [(0, .ref (X.2.2 10 32)), (1, .int y1), (2, .int y2), (3, .int y3), (4, .int y4), (5, .long y5), (7, .int y7), (8, .int y8)] → W p l e rm_L_kept s m args below meth c H locs cells slots (MQ below (x_Qi X r.1 r.2 s.heap.size) args s 1468 8808 (x_A X s.heap.size)) (F0 m 116 ls [])) (σ : x_S) (y3 : Int32) (y4 : Int32) (y5 : Int64) (y7 : Int32) (y8 : Int32) (y9 : Int64) (z0 : Int32) (z1 : Int32) (H : Heap) (locs : List Loc) (ls : Array Slot) (cells slots : Nat) (hf : cells + (55 + c116) ≤ 1468 ∧ slots + 6 * (55 + c116) ≤ 8808) (h : fL_kept_j150 k116 σ y3 y4 y5 y7 y8 y9 z0 z1 = some r) (hI : x_I X σ s H locs) (hl : lv_has ls 12 [(0, .ref (X.2.2 10 32)), (3, .int y3), (4, .int y4), (5, .long y5), (7, .int y7), (8, .int y8), (9, .long y9)]) : W p l e rm_L_kept s m args below meth c H locs cells slots (MQ below (x_Qi X r.1 r.2 s.heap.size) args s 1468 8808 (x_A X s.heap.size)) (F0 m 150 ls [.int z0, .int z1]) := by
  have hx := F.1
  have hb := F.2.1
  have hml := F.2.2.1
  have hown := F.2.2.2.1
  have hts := F.2.2.2.2.1
  obtain ⟨hf1, hf2⟩ := hf
  unfold fL_kept_j150 at h
  refine lv_iadd hx hb dL_kept_150 ?_
  refine lv_topi (fun x41 e42 => ?_)
  have h := x_let_at h e42
  refine lv_istore_n (lv' := [(2, .int x41), (0, .ref (X.2.2 10 32)), (3, .int y3), (4, .int y4), (5, .long y5), (7, .int y7), (8, .int y8), (9, .long y9)]) hx hb dL_kept_151 rfl hl (by decide) rfl (fun ls hl => ?_)
  refine lv_iload_n hx hb dL_kept_152 rfl (lv_at hl 2 rfl) ?_
  refine lv_lload hx hb dL_kept_153 (lv_at hl 7 rfl) ?_
  refine lv_lconst (v := 0) hx hb dL_kept_155 (by decide) ?_
  refine W.lcmp hx hb dL_kept_156 ?_
  refine lv_if_ne (tgt := 164) hx hb dL_kept_157 (by decide) (fun c43 => ?_) (fun c43 => ?_)
  · have h := x_iff h c43
    refine lv_iconst (v := 0) hx hb dL_kept_164 (by decide) ?_
    exact wL_kept_j165 F Z k116 c116 hk116 σ x41 y4 y5 y7 y8 y9 (0 : Int32) y3 _ _ _ _ _ ⟨by omega, by omega⟩ h hI (lv_sub hl [1, 0, 3, 4, 5, 6, 7] rfl)
  · have h := x_ift h c43
    refine lv_iconst (v := 1) hx hb dL_kept_160 (by decide) ?_
    refine lv_goto (tgt := 165) hx hb dL_kept_161 (by decide) ?_
    exact wL_kept_j165 F Z k116 c116 hk116 σ x41 y4 y5 y7 y8 y9 (1 : Int32) y3 _ _ _ _ _ ⟨by omega, by omega⟩ h hI (lv_sub hl [1, 0, 3, 4, 5, 6, 7] rfl)
def fL_kept_b116 : Nat → x_S → Int32 → Int32 → Int32 → Int32 → Int64 → Int32 → Int32 → Option (Int32 × x_S)
  | 0, _, _, _, _, _, _, _, _ => none
  | n + 1, σ, y1, y2, y3, y4, y5, y7, y8 => (if (16 : Int32) ≤ y8 then fL_kept_b338 13 σ y1 y2 y3 y4 y5 y7 (0 : Int32) else (if y1 = 0 then fL_kept_b338 13 σ y1 y2 y3 y4 y5 y7 (0 : Int32) else (Option.bind (fL_stateOf σ y8) fun r38 => (if (lg_cmp r38.1 (2 : Int64)) = 0 then fL_kept_j150 (fL_kept_b116 n) r38.2 y3 y4 y5 y7 y8 r38.1 (1 : Int32) y2 else fL_kept_j150 (fL_kept_b116 n) r38.2 y3 y4 y5 y7 y8 r38.1 (0 : Int32) y2))))
set_option maxHeartbeats 4000000 in
set_option maxRecDepth 100000 in
theorem wL_kept_b116 {p : Program} {l : Launch} {e : Env} {s : State} {m : MethodId} {args : Array Value} {below : List Frame} {meth : Method} {c : Code} {X : x_T} {r : (Int32 × x_S)} (F : x_F p s m args meth c cL_kept 12 RL (some .boolean)) (Z : xm_Z l s X) : ∀ (n : Nat) (σ : x_S) (y1 : Int32) (y2 : Int32) (y3 : Int32) (y4 : Int32) (y5 : Int64) (y7 : Int32) (y8 : Int32) (H : Heap) (locs : List Loc) (ls : Array Slot) (cells slots : Nat), cells + (56 * n + 514) ≤ 1468 ∧ slots + 6 * (56 * n + 514) ≤ 8808 → fL_kept_b116 n σ y1 y2 y3 y4 y5 y7 y8 = some r → x_I X σ s H locs → lv_has ls 12 [(0, .ref (X.2.2 10 32)), (1, .int y1), (2, .int y2), (3, .int y3), (4, .int y4), (5, .long y5), (7, .int y7), (8, .int y8)] → W p l e rm_L_kept s m args below meth c H locs cells slots (MQ below (x_Qi X r.1 r.2 s.heap.size) args s 1468 8808 (x_A X s.heap.size)) (F0 m 116 ls []) := by
  have hx := F.1
  have hb := F.2.1
  have hml := F.2.2.1
  have hown := F.2.2.2.1
  have hts := F.2.2.2.2.1
  intro n
  induction n with
  | zero =>
    intro σ y1 y2 y3 y4 y5 y7 y8 H locs ls cells slots hf h
    rw [fL_kept_b116] at h
    cases h
  | succ n ih =>
    intro σ y1 y2 y3 y4 y5 y7 y8 H locs ls cells slots hf h hI hl
    obtain ⟨hf1, hf2⟩ := hf
    rw [fL_kept_b116] at h
    refine lv_iload hx hb dL_kept_116 (lv_at hl 7 rfl) ?_
    refine lv_bipush (v := 16) hx hb dL_kept_118 (by decide) ?_
    refine lv_icmp_ge (tgt := 335) hx hb dL_kept_120 (by decide) (fun c36 => ?_) (fun c36 => ?_)
    · have h := x_ift h c36
      refine lv_iconst (v := 0) hx hb dL_kept_335 (by decide) ?_
      refine lv_istore (lv' := [(8, .int (0)), (0, .ref (X.2.2 10 32)), (1, .int y1), (2, .int y2), (3, .int y3), (4, .int y4), (5, .long y5), (7, .int y7)]) hx hb dL_kept_336 hl (by decide) rfl (fun ls hl => ?_)
      exact wL_kept_b338 F Z 13 σ y1 y2 y3 y4 y5 y7 (0 : Int32) _ _ _ _ _ ⟨by omega, by omega⟩ h hI (lv_sub hl [1, 2, 3, 4, 5, 6, 7, 0] rfl)
    · have h := x_iff h c36
      refine lv_iload_n hx hb dL_kept_123 rfl (lv_at hl 1 rfl) ?_
      refine lv_if_eq (tgt := 335) hx hb dL_kept_124 (by decide) (fun c37 => ?_) (fun c37 => ?_)
      · have h := x_ift h c37
        refine lv_iconst (v := 0) hx hb dL_kept_335 (by decide) ?_
        refine lv_istore (lv' := [(8, .int (0)), (0, .ref (X.2.2 10 32)), (1, .int y1), (2, .int y2), (3, .int y3), (4, .int y4), (5, .long y5), (7, .int y7)]) hx hb dL_kept_336 hl (by decide) rfl (fun ls hl => ?_)
        exact wL_kept_b338 F Z 13 σ y1 y2 y3 y4 y5 y7 (0 : Int32) _ _ _ _ _ ⟨by omega, by omega⟩ h hI (lv_sub hl [1, 2, 3, 4, 5, 6, 7, 0] rfl)
      · have h := x_iff h c37
        refine lv_aload_n hx hb dL_kept_127 rfl (lv_at hl 0 rfl) ?_
        refine lv_iload hx hb dL_kept_128 (lv_at hl 7 rfl) ?_
        obtain ⟨r38, h39, h⟩ := x_bnd h
        refine xm_acl hI (xw_run (rest := []) F Z.2 hI (mL_stateOf l Z.1 X _ σ y8 r38 h39) gw_L_192 hd_L_stateOf ⟨by decide, by decide⟩ ⟨rfl, rfl⟩ rfl hl.1 rfl (Nat.le_of_ble_eq_true rfl) dL_kept_130 ⟨(by show _ ≤ (1468 : Nat); omega), (by show _ ≤ (8808 : Nat); omega)⟩) (fun H locs hI => ?_)
        refine lv_lstore (lv' := [(9, .long r38.1), (0, .ref (X.2.2 10 32)), (1, .int y1), (2, .int y2), (3, .int y3), (4, .int y4), (5, .long y5), (7, .int y7), (8, .int y8)]) hx hb dL_kept_133 hl (by decide) rfl (fun ls hl => ?_)
        refine lv_iload_n hx hb dL_kept_135 rfl (lv_at hl 3 rfl) ?_
        refine lv_lload hx hb dL_kept_136 (lv_at hl 0 rfl) ?_
        refine lv_ldc2 (v := 2) hx hb hown (hts _ u_cl_L_224) dL_kept_138 ?_
        refine W.lcmp hx hb dL_kept_141 ?_
        refine lv_if_ne (tgt := 149) hx hb dL_kept_142 (by decide) (fun c40 => ?_) (fun c40 => ?_)
        · have h := x_iff h c40
          refine lv_iconst (v := 0) hx hb dL_kept_149 (by decide) ?_
          exact wL_kept_j150 F Z (fL_kept_b116 n) (56 * n + 514) ih r38.2 y3 y4 y5 y7 y8 r38.1 (0 : Int32) y2 _ _ _ _ _ ⟨by omega, by omega⟩ h hI (lv_sub hl [1, 4, 5, 6, 7, 8, 0] rfl)
        · have h := x_ift h c40
          refine lv_iconst (v := 1) hx hb dL_kept_145 (by decide) ?_
          refine lv_goto (tgt := 150) hx hb dL_kept_146 (by decide) ?_
          exact wL_kept_j150 F Z (fL_kept_b116 n) (56 * n + 514) ih r38.2 y3 y4 y5 y7 y8 r38.1 (1 : Int32) y2 _ _ _ _ _ ⟨by omega, by omega⟩ h hI (lv_sub hl [1, 4, 5, 6, 7, 8, 0] rfl)
def fL_kept_j99 (σ : x_S) (z0 : Int32) : Option (Int32 × x_S) := fL_kept_b116 17 σ z0 (0 : Int32) (0 : Int32) (0 : Int32) (0 : Int64) (0 : Int32) (0 : Int32)
set_option maxHeartbeats 4000000 in
set_option maxRecDepth 100000 in
theorem wL_kept_j99 {p : Program} {l : Launch} {e : Env} {s : State} {m : MethodId} {args : Array Value} {below : List Frame} {meth : Method} {c : Code} {X : x_T} {r : (Int32 × x_S)} (F : x_F p s m args meth c cL_kept 12 RL (some .boolean)) (Z : xm_Z l s X) (σ : x_S) (z0 : Int32) (H : Heap) (locs : List Loc) (ls : Array Slot) (cells slots : Nat) (hf : cells + (1466) ≤ 1468 ∧ slots + 6 * (1466) ≤ 8808) (h : fL_kept_j99 σ z0 = some r) (hI : x_I X σ s H locs) (hl : lv_has ls 12 [(0, .ref (X.2.2 10 32))]) : W p l e rm_L_kept s m args below meth c H locs cells slots (MQ below (x_Qi X r.1 r.2 s.heap.size) args s 1468 8808 (x_A X s.heap.size)) (F0 m 99 ls [.int z0]) := by
  have hx := F.1
  have hb := F.2.1
  have hml := F.2.2.1
  have hown := F.2.2.2.1
  have hts := F.2.2.2.2.1
  obtain ⟨hf1, hf2⟩ := hf
  unfold fL_kept_j99 at h
  refine lv_istore_n (lv' := [(1, .int z0), (0, .ref (X.2.2 10 32))]) hx hb dL_kept_99 rfl hl (by decide) rfl (fun ls hl => ?_)
  refine lv_iconst (v := 0) hx hb dL_kept_100 (by decide) ?_
  refine lv_istore_n (lv' := [(2, .int (0)), (1, .int z0), (0, .ref (X.2.2 10 32))]) hx hb dL_kept_101 rfl hl (by decide) rfl (fun ls hl => ?_)
  refine lv_iconst (v := 0) hx hb dL_kept_102 (by decide) ?_
  refine lv_istore_n (lv' := [(3, .int (0)), (2, .int (0)), (1, .int z0), (0, .ref (X.2.2 10 32))]) hx hb dL_kept_103 rfl hl (by decide) rfl (fun ls hl => ?_)
  refine lv_iconst (v := 0) hx hb dL_kept_104 (by decide) ?_
  refine lv_istore (lv' := [(4, .int (0)), (3, .int (0)), (2, .int (0)), (1, .int z0), (0, .ref (X.2.2 10 32))]) hx hb dL_kept_105 hl (by decide) rfl (fun ls hl => ?_)
  refine lv_lconst (v := 0) hx hb dL_kept_107 (by decide) ?_
  refine lv_lstore (lv' := [(5, .long (0 : Int64)), (4, .int (0)), (3, .int (0)), (2, .int (0)), (1, .int z0), (0, .ref (X.2.2 10 32))]) hx hb dL_kept_108 hl (by decide) rfl (fun ls hl => ?_)
  refine lv_iconst (v := 0) hx hb dL_kept_110 (by decide) ?_
  refine lv_istore (lv' := [(7, .int (0)), (5, .long (0 : Int64)), (4, .int (0)), (3, .int (0)), (2, .int (0)), (1, .int z0), (0, .ref (X.2.2 10 32))]) hx hb dL_kept_111 hl (by decide) rfl (fun ls hl => ?_)
  refine lv_iconst (v := 0) hx hb dL_kept_113 (by decide) ?_
  refine lv_istore (lv' := [(8, .int (0)), (7, .int (0)), (5, .long (0 : Int64)), (4, .int (0)), (3, .int (0)), (2, .int (0)), (1, .int z0), (0, .ref (X.2.2 10 32))]) hx hb dL_kept_114 hl (by decide) rfl (fun ls hl => ?_)
  exact wL_kept_b116 F Z 17 σ z0 (0 : Int32) (0 : Int32) (0 : Int32) (0 : Int64) (0 : Int32) (0 : Int32) _ _ _ _ _ ⟨by omega, by omega⟩ h hI (lv_sub hl [7, 6, 5, 4, 3, 2, 1, 0] rfl)
def fL_kept_j98 (σ : x_S) : Option (Int32 × x_S) := fL_kept_j99 σ (0 : Int32)
set_option maxHeartbeats 4000000 in
set_option maxRecDepth 100000 in
theorem wL_kept_j98 {p : Program} {l : Launch} {e : Env} {s : State} {m : MethodId} {args : Array Value} {below : List Frame} {meth : Method} {c : Code} {X : x_T} {r : (Int32 × x_S)} (F : x_F p s m args meth c cL_kept 12 RL (some .boolean)) (Z : xm_Z l s X) (σ : x_S) (H : Heap) (locs : List Loc) (ls : Array Slot) (cells slots : Nat) (hf : cells + (1466) ≤ 1468 ∧ slots + 6 * (1466) ≤ 8808) (h : fL_kept_j98 σ = some r) (hI : x_I X σ s H locs) (hl : lv_has ls 12 [(0, .ref (X.2.2 10 32))]) : W p l e rm_L_kept s m args below meth c H locs cells slots (MQ below (x_Qi X r.1 r.2 s.heap.size) args s 1468 8808 (x_A X s.heap.size)) (F0 m 98 ls []) := by
  have hx := F.1
  have hb := F.2.1
  have hml := F.2.2.1
  have hown := F.2.2.2.1
  have hts := F.2.2.2.2.1
  obtain ⟨hf1, hf2⟩ := hf
  unfold fL_kept_j98 at h
  refine lv_iconst (v := 0) hx hb dL_kept_98 (by decide) ?_
  exact wL_kept_j99 F Z σ (0 : Int32) _ _ _ _ _ ⟨by omega, by omega⟩ h hI (lv_sub hl [0] rfl)
def fL_kept (σ : x_S) : Option (Int32 × x_S) := (Option.bind (fX6_leasedByRooms σ ) fun r1 => (Option.bind (fX6_leasedByGuests σ ) fun r3 => (if r1 = r3 then (Option.bind (fL_nextByRooms σ ) fun r6 => (Option.bind (fL_nextByTicks r6.2 ) fun r8 => (if (lg_cmp r6.1 r8.1) = 0 then (Option.bind (fX6_messages r8.2 ) fun r11 => (Option.bind (fL_in r11.toInt64 (0 : Int64) (60 : Int64)) fun r13 => (if r13 = 0 then fL_kept_j98 r8.2 else (Option.bind (fX6_savedStates r8.2 ) fun r16 => (Option.bind (fL_in r16.toInt64 (0 : Int64) (6 : Int64)) fun r18 => (if r18 = 0 then fL_kept_j98 r8.2 else (Option.bind (fX6_housed r8.2 ) fun r21 => (Option.bind (fL_in r21.toInt64 (0 : Int64) (12 : Int64)) fun r23 => (if r23 = 0 then fL_kept_j98 r8.2 else (Option.bind (fX6_wouldDeliver r8.2 ) fun r26 => (Option.bind (fX6_messages r26.2 ) fun r28 => (if r26.1 < r28 then fL_kept_j98 r26.2 else (Option.bind (fX6_wouldHouse r26.2 ) fun r31 => (Option.bind (fL_in (r31.1).toInt64 (0 : Int64) (12 : Int64)) fun r33 => (if r33 = 0 then fL_kept_j98 r31.2 else fL_kept_j99 r31.2 (1 : Int32)))))))))))))))) else fL_kept_j98 r8.2))) else fL_kept_j98 σ)))
set_option maxHeartbeats 4000000 in
set_option maxRecDepth 100000 in
theorem mL_kept (l : Launch) (hl0 : l.stackTraces = false) (X : x_T) (sz : Nat) (σ : x_S) (r : (Int32 × x_S)) (h : fL_kept σ  = some r) : Met l yL_kept (x_ws yL_kept cL_kept 12 (some .boolean)) rm_L_kept (x_PcT X σ sz [.ref (X.2.2 10 32)]) (x_Qi X r.1 r.2 sz) 1468 8808 (x_A X sz) := by
  refine Met.ofW (cc := cL_kept) (maxL := 12) (ret := (some .boolean)) (by decide) rfl ?_
  intro p e s m args below meth c s₁ B hml hv
  obtain ⟨F, Z, hI, rfl, rfl⟩ := xm_begin hl0 B hml hv
  replace F : x_F p s m _ meth c cL_kept 12 RL (some .boolean) := F
  have hx := F.1
  have hb := F.2.1
  have hml := F.2.2.1
  have hown := F.2.2.2.1
  have hts := F.2.2.2.2.1
  refine x_entry (vs := [.ref (X.2.2 10 32)]) (n := 12) (Nat.le_of_ble_eq_true rfl) (fun ls hl => ?_)
  replace hl : lv_has ls 12 [(0, .ref (X.2.2 10 32))] := hl
  unfold fL_kept at h
  refine lv_aload_n hx hb dL_kept_0 rfl (lv_at hl 0 rfl) ?_
  obtain ⟨r1, h2, h⟩ := x_bnd h
  refine x_aci hI (x_runV (rest := []) F hI (mX6_leasedByRooms l X _ σ  r1 h2) g_L_226 ⟨rfl, hd_X6_leasedByRooms⟩ ⟨by decide, by decide⟩ ⟨rfl, rfl⟩ (x_inO (by decide)) rfl rfl rfl rfl hl.1 rfl (Nat.le_of_ble_eq_true rfl) dL_kept_1 ⟨(by show _ ≤ (1468 : Nat); omega), (by show _ ≤ (8808 : Nat); omega)⟩) (fun H locs hI => ?_)
  refine lv_aload_n hx hb dL_kept_4 rfl (lv_at hl 0 rfl) ?_
  obtain ⟨r3, h4, h⟩ := x_bnd h
  refine x_aci hI (x_runV (rest := [.int r1]) F hI (mX6_leasedByGuests l X _ σ  r3 h4) g_L_229 ⟨rfl, hd_X6_leasedByGuests⟩ ⟨by decide, by decide⟩ ⟨rfl, rfl⟩ (x_inO (by decide)) rfl rfl rfl rfl hl.1 rfl (Nat.le_of_ble_eq_true rfl) dL_kept_5 ⟨(by show _ ≤ (1468 : Nat); omega), (by show _ ≤ (8808 : Nat); omega)⟩) (fun H locs hI => ?_)
  refine lv_icmp_ne (tgt := 98) hx hb dL_kept_8 (by decide) (fun c5 => ?_) (fun c5 => ?_)
  · have h := x_iff h c5
    exact wL_kept_j98 F Z σ _ _ _ _ _ ⟨by omega, by omega⟩ h hI (lv_sub hl [0] rfl)
  · have h := x_ift h c5
    refine lv_aload_n hx hb dL_kept_11 rfl (lv_at hl 0 rfl) ?_
    obtain ⟨r6, h7, h⟩ := x_bnd h
    refine xm_acl hI (xw_run (rest := []) F Z.2 hI (mL_nextByRooms l Z.1 X _ σ  r6 h7) gw_L_215 hd_L_nextByRooms ⟨by decide, by decide⟩ ⟨rfl, rfl⟩ rfl hl.1 rfl (Nat.le_of_ble_eq_true rfl) dL_kept_12 ⟨(by show _ ≤ (1468 : Nat); omega), (by show _ ≤ (8808 : Nat); omega)⟩) (fun H locs hI => ?_)
    refine lv_aload_n hx hb dL_kept_15 rfl (lv_at hl 0 rfl) ?_
    obtain ⟨r8, h9, h⟩ := x_bnd h
    refine xm_acl hI (xw_run (rest := [.long r6.1]) F Z.2 hI (mL_nextByTicks l Z.1 X _ r6.2  r8 h9) gw_L_219 hd_L_nextByTicks ⟨by decide, by decide⟩ ⟨rfl, rfl⟩ rfl hl.1 rfl (Nat.le_of_ble_eq_true rfl) dL_kept_16 ⟨(by show _ ≤ (1468 : Nat); omega), (by show _ ≤ (8808 : Nat); omega)⟩) (fun H locs hI => ?_)
    refine W.lcmp hx hb dL_kept_19 ?_
    refine lv_if_ne (tgt := 98) hx hb dL_kept_20 (by decide) (fun c10 => ?_) (fun c10 => ?_)
    · have h := x_iff h c10
      exact wL_kept_j98 F Z r8.2 _ _ _ _ _ ⟨by omega, by omega⟩ h hI (lv_sub hl [0] rfl)
    · have h := x_ift h c10
      refine lv_aload_n hx hb dL_kept_23 rfl (lv_at hl 0 rfl) ?_
      obtain ⟨r11, h12, h⟩ := x_bnd h
      refine x_aci hI (x_runV (rest := []) F hI (mX6_messages l X _ r8.2  r11 h12) g_L_140 ⟨rfl, hd_X6_messages⟩ ⟨by decide, by decide⟩ ⟨rfl, rfl⟩ (x_inO (by decide)) rfl rfl rfl rfl hl.1 rfl (Nat.le_of_ble_eq_true rfl) dL_kept_24 ⟨(by show _ ≤ (1468 : Nat); omega), (by show _ ≤ (8808 : Nat); omega)⟩) (fun H locs hI => ?_)
      refine lv_i2l hx hb dL_kept_27 rfl ?_
      refine lv_lconst (v := 0) hx hb dL_kept_28 (by decide) ?_
      refine lv_ldc2 (v := 60) hx hb hown (hts _ u_cl_L_232) dL_kept_29 ?_
      obtain ⟨r13, h14, h⟩ := x_bnd h
      refine x_aci hI (x_runS (rest := []) F hI (mL_in l X r8.2 _ r11.toInt64 (0 : Int64) (60 : Int64) r13 h14) g_L_234 hd_L_in ⟨by decide, by decide⟩ ⟨rfl, rfl⟩ rfl hl.1 rfl (Nat.le_of_ble_eq_true rfl) dL_kept_32 ⟨(by show _ ≤ (1468 : Nat); omega), (by show _ ≤ (8808 : Nat); omega)⟩) (fun H locs hI => ?_)
      refine lv_if_eq (tgt := 98) hx hb dL_kept_35 (by decide) (fun c15 => ?_) (fun c15 => ?_)
      · have h := x_ift h c15
        exact wL_kept_j98 F Z r8.2 _ _ _ _ _ ⟨by omega, by omega⟩ h hI (lv_sub hl [0] rfl)
      · have h := x_iff h c15
        refine lv_aload_n hx hb dL_kept_38 rfl (lv_at hl 0 rfl) ?_
        obtain ⟨r16, h17, h⟩ := x_bnd h
        refine x_aci hI (x_runV (rest := []) F hI (mX6_savedStates l X _ r8.2  r16 h17) g_L_238 ⟨rfl, hd_X6_savedStates⟩ ⟨by decide, by decide⟩ ⟨rfl, rfl⟩ (x_inO (by decide)) rfl rfl rfl rfl hl.1 rfl (Nat.le_of_ble_eq_true rfl) dL_kept_39 ⟨(by show _ ≤ (1468 : Nat); omega), (by show _ ≤ (8808 : Nat); omega)⟩) (fun H locs hI => ?_)
        refine lv_i2l hx hb dL_kept_42 rfl ?_
        refine lv_lconst (v := 0) hx hb dL_kept_43 (by decide) ?_
        refine lv_ldc2 (v := 6) hx hb hown (hts _ u_cl_L_241) dL_kept_44 ?_
        obtain ⟨r18, h19, h⟩ := x_bnd h
        refine x_aci hI (x_runS (rest := []) F hI (mL_in l X r8.2 _ r16.toInt64 (0 : Int64) (6 : Int64) r18 h19) g_L_234 hd_L_in ⟨by decide, by decide⟩ ⟨rfl, rfl⟩ rfl hl.1 rfl (Nat.le_of_ble_eq_true rfl) dL_kept_47 ⟨(by show _ ≤ (1468 : Nat); omega), (by show _ ≤ (8808 : Nat); omega)⟩) (fun H locs hI => ?_)
        refine lv_if_eq (tgt := 98) hx hb dL_kept_50 (by decide) (fun c20 => ?_) (fun c20 => ?_)
        · have h := x_ift h c20
          exact wL_kept_j98 F Z r8.2 _ _ _ _ _ ⟨by omega, by omega⟩ h hI (lv_sub hl [0] rfl)
        · have h := x_iff h c20
          refine lv_aload_n hx hb dL_kept_53 rfl (lv_at hl 0 rfl) ?_
          obtain ⟨r21, h22, h⟩ := x_bnd h
          refine x_aci hI (x_runV (rest := []) F hI (mX6_housed l X _ r8.2  r21 h22) g_L_243 ⟨rfl, hd_X6_housed⟩ ⟨by decide, by decide⟩ ⟨rfl, rfl⟩ (x_inO (by decide)) rfl rfl rfl rfl hl.1 rfl (Nat.le_of_ble_eq_true rfl) dL_kept_54 ⟨(by show _ ≤ (1468 : Nat); omega), (by show _ ≤ (8808 : Nat); omega)⟩) (fun H locs hI => ?_)
          refine lv_i2l hx hb dL_kept_57 rfl ?_
          refine lv_lconst (v := 0) hx hb dL_kept_58 (by decide) ?_
          refine lv_ldc2 (v := 12) hx hb hown (hts _ u_cl_L_246) dL_kept_59 ?_
          obtain ⟨r23, h24, h⟩ := x_bnd h
          refine x_aci hI (x_runS (rest := []) F hI (mL_in l X r8.2 _ r21.toInt64 (0 : Int64) (12 : Int64) r23 h24) g_L_234 hd_L_in ⟨by decide, by decide⟩ ⟨rfl, rfl⟩ rfl hl.1 rfl (Nat.le_of_ble_eq_true rfl) dL_kept_62 ⟨(by show _ ≤ (1468 : Nat); omega), (by show _ ≤ (8808 : Nat); omega)⟩) (fun H locs hI => ?_)
          refine lv_if_eq (tgt := 98) hx hb dL_kept_65 (by decide) (fun c25 => ?_) (fun c25 => ?_)
          · have h := x_ift h c25
            exact wL_kept_j98 F Z r8.2 _ _ _ _ _ ⟨by omega, by omega⟩ h hI (lv_sub hl [0] rfl)
          · have h := x_iff h c25
            refine lv_aload_n hx hb dL_kept_68 rfl (lv_at hl 0 rfl) ?_
            obtain ⟨r26, h27, h⟩ := x_bnd h
            refine x_aci hI (x_runV (rest := []) F hI (mX6_wouldDeliver l X _ r8.2  r26 h27) g_L_248 ⟨rfl, hd_X6_wouldDeliver⟩ ⟨by decide, by decide⟩ ⟨rfl, rfl⟩ (x_inO (by decide)) rfl rfl rfl rfl hl.1 rfl (Nat.le_of_ble_eq_true rfl) dL_kept_69 ⟨(by show _ ≤ (1468 : Nat); omega), (by show _ ≤ (8808 : Nat); omega)⟩) (fun H locs hI => ?_)
            refine lv_aload_n hx hb dL_kept_72 rfl (lv_at hl 0 rfl) ?_
            obtain ⟨r28, h29, h⟩ := x_bnd h
            refine x_aci hI (x_runV (rest := [.int r26.1]) F hI (mX6_messages l X _ r26.2  r28 h29) g_L_140 ⟨rfl, hd_X6_messages⟩ ⟨by decide, by decide⟩ ⟨rfl, rfl⟩ (x_inO (by decide)) rfl rfl rfl rfl hl.1 rfl (Nat.le_of_ble_eq_true rfl) dL_kept_73 ⟨(by show _ ≤ (1468 : Nat); omega), (by show _ ≤ (8808 : Nat); omega)⟩) (fun H locs hI => ?_)
            refine lv_icmp_lt (tgt := 98) hx hb dL_kept_76 (by decide) (fun c30 => ?_) (fun c30 => ?_)
            · have h := x_ift h c30
              exact wL_kept_j98 F Z r26.2 _ _ _ _ _ ⟨by omega, by omega⟩ h hI (lv_sub hl [0] rfl)
            · have h := x_iff h c30
              refine lv_aload_n hx hb dL_kept_79 rfl (lv_at hl 0 rfl) ?_
              obtain ⟨r31, h32, h⟩ := x_bnd h
              refine x_aci hI (x_runV (rest := []) F hI (mX6_wouldHouse l X _ r26.2  r31 h32) g_L_251 ⟨rfl, hd_X6_wouldHouse⟩ ⟨by decide, by decide⟩ ⟨rfl, rfl⟩ (x_inO (by decide)) rfl rfl rfl rfl hl.1 rfl (Nat.le_of_ble_eq_true rfl) dL_kept_80 ⟨(by show _ ≤ (1468 : Nat); omega), (by show _ ≤ (8808 : Nat); omega)⟩) (fun H locs hI => ?_)
              refine lv_i2l hx hb dL_kept_83 rfl ?_
              refine lv_lconst (v := 0) hx hb dL_kept_84 (by decide) ?_
              refine lv_ldc2 (v := 12) hx hb hown (hts _ u_cl_L_246) dL_kept_85 ?_
              obtain ⟨r33, h34, h⟩ := x_bnd h
              refine x_aci hI (x_runS (rest := []) F hI (mL_in l X r31.2 _ (r31.1).toInt64 (0 : Int64) (12 : Int64) r33 h34) g_L_234 hd_L_in ⟨by decide, by decide⟩ ⟨rfl, rfl⟩ rfl hl.1 rfl (Nat.le_of_ble_eq_true rfl) dL_kept_88 ⟨(by show _ ≤ (1468 : Nat); omega), (by show _ ≤ (8808 : Nat); omega)⟩) (fun H locs hI => ?_)
              refine lv_if_eq (tgt := 98) hx hb dL_kept_91 (by decide) (fun c35 => ?_) (fun c35 => ?_)
              · have h := x_ift h c35
                exact wL_kept_j98 F Z r31.2 _ _ _ _ _ ⟨by omega, by omega⟩ h hI (lv_sub hl [0] rfl)
              · have h := x_iff h c35
                refine lv_iconst (v := 1) hx hb dL_kept_94 (by decide) ?_
                refine lv_goto (tgt := 99) hx hb dL_kept_95 (by decide) ?_
                exact wL_kept_j99 F Z r31.2 (1 : Int32) _ _ _ _ _ ⟨by omega, by omega⟩ h hI (lv_sub hl [0] rfl)
