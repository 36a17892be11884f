abbrev rm_L_act : Room := { frames := 11, cells := 25, slots := 150, locals := 209 }
def fL_act_j42 (σ : x_S) (y1 : Int32) (y2 : Int32) (y3 : Int32) (y4 : Int32) (z0 : Int32) : Option (Int64 × x_S) := (if (y1 - y1 / (24 : Int32) * (24 : Int32)) = 0 then (Option.bind (fL_seek σ y3) fun r11 => some (r11.1, r11.2)) else (if (y1 - y1 / (24 : Int32) * (24 : Int32)) = 1 then (Option.bind (fL_seek σ y3) fun r14 => some (r14.1, r14.2)) else (if (y1 - y1 / (24 : Int32) * (24 : Int32)) = 2 then (Option.bind (fL_seek σ y3) fun r17 => some (r17.1, r17.2)) else (if (y1 - y1 / (24 : Int32) * (24 : Int32)) = 3 then (Option.bind (fL_seek σ y3) fun r20 => some (r20.1, r20.2)) else (if (y1 - y1 / (24 : Int32) * (24 : Int32)) = 4 then (if (y4 - y4 / (2 : Int32) * (2 : Int32)) = 0 then (Option.bind (fL_leave σ y3) fun r24 => some (r24.1, r24.2)) else (Option.bind (fL_giveUp σ y3) fun r26 => some (r26.1, r26.2))) else (if (y1 - y1 / (24 : Int32) * (24 : Int32)) = 5 then (Option.bind (fL_renew σ y3) fun r29 => some (r29.1, r29.2)) else (if (y1 - y1 / (24 : Int32) * (24 : Int32)) = 6 then (if (y4 - y4 / (3 : Int32) * (3 : Int32)) = 0 then (Option.bind (fL_unreserve σ y3) fun r33 => some (r33.1, r33.2)) else (Option.bind (fL_reserve σ y3 (y4 - y4 / (16 : Int32) * (16 : Int32))) fun r35 => some (r35.1, r35.2))) else (if (y1 - y1 / (24 : Int32) * (24 : Int32)) = 7 then (Option.bind (fL_turnGhost σ (y4 - y4 / (16 : Int32) * (16 : Int32))) fun r38 => some (r38.1, r38.2)) else (if (y1 - y1 / (24 : Int32) * (24 : Int32)) = 8 then (if (y4 - y4 / (3 : Int32) * (3 : Int32)) = 0 then (Option.bind (fL_changeLease σ ((8 : Int32) + ((y4 / (3 : Int32)) - (y4 / (3 : Int32)) / (60 : Int32) * (60 : Int32)))) fun r42 => some (r42.1, r42.2)) else (if (y4 - y4 / (3 : Int32) * (3 : Int32)) = (1 : Int32) then (Option.bind (fL_changeHold σ ((1 : Int32) + ((y4 / (3 : Int32)) - (y4 / (3 : Int32)) / (20 : Int32) * (20 : Int32)))) fun r45 => some (r45.1, r45.2)) else (Option.bind (fL_changeShut σ ((1 : Int32) + ((y4 / (3 : Int32)) - (y4 / (3 : Int32)) / (60 : Int32) * (60 : Int32)))) fun r47 => some (r47.1, r47.2)))) else (if (y1 - y1 / (24 : Int32) * (24 : Int32)) = 9 then (Option.bind (fL_deliver σ z0) fun r50 => some (r50.1, r50.2)) else (if (y1 - y1 / (24 : Int32) * (24 : Int32)) = 10 then (Option.bind (fL_deliver σ z0) fun r53 => some (r53.1, r53.2)) else (if (y1 - y1 / (24 : Int32) * (24 : Int32)) = 11 then (Option.bind (fL_deliver σ z0) fun r56 => some (r56.1, r56.2)) else (if (y1 - y1 / (24 : Int32) * (24 : Int32)) = 12 then (Option.bind (fL_deliver σ z0) fun r59 => some (r59.1, r59.2)) else (if (y1 - y1 / (24 : Int32) * (24 : Int32)) = 13 then (Option.bind (fL_deliver σ z0) fun r62 => some (r62.1, r62.2)) else (if (y1 - y1 / (24 : Int32) * (24 : Int32)) = 14 then (Option.bind (fL_lose σ z0) fun r65 => some (r65.1, r65.2)) else (if (y1 - y1 / (24 : Int32) * (24 : Int32)) = 15 then (Option.bind (fX6_deliverAll σ ) fun r68 => some ((r68.1).toInt64, r68.2)) else (if (y1 - y1 / (24 : Int32) * (24 : Int32)) = 16 then (Option.bind (fX6_deliverAll σ ) fun r71 => some ((r71.1).toInt64, r71.2)) else (if (y1 - y1 / (24 : Int32) * (24 : Int32)) = 17 then (if (y2 - y2 / (4 : Int32) * (4 : Int32)) = 0 then (Option.bind (fL_tick σ ((1 : Int32) + (y4 - y4 / (60 : Int32) * (60 : Int32)))) fun r75 => some (r75.1, r75.2)) else (Option.bind (fL_tick σ ((1 : Int32) + (y4 - y4 / (9 : Int32) * (9 : Int32)))) fun r77 => some (r77.1, r77.2))) else (if (y1 - y1 / (24 : Int32) * (24 : Int32)) = 18 then (if (y2 - y2 / (4 : Int32) * (4 : Int32)) = 0 then (Option.bind (fL_tick σ ((1 : Int32) + (y4 - y4 / (60 : Int32) * (60 : Int32)))) fun r81 => some (r81.1, r81.2)) else (Option.bind (fL_tick σ ((1 : Int32) + (y4 - y4 / (9 : Int32) * (9 : Int32)))) fun r83 => some (r83.1, r83.2))) else (if (y1 - y1 / (24 : Int32) * (24 : Int32)) = 19 then (Option.bind (fL_told σ y4) fun r86 => some (r86.1, r86.2)) else (if (y1 - y1 / (24 : Int32) * (24 : Int32)) = 20 then (Option.bind (fL_undo σ ) fun r89 => some (r89.1, r89.2)) else (if (y1 - y1 / (24 : Int32) * (24 : Int32)) = 21 then (Option.bind (fL_undo σ ) fun r92 => some (r92.1, r92.2)) else (if (y1 - y1 / (24 : Int32) * (24 : Int32)) = 22 then (if (y4 - y4 / (2 : Int32) * (2 : Int32)) = 0 then (Option.bind (fL_keep σ ((y4 / (2 : Int32)) &&& (1 : Int32))) fun r96 => some (r96.1, r96.2)) else (Option.bind (fL_goBack σ ((y4 / (2 : Int32)) &&& (1 : Int32))) fun r98 => some (r98.1, r98.2))) else (Option.bind (fL_seek σ (y2 - y2 / (5 : Int32) * (5 : Int32))) fun r100 => some (r100.1, r100.2)))))))))))))))))))))))))
set_option maxHeartbeats 4000000 in
set_option maxRecDepth 100000 in
theorem wL_act_j42 {p : Program} {l : Launch} {e : Env} {s : State} {m : MethodId} {args : Array Value} {below : List Frame} {meth : Method} {c : Code} {X : x_T} {r : (Int64 × x_S)} (F : x_F p s m args meth c cL_act 7 RL (some .long)) (Z : xm_Z l s X) (σ : x_S) (y1 : Int32) (y2 : Int32) (y3 : Int32) (y4 : Int32) (z0 : Int32) (H : Heap) (locs : List Loc) (ls : Array Slot) (cells slots : Nat) (hf : cells + (25) ≤ 25 ∧ slots + 6 * (25) ≤ 150) (h : fL_act_j42 σ y1 y2 y3 y4 z0 = some r) (hI : x_I X σ s H locs) (hl : lv_has ls 7 [(0, .ref (X.2.2 10 32)), (1, .int y1), (2, .int y2), (3, .int y3), (4, .int y4)]) : W p l e rm_L_act s m args below meth c H locs cells slots (MQ below (x_Ql X r.1 r.2 s.heap.size) args s 25 150 (x_A X s.heap.size)) (F0 m 42 ls [.int z0]) := by
  have hx := F.1
  have hb := F.2.1
  have hml := F.2.2.1
  have hown := F.2.2.2.1
  have hts := F.2.2.2.2.1
  obtain ⟨hf1, hf2⟩ := hf
  unfold fL_act_j42 at h
  refine lv_istore (lv' := [(6, .int z0), (0, .ref (X.2.2 10 32)), (1, .int y1), (2, .int y2), (3, .int y3), (4, .int y4)]) hx hb dL_act_42 hl (by decide) rfl (fun ls hl => ?_)
  refine lv_iload_n hx hb dL_act_44 rfl (lv_at hl 2 rfl) ?_
  refine lv_bipush (v := 24) hx hb dL_act_45 (by decide) ?_
  refine lv_irem hx hb dL_act_47 (by decide) ?_
  by_cases c10 : (y1 - y1 / (24 : Int32) * (24 : Int32)) = 0
  · have h := x_ift h c10
    refine lv_tableIn (tgt := 156) (off := 108) hx hb dL_act_48 (by rw [c10]; decide) (by rw [c10]; decide) (by rw [c10]; rfl) (by decide) ?_
    refine lv_aload_n hx hb dL_act_156 rfl (lv_at hl 1 rfl) ?_
    refine lv_iload_n hx hb dL_act_157 rfl (lv_at hl 4 rfl) ?_
    obtain ⟨r11, h12, h⟩ := x_bnd h
    refine xm_acl hI (xw_run (rest := []) F Z.2 hI (mL_seek l Z.1 X _ σ y3 r11 h12) gw_L_143 hd_L_seek ⟨by decide, by decide⟩ ⟨rfl, rfl⟩ rfl hl.1 rfl (Nat.le_of_ble_eq_true rfl) dL_act_158 ⟨(by show _ ≤ (25 : Nat); omega), (by show _ ≤ (150 : Nat); omega)⟩) (fun H locs hI => ?_)
    rw [x_some h]
    exact W.widen (by omega) (by omega) (x_lret F hI dL_act_161)
  · have h := x_iff h c10
    by_cases c13 : (y1 - y1 / (24 : Int32) * (24 : Int32)) = 1
    · have h := x_ift h c13
      refine lv_tableIn (tgt := 156) (off := 108) hx hb dL_act_48 (by rw [c13]; decide) (by rw [c13]; decide) (by rw [c13]; rfl) (by decide) ?_
      refine lv_aload_n hx hb dL_act_156 rfl (lv_at hl 1 rfl) ?_
      refine lv_iload_n hx hb dL_act_157 rfl (lv_at hl 4 rfl) ?_
      obtain ⟨r14, h15, h⟩ := x_bnd h
      refine xm_acl hI (xw_run (rest := []) F Z.2 hI (mL_seek l Z.1 X _ σ y3 r14 h15) gw_L_143 hd_L_seek ⟨by decide, by decide⟩ ⟨rfl, rfl⟩ rfl hl.1 rfl (Nat.le_of_ble_eq_true rfl) dL_act_158 ⟨(by show _ ≤ (25 : Nat); omega), (by show _ ≤ (150 : Nat); omega)⟩) (fun H locs hI => ?_)
      rw [x_some h]
      exact W.widen (by omega) (by omega) (x_lret F hI dL_act_161)
    · have h := x_iff h c13
      by_cases c16 : (y1 - y1 / (24 : Int32) * (24 : Int32)) = 2
      · have h := x_ift h c16
        refine lv_tableIn (tgt := 156) (off := 108) hx hb dL_act_48 (by rw [c16]; decide) (by rw [c16]; decide) (by rw [c16]; rfl) (by decide) ?_
        refine lv_aload_n hx hb dL_act_156 rfl (lv_at hl 1 rfl) ?_
        refine lv_iload_n hx hb dL_act_157 rfl (lv_at hl 4 rfl) ?_
        obtain ⟨r17, h18, h⟩ := x_bnd h
        refine xm_acl hI (xw_run (rest := []) F Z.2 hI (mL_seek l Z.1 X _ σ y3 r17 h18) gw_L_143 hd_L_seek ⟨by decide, by decide⟩ ⟨rfl, rfl⟩ rfl hl.1 rfl (Nat.le_of_ble_eq_true rfl) dL_act_158 ⟨(by show _ ≤ (25 : Nat); omega), (by show _ ≤ (150 : Nat); omega)⟩) (fun H locs hI => ?_)
        rw [x_some h]
        exact W.widen (by omega) (by omega) (x_lret F hI dL_act_161)
      · have h := x_iff h c16
        by_cases c19 : (y1 - y1 / (24 : Int32) * (24 : Int32)) = 3
        · have h := x_ift h c19
          refine lv_tableIn (tgt := 156) (off := 108) hx hb dL_act_48 (by rw [c19]; decide) (by rw [c19]; decide) (by rw [c19]; rfl) (by decide) ?_
          refine lv_aload_n hx hb dL_act_156 rfl (lv_at hl 1 rfl) ?_
          refine lv_iload_n hx hb dL_act_157 rfl (lv_at hl 4 rfl) ?_
          obtain ⟨r20, h21, h⟩ := x_bnd h
          refine xm_acl hI (xw_run (rest := []) F Z.2 hI (mL_seek l Z.1 X _ σ y3 r20 h21) gw_L_143 hd_L_seek ⟨by decide, by decide⟩ ⟨rfl, rfl⟩ rfl hl.1 rfl (Nat.le_of_ble_eq_true rfl) dL_act_158 ⟨(by show _ ≤ (25 : Nat); omega), (by show _ ≤ (150 : Nat); omega)⟩) (fun H locs hI => ?_)
          rw [x_some h]
          exact W.widen (by omega) (by omega) (x_lret F hI dL_act_161)
        · have h := x_iff h c19
          by_cases c22 : (y1 - y1 / (24 : Int32) * (24 : Int32)) = 4
          · have h := x_ift h c22
            refine lv_tableIn (tgt := 162) (off := 114) hx hb dL_act_48 (by rw [c22]; decide) (by rw [c22]; decide) (by rw [c22]; rfl) (by decide) ?_
            refine lv_iload hx hb dL_act_162 (lv_at hl 5 rfl) ?_
            refine lv_iconst (v := 2) hx hb dL_act_164 (by decide) ?_
            refine lv_irem hx hb dL_act_165 (by decide) ?_
            refine lv_if_ne (tgt := 177) hx hb dL_act_166 (by decide) (fun c23 => ?_) (fun c23 => ?_)
            · have h := x_iff h c23
              refine lv_aload_n hx hb dL_act_177 rfl (lv_at hl 1 rfl) ?_
              refine lv_iload_n hx hb dL_act_178 rfl (lv_at hl 4 rfl) ?_
              obtain ⟨r26, h27, h⟩ := x_bnd h
              refine xm_acl hI (xw_run (rest := []) F Z.2 hI (mL_giveUp l Z.1 X _ σ y3 r26 h27) gw_L_150 hd_L_giveUp ⟨by decide, by decide⟩ ⟨rfl, rfl⟩ rfl hl.1 rfl (Nat.le_of_ble_eq_true rfl) dL_act_179 ⟨(by show _ ≤ (25 : Nat); omega), (by show _ ≤ (150 : Nat); omega)⟩) (fun H locs hI => ?_)
              rw [x_some h]
              exact W.widen (by omega) (by omega) (x_lret F hI dL_act_182)
            · have h := x_ift h c23
              refine lv_aload_n hx hb dL_act_169 rfl (lv_at hl 1 rfl) ?_
              refine lv_iload_n hx hb dL_act_170 rfl (lv_at hl 4 rfl) ?_
              obtain ⟨r24, h25, h⟩ := x_bnd h
              refine xm_acl hI (xw_run (rest := []) F Z.2 hI (mL_leave l Z.1 X _ σ y3 r24 h25) gw_L_148 hd_L_leave ⟨by decide, by decide⟩ ⟨rfl, rfl⟩ rfl hl.1 rfl (Nat.le_of_ble_eq_true rfl) dL_act_171 ⟨(by show _ ≤ (25 : Nat); omega), (by show _ ≤ (150 : Nat); omega)⟩) (fun H locs hI => ?_)
              refine lv_goto (tgt := 182) hx hb dL_act_174 (by decide) ?_
              rw [x_some h]
              exact W.widen (by omega) (by omega) (x_lret F hI dL_act_182)
          · have h := x_iff h c22
            by_cases c28 : (y1 - y1 / (24 : Int32) * (24 : Int32)) = 5
            · have h := x_ift h c28
              refine lv_tableIn (tgt := 183) (off := 135) hx hb dL_act_48 (by rw [c28]; decide) (by rw [c28]; decide) (by rw [c28]; rfl) (by decide) ?_
              refine lv_aload_n hx hb dL_act_183 rfl (lv_at hl 1 rfl) ?_
              refine lv_iload_n hx hb dL_act_184 rfl (lv_at hl 4 rfl) ?_
              obtain ⟨r29, h30, h⟩ := x_bnd h
              refine xm_acl hI (xw_run (rest := []) F Z.2 hI (mL_renew l Z.1 X _ σ y3 r29 h30) gw_L_152 hd_L_renew ⟨by decide, by decide⟩ ⟨rfl, rfl⟩ rfl hl.1 rfl (Nat.le_of_ble_eq_true rfl) dL_act_185 ⟨(by show _ ≤ (25 : Nat); omega), (by show _ ≤ (150 : Nat); omega)⟩) (fun H locs hI => ?_)
              rw [x_some h]
              exact W.widen (by omega) (by omega) (x_lret F hI dL_act_188)
            · have h := x_iff h c28
              by_cases c31 : (y1 - y1 / (24 : Int32) * (24 : Int32)) = 6
              · have h := x_ift h c31
                refine lv_tableIn (tgt := 189) (off := 141) hx hb dL_act_48 (by rw [c31]; decide) (by rw [c31]; decide) (by rw [c31]; rfl) (by decide) ?_
                refine lv_iload hx hb dL_act_189 (lv_at hl 5 rfl) ?_
                refine lv_iconst (v := 3) hx hb dL_act_191 (by decide) ?_
                refine lv_irem hx hb dL_act_192 (by decide) ?_
                refine lv_if_ne (tgt := 204) hx hb dL_act_193 (by decide) (fun c32 => ?_) (fun c32 => ?_)
                · have h := x_iff h c32
                  refine lv_aload_n hx hb dL_act_204 rfl (lv_at hl 1 rfl) ?_
                  refine lv_iload_n hx hb dL_act_205 rfl (lv_at hl 4 rfl) ?_
                  refine lv_iload hx hb dL_act_206 (lv_at hl 5 rfl) ?_
                  refine lv_bipush (v := 16) hx hb dL_act_208 (by decide) ?_
                  refine lv_irem hx hb dL_act_210 (by decide) ?_
                  obtain ⟨r35, h36, h⟩ := x_bnd h
                  refine xm_acl hI (xw_run (rest := []) F Z.2 hI (mL_reserve l Z.1 X _ σ y3 (y4 - y4 / (16 : Int32) * (16 : Int32)) r35 h36) gw_L_154 hd_L_reserve ⟨by decide, by decide⟩ ⟨rfl, rfl⟩ rfl hl.1 rfl (Nat.le_of_ble_eq_true rfl) dL_act_211 ⟨(by show _ ≤ (25 : Nat); omega), (by show _ ≤ (150 : Nat); omega)⟩) (fun H locs hI => ?_)
                  rw [x_some h]
                  exact W.widen (by omega) (by omega) (x_lret F hI dL_act_214)
                · have h := x_ift h c32
                  refine lv_aload_n hx hb dL_act_196 rfl (lv_at hl 1 rfl) ?_
                  refine lv_iload_n hx hb dL_act_197 rfl (lv_at hl 4 rfl) ?_
                  obtain ⟨r33, h34, h⟩ := x_bnd h
                  refine xm_acl hI (xw_run (rest := []) F Z.2 hI (mL_unreserve l Z.1 X _ σ y3 r33 h34) gw_L_157 hd_L_unreserve ⟨by decide, by decide⟩ ⟨rfl, rfl⟩ rfl hl.1 rfl (Nat.le_of_ble_eq_true rfl) dL_act_198 ⟨(by show _ ≤ (25 : Nat); omega), (by show _ ≤ (150 : Nat); omega)⟩) (fun H locs hI => ?_)
                  refine lv_goto (tgt := 214) hx hb dL_act_201 (by decide) ?_
                  rw [x_some h]
                  exact W.widen (by omega) (by omega) (x_lret F hI dL_act_214)
              · have h := x_iff h c31
                by_cases c37 : (y1 - y1 / (24 : Int32) * (24 : Int32)) = 7
                · have h := x_ift h c37
                  refine lv_tableIn (tgt := 215) (off := 167) hx hb dL_act_48 (by rw [c37]; decide) (by rw [c37]; decide) (by rw [c37]; rfl) (by decide) ?_
                  refine lv_aload_n hx hb dL_act_215 rfl (lv_at hl 1 rfl) ?_
                  refine lv_iload hx hb dL_act_216 (lv_at hl 5 rfl) ?_
                  refine lv_bipush (v := 16) hx hb dL_act_218 (by decide) ?_
                  refine lv_irem hx hb dL_act_220 (by decide) ?_
                  obtain ⟨r38, h39, h⟩ := x_bnd h
                  refine xm_acl hI (xw_run (rest := []) F Z.2 hI (mL_turnGhost l Z.1 X _ σ (y4 - y4 / (16 : Int32) * (16 : Int32)) r38 h39) gw_L_159 hd_L_turnGhost ⟨by decide, by decide⟩ ⟨rfl, rfl⟩ rfl hl.1 rfl (Nat.le_of_ble_eq_true rfl) dL_act_221 ⟨(by show _ ≤ (25 : Nat); omega), (by show _ ≤ (150 : Nat); omega)⟩) (fun H locs hI => ?_)
                  rw [x_some h]
                  exact W.widen (by omega) (by omega) (x_lret F hI dL_act_224)
                · have h := x_iff h c37
                  by_cases c40 : (y1 - y1 / (24 : Int32) * (24 : Int32)) = 8
                  · have h := x_ift h c40
                    refine lv_tableIn (tgt := 225) (off := 177) hx hb dL_act_48 (by rw [c40]; decide) (by rw [c40]; decide) (by rw [c40]; rfl) (by decide) ?_
                    refine lv_iload hx hb dL_act_225 (lv_at hl 5 rfl) ?_
                    refine lv_iconst (v := 3) hx hb dL_act_227 (by decide) ?_
                    refine lv_irem hx hb dL_act_228 (by decide) ?_
                    refine lv_if_ne (tgt := 249) hx hb dL_act_229 (by decide) (fun c41 => ?_) (fun c41 => ?_)
                    · have h := x_iff h c41
                      refine lv_iload hx hb dL_act_249 (lv_at hl 5 rfl) ?_
                      refine lv_iconst (v := 3) hx hb dL_act_251 (by decide) ?_
                      refine lv_irem hx hb dL_act_252 (by decide) ?_
                      refine lv_iconst (v := 1) hx hb dL_act_253 (by decide) ?_
                      refine lv_icmp_ne (tgt := 273) hx hb dL_act_254 (by decide) (fun c44 => ?_) (fun c44 => ?_)
                      · have h := x_iff h c44
                        refine lv_aload_n hx hb dL_act_273 rfl (lv_at hl 1 rfl) ?_
                        refine lv_iconst (v := 1) hx hb dL_act_274 (by decide) ?_
                        refine lv_iload hx hb dL_act_275 (lv_at hl 5 rfl) ?_
                        refine lv_iconst (v := 3) hx hb dL_act_277 (by decide) ?_
                        refine lv_idiv hx hb dL_act_278 (by decide) ?_
                        refine lv_bipush (v := 60) hx hb dL_act_279 (by decide) ?_
                        refine lv_irem hx hb dL_act_281 (by decide) ?_
                        refine lv_iadd hx hb dL_act_282 ?_
                        obtain ⟨r47, h48, h⟩ := x_bnd h
                        refine xm_acl hI (xw_run (rest := []) F Z.2 hI (mL_changeShut l Z.1 X _ σ ((1 : Int32) + ((y4 / (3 : Int32)) - (y4 / (3 : Int32)) / (60 : Int32) * (60 : Int32))) r47 h48) gw_L_165 hd_L_changeShut ⟨by decide, by decide⟩ ⟨rfl, rfl⟩ rfl hl.1 rfl (Nat.le_of_ble_eq_true rfl) dL_act_283 ⟨(by show _ ≤ (25 : Nat); omega), (by show _ ≤ (150 : Nat); omega)⟩) (fun H locs hI => ?_)
                        rw [x_some h]
                        exact W.widen (by omega) (by omega) (x_lret F hI dL_act_286)
                      · have h := x_ift h c44
                        refine lv_aload_n hx hb dL_act_257 rfl (lv_at hl 1 rfl) ?_
                        refine lv_iconst (v := 1) hx hb dL_act_258 (by decide) ?_
                        refine lv_iload hx hb dL_act_259 (lv_at hl 5 rfl) ?_
                        refine lv_iconst (v := 3) hx hb dL_act_261 (by decide) ?_
                        refine lv_idiv hx hb dL_act_262 (by decide) ?_
                        refine lv_bipush (v := 20) hx hb dL_act_263 (by decide) ?_
                        refine lv_irem hx hb dL_act_265 (by decide) ?_
                        refine lv_iadd hx hb dL_act_266 ?_
                        obtain ⟨r45, h46, h⟩ := x_bnd h
                        refine xm_acl hI (xw_run (rest := []) F Z.2 hI (mL_changeHold l Z.1 X _ σ ((1 : Int32) + ((y4 / (3 : Int32)) - (y4 / (3 : Int32)) / (20 : Int32) * (20 : Int32))) r45 h46) gw_L_163 hd_L_changeHold ⟨by decide, by decide⟩ ⟨rfl, rfl⟩ rfl hl.1 rfl (Nat.le_of_ble_eq_true rfl) dL_act_267 ⟨(by show _ ≤ (25 : Nat); omega), (by show _ ≤ (150 : Nat); omega)⟩) (fun H locs hI => ?_)
                        refine lv_goto (tgt := 286) hx hb dL_act_270 (by decide) ?_
                        rw [x_some h]
                        exact W.widen (by omega) (by omega) (x_lret F hI dL_act_286)
                    · have h := x_ift h c41
                      refine lv_aload_n hx hb dL_act_232 rfl (lv_at hl 1 rfl) ?_
                      refine lv_bipush (v := 8) hx hb dL_act_233 (by decide) ?_
                      refine lv_iload hx hb dL_act_235 (lv_at hl 5 rfl) ?_
                      refine lv_iconst (v := 3) hx hb dL_act_237 (by decide) ?_
                      refine lv_idiv hx hb dL_act_238 (by decide) ?_
                      refine lv_bipush (v := 60) hx hb dL_act_239 (by decide) ?_
                      refine lv_irem hx hb dL_act_241 (by decide) ?_
                      refine lv_iadd hx hb dL_act_242 ?_
                      obtain ⟨r42, h43, h⟩ := x_bnd h
                      refine xm_acl hI (xw_run (rest := []) F Z.2 hI (mL_changeLease l Z.1 X _ σ ((8 : Int32) + ((y4 / (3 : Int32)) - (y4 / (3 : Int32)) / (60 : Int32) * (60 : Int32))) r42 h43) gw_L_161 hd_L_changeLease ⟨by decide, by decide⟩ ⟨rfl, rfl⟩ rfl hl.1 rfl (Nat.le_of_ble_eq_true rfl) dL_act_243 ⟨(by show _ ≤ (25 : Nat); omega), (by show _ ≤ (150 : Nat); omega)⟩) (fun H locs hI => ?_)
                      refine lv_goto (tgt := 286) hx hb dL_act_246 (by decide) ?_
                      rw [x_some h]
                      exact W.widen (by omega) (by omega) (x_lret F hI dL_act_286)
                  · have h := x_iff h c40
                    by_cases c49 : (y1 - y1 / (24 : Int32) * (24 : Int32)) = 9
                    · have h := x_ift h c49
                      refine lv_tableIn (tgt := 287) (off := 239) hx hb dL_act_48 (by rw [c49]; decide) (by rw [c49]; decide) (by rw [c49]; rfl) (by decide) ?_
                      refine lv_aload_n hx hb dL_act_287 rfl (lv_at hl 1 rfl) ?_
                      refine lv_iload hx hb dL_act_288 (lv_at hl 0 rfl) ?_
                      obtain ⟨r50, h51, h⟩ := x_bnd h
                      refine xm_acl hI (xw_run (rest := []) F Z.2 hI (mL_deliver l Z.1 X _ σ z0 r50 h51) gw_L_167 hd_L_deliver ⟨by decide, by decide⟩ ⟨rfl, rfl⟩ rfl hl.1 rfl (Nat.le_of_ble_eq_true rfl) dL_act_290 ⟨(by show _ ≤ (25 : Nat); omega), (by show _ ≤ (150 : Nat); omega)⟩) (fun H locs hI => ?_)
                      rw [x_some h]
                      exact W.widen (by omega) (by omega) (x_lret F hI dL_act_293)
                    · have h := x_iff h c49
                      by_cases c52 : (y1 - y1 / (24 : Int32) * (24 : Int32)) = 10
                      · have h := x_ift h c52
                        refine lv_tableIn (tgt := 287) (off := 239) hx hb dL_act_48 (by rw [c52]; decide) (by rw [c52]; decide) (by rw [c52]; rfl) (by decide) ?_
                        refine lv_aload_n hx hb dL_act_287 rfl (lv_at hl 1 rfl) ?_
                        refine lv_iload hx hb dL_act_288 (lv_at hl 0 rfl) ?_
                        obtain ⟨r53, h54, h⟩ := x_bnd h
                        refine xm_acl hI (xw_run (rest := []) F Z.2 hI (mL_deliver l Z.1 X _ σ z0 r53 h54) gw_L_167 hd_L_deliver ⟨by decide, by decide⟩ ⟨rfl, rfl⟩ rfl hl.1 rfl (Nat.le_of_ble_eq_true rfl) dL_act_290 ⟨(by show _ ≤ (25 : Nat); omega), (by show _ ≤ (150 : Nat); omega)⟩) (fun H locs hI => ?_)
                        rw [x_some h]
                        exact W.widen (by omega) (by omega) (x_lret F hI dL_act_293)
                      · have h := x_iff h c52
                        by_cases c55 : (y1 - y1 / (24 : Int32) * (24 : Int32)) = 11
                        · have h := x_ift h c55
                          refine lv_tableIn (tgt := 287) (off := 239) hx hb dL_act_48 (by rw [c55]; decide) (by rw [c55]; decide) (by rw [c55]; rfl) (by decide) ?_
                          refine lv_aload_n hx hb dL_act_287 rfl (lv_at hl 1 rfl) ?_
                          refine lv_iload hx hb dL_act_288 (lv_at hl 0 rfl) ?_
                          obtain ⟨r56, h57, h⟩ := x_bnd h
                          refine xm_acl hI (xw_run (rest := []) F Z.2 hI (mL_deliver l Z.1 X _ σ z0 r56 h57) gw_L_167 hd_L_deliver ⟨by decide, by decide⟩ ⟨rfl, rfl⟩ rfl hl.1 rfl (Nat.le_of_ble_eq_true rfl) dL_act_290 ⟨(by show _ ≤ (25 : Nat); omega), (by show _ ≤ (150 : Nat); omega)⟩) (fun H locs hI => ?_)
                          rw [x_some h]
                          exact W.widen (by omega) (by omega) (x_lret F hI dL_act_293)
                        · have h := x_iff h c55
                          by_cases c58 : (y1 - y1 / (24 : Int32) * (24 : Int32)) = 12
                          · have h := x_ift h c58
                            refine lv_tableIn (tgt := 287) (off := 239) hx hb dL_act_48 (by rw [c58]; decide) (by rw [c58]; decide) (by rw [c58]; rfl) (by decide) ?_
                            refine lv_aload_n hx hb dL_act_287 rfl (lv_at hl 1 rfl) ?_
                            refine lv_iload hx hb dL_act_288 (lv_at hl 0 rfl) ?_
                            obtain ⟨r59, h60, h⟩ := x_bnd h
                            refine xm_acl hI (xw_run (rest := []) F Z.2 hI (mL_deliver l Z.1 X _ σ z0 r59 h60) gw_L_167 hd_L_deliver ⟨by decide, by decide⟩ ⟨rfl, rfl⟩ rfl hl.1 rfl (Nat.le_of_ble_eq_true rfl) dL_act_290 ⟨(by show _ ≤ (25 : Nat); omega), (by show _ ≤ (150 : Nat); omega)⟩) (fun H locs hI => ?_)
                            rw [x_some h]
                            exact W.widen (by omega) (by omega) (x_lret F hI dL_act_293)
                          · have h := x_iff h c58
                            by_cases c61 : (y1 - y1 / (24 : Int32) * (24 : Int32)) = 13
                            · have h := x_ift h c61
                              refine lv_tableIn (tgt := 287) (off := 239) hx hb dL_act_48 (by rw [c61]; decide) (by rw [c61]; decide) (by rw [c61]; rfl) (by decide) ?_
                              refine lv_aload_n hx hb dL_act_287 rfl (lv_at hl 1 rfl) ?_
                              refine lv_iload hx hb dL_act_288 (lv_at hl 0 rfl) ?_
                              obtain ⟨r62, h63, h⟩ := x_bnd h
                              refine xm_acl hI (xw_run (rest := []) F Z.2 hI (mL_deliver l Z.1 X _ σ z0 r62 h63) gw_L_167 hd_L_deliver ⟨by decide, by decide⟩ ⟨rfl, rfl⟩ rfl hl.1 rfl (Nat.le_of_ble_eq_true rfl) dL_act_290 ⟨(by show _ ≤ (25 : Nat); omega), (by show _ ≤ (150 : Nat); omega)⟩) (fun H locs hI => ?_)
                              rw [x_some h]
                              exact W.widen (by omega) (by omega) (x_lret F hI dL_act_293)
                            · have h := x_iff h c61
                              by_cases c64 : (y1 - y1 / (24 : Int32) * (24 : Int32)) = 14
                              · have h := x_ift h c64
                                refine lv_tableIn (tgt := 294) (off := 246) hx hb dL_act_48 (by rw [c64]; decide) (by rw [c64]; decide) (by rw [c64]; rfl) (by decide) ?_
                                refine lv_aload_n hx hb dL_act_294 rfl (lv_at hl 1 rfl) ?_
                                refine lv_iload hx hb dL_act_295 (lv_at hl 0 rfl) ?_
                                obtain ⟨r65, h66, h⟩ := x_bnd h
                                refine xm_acl hI (xw_run (rest := []) F Z.2 hI (mL_lose l Z.1 X _ σ z0 r65 h66) gw_L_169 hd_L_lose ⟨by decide, by decide⟩ ⟨rfl, rfl⟩ rfl hl.1 rfl (Nat.le_of_ble_eq_true rfl) dL_act_297 ⟨(by show _ ≤ (25 : Nat); omega), (by show _ ≤ (150 : Nat); omega)⟩) (fun H locs hI => ?_)
                                rw [x_some h]
                                exact W.widen (by omega) (by omega) (x_lret F hI dL_act_300)
                              · have h := x_iff h c64
                                by_cases c67 : (y1 - y1 / (24 : Int32) * (24 : Int32)) = 15
                                · have h := x_ift h c67
                                  refine lv_tableIn (tgt := 301) (off := 253) hx hb dL_act_48 (by rw [c67]; decide) (by rw [c67]; decide) (by rw [c67]; rfl) (by decide) ?_
                                  refine lv_aload_n hx hb dL_act_301 rfl (lv_at hl 1 rfl) ?_
                                  obtain ⟨r68, h69, h⟩ := x_bnd h
                                  refine x_aci hI (x_runV (rest := []) F hI (mX6_deliverAll l X _ σ  r68 h69) g_L_270 ⟨rfl, hd_X6_deliverAll⟩ ⟨by decide, by decide⟩ ⟨rfl, rfl⟩ (x_inO (by decide)) rfl rfl rfl rfl hl.1 rfl (Nat.le_of_ble_eq_true rfl) dL_act_302 ⟨(by show _ ≤ (25 : Nat); omega), (by show _ ≤ (150 : Nat); omega)⟩) (fun H locs hI => ?_)
                                  refine lv_i2l hx hb dL_act_305 rfl ?_
                                  rw [x_some h]
                                  exact W.widen (by omega) (by omega) (x_lret F hI dL_act_306)
                                · have h := x_iff h c67
                                  by_cases c70 : (y1 - y1 / (24 : Int32) * (24 : Int32)) = 16
                                  · have h := x_ift h c70
                                    refine lv_tableIn (tgt := 301) (off := 253) hx hb dL_act_48 (by rw [c70]; decide) (by rw [c70]; decide) (by rw [c70]; rfl) (by decide) ?_
                                    refine lv_aload_n hx hb dL_act_301 rfl (lv_at hl 1 rfl) ?_
                                    obtain ⟨r71, h72, h⟩ := x_bnd h
                                    refine x_aci hI (x_runV (rest := []) F hI (mX6_deliverAll l X _ σ  r71 h72) g_L_270 ⟨rfl, hd_X6_deliverAll⟩ ⟨by decide, by decide⟩ ⟨rfl, rfl⟩ (x_inO (by decide)) rfl rfl rfl rfl hl.1 rfl (Nat.le_of_ble_eq_true rfl) dL_act_302 ⟨(by show _ ≤ (25 : Nat); omega), (by show _ ≤ (150 : Nat); omega)⟩) (fun H locs hI => ?_)
                                    refine lv_i2l hx hb dL_act_305 rfl ?_
                                    rw [x_some h]
                                    exact W.widen (by omega) (by omega) (x_lret F hI dL_act_306)
                                  · have h := x_iff h c70
                                    by_cases c73 : (y1 - y1 / (24 : Int32) * (24 : Int32)) = 17
                                    · have h := x_ift h c73
                                      refine lv_tableIn (tgt := 307) (off := 259) hx hb dL_act_48 (by rw [c73]; decide) (by rw [c73]; decide) (by rw [c73]; rfl) (by decide) ?_
                                      refine lv_aload_n hx hb dL_act_307 rfl (lv_at hl 1 rfl) ?_
                                      refine lv_iconst (v := 1) hx hb dL_act_308 (by decide) ?_
                                      refine lv_iload hx hb dL_act_309 (lv_at hl 5 rfl) ?_
                                      refine lv_iload_n hx hb dL_act_311 rfl (lv_at hl 3 rfl) ?_
                                      refine lv_iconst (v := 4) hx hb dL_act_312 (by decide) ?_
                                      refine lv_irem hx hb dL_act_313 (by decide) ?_
                                      refine lv_if_ne (tgt := 322) hx hb dL_act_314 (by decide) (fun c74 => ?_) (fun c74 => ?_)
                                      · have h := x_iff h c74
                                        refine lv_bipush (v := 9) hx hb dL_act_322 (by decide) ?_
                                        refine lv_irem hx hb dL_act_324 (by decide) ?_
                                        refine lv_iadd hx hb dL_act_325 ?_
                                        obtain ⟨r77, h78, h⟩ := x_bnd h
                                        refine xm_acl hI (xw_run (rest := []) F Z.2 hI (mL_tick l Z.1 X _ σ ((1 : Int32) + (y4 - y4 / (9 : Int32) * (9 : Int32))) r77 h78) gw_L_171 hd_L_tick ⟨by decide, by decide⟩ ⟨rfl, rfl⟩ rfl hl.1 rfl (Nat.le_of_ble_eq_true rfl) dL_act_326 ⟨(by show _ ≤ (25 : Nat); omega), (by show _ ≤ (150 : Nat); omega)⟩) (fun H locs hI => ?_)
                                        rw [x_some h]
                                        exact W.widen (by omega) (by omega) (x_lret F hI dL_act_329)
                                      · have h := x_ift h c74
                                        refine lv_bipush (v := 60) hx hb dL_act_317 (by decide) ?_
                                        refine lv_goto (tgt := 324) hx hb dL_act_319 (by decide) ?_
                                        refine lv_irem hx hb dL_act_324 (by decide) ?_
                                        refine lv_iadd hx hb dL_act_325 ?_
                                        obtain ⟨r75, h76, h⟩ := x_bnd h
                                        refine xm_acl hI (xw_run (rest := []) F Z.2 hI (mL_tick l Z.1 X _ σ ((1 : Int32) + (y4 - y4 / (60 : Int32) * (60 : Int32))) r75 h76) gw_L_171 hd_L_tick ⟨by decide, by decide⟩ ⟨rfl, rfl⟩ rfl hl.1 rfl (Nat.le_of_ble_eq_true rfl) dL_act_326 ⟨(by show _ ≤ (25 : Nat); omega), (by show _ ≤ (150 : Nat); omega)⟩) (fun H locs hI => ?_)
                                        rw [x_some h]
                                        exact W.widen (by omega) (by omega) (x_lret F hI dL_act_329)
                                    · have h := x_iff h c73
                                      by_cases c79 : (y1 - y1 / (24 : Int32) * (24 : Int32)) = 18
                                      · have h := x_ift h c79
                                        refine lv_tableIn (tgt := 307) (off := 259) hx hb dL_act_48 (by rw [c79]; decide) (by rw [c79]; decide) (by rw [c79]; rfl) (by decide) ?_
                                        refine lv_aload_n hx hb dL_act_307 rfl (lv_at hl 1 rfl) ?_
                                        refine lv_iconst (v := 1) hx hb dL_act_308 (by decide) ?_
                                        refine lv_iload hx hb dL_act_309 (lv_at hl 5 rfl) ?_
                                        refine lv_iload_n hx hb dL_act_311 rfl (lv_at hl 3 rfl) ?_
                                        refine lv_iconst (v := 4) hx hb dL_act_312 (by decide) ?_
                                        refine lv_irem hx hb dL_act_313 (by decide) ?_
                                        refine lv_if_ne (tgt := 322) hx hb dL_act_314 (by decide) (fun c80 => ?_) (fun c80 => ?_)
                                        · have h := x_iff h c80
                                          refine lv_bipush (v := 9) hx hb dL_act_322 (by decide) ?_
                                          refine lv_irem hx hb dL_act_324 (by decide) ?_
                                          refine lv_iadd hx hb dL_act_325 ?_
                                          obtain ⟨r83, h84, h⟩ := x_bnd h
                                          refine xm_acl hI (xw_run (rest := []) F Z.2 hI (mL_tick l Z.1 X _ σ ((1 : Int32) + (y4 - y4 / (9 : Int32) * (9 : Int32))) r83 h84) gw_L_171 hd_L_tick ⟨by decide, by decide⟩ ⟨rfl, rfl⟩ rfl hl.1 rfl (Nat.le_of_ble_eq_true rfl) dL_act_326 ⟨(by show _ ≤ (25 : Nat); omega), (by show _ ≤ (150 : Nat); omega)⟩) (fun H locs hI => ?_)
                                          rw [x_some h]
                                          exact W.widen (by omega) (by omega) (x_lret F hI dL_act_329)
                                        · have h := x_ift h c80
                                          refine lv_bipush (v := 60) hx hb dL_act_317 (by decide) ?_
                                          refine lv_goto (tgt := 324) hx hb dL_act_319 (by decide) ?_
                                          refine lv_irem hx hb dL_act_324 (by decide) ?_
                                          refine lv_iadd hx hb dL_act_325 ?_
                                          obtain ⟨r81, h82, h⟩ := x_bnd h
                                          refine xm_acl hI (xw_run (rest := []) F Z.2 hI (mL_tick l Z.1 X _ σ ((1 : Int32) + (y4 - y4 / (60 : Int32) * (60 : Int32))) r81 h82) gw_L_171 hd_L_tick ⟨by decide, by decide⟩ ⟨rfl, rfl⟩ rfl hl.1 rfl (Nat.le_of_ble_eq_true rfl) dL_act_326 ⟨(by show _ ≤ (25 : Nat); omega), (by show _ ≤ (150 : Nat); omega)⟩) (fun H locs hI => ?_)
                                          rw [x_some h]
                                          exact W.widen (by omega) (by omega) (x_lret F hI dL_act_329)
                                      · have h := x_iff h c79
                                        by_cases c85 : (y1 - y1 / (24 : Int32) * (24 : Int32)) = 19
                                        · have h := x_ift h c85
                                          refine lv_tableIn (tgt := 330) (off := 282) hx hb dL_act_48 (by rw [c85]; decide) (by rw [c85]; decide) (by rw [c85]; rfl) (by decide) ?_
                                          refine lv_aload_n hx hb dL_act_330 rfl (lv_at hl 1 rfl) ?_
                                          refine lv_iload hx hb dL_act_331 (lv_at hl 5 rfl) ?_
                                          obtain ⟨r86, h87, h⟩ := x_bnd h
                                          refine xm_acl hI (xm_run (rest := []) F Z.2 hI (mL_told l Z.1 X _ σ y4 r86 h87) gm_L_294 hd_L_told ⟨by decide, by decide⟩ ⟨rfl, rfl⟩ rfl hl.1 rfl (Nat.le_of_ble_eq_true rfl) dL_act_333 ⟨(by show _ ≤ (25 : Nat); omega), (by show _ ≤ (150 : Nat); omega)⟩) (fun H locs hI => ?_)
                                          rw [x_some h]
                                          exact W.widen (by omega) (by omega) (x_lret F hI dL_act_336)
                                        · have h := x_iff h c85
                                          by_cases c88 : (y1 - y1 / (24 : Int32) * (24 : Int32)) = 20
                                          · have h := x_ift h c88
                                            refine lv_tableIn (tgt := 337) (off := 289) hx hb dL_act_48 (by rw [c88]; decide) (by rw [c88]; decide) (by rw [c88]; rfl) (by decide) ?_
                                            refine lv_aload_n hx hb dL_act_337 rfl (lv_at hl 1 rfl) ?_
                                            obtain ⟨r89, h90, h⟩ := x_bnd h
                                            refine xm_acl hI (xw_run (rest := []) F Z.2 hI (mL_undo l Z.1 X _ σ  r89 h90) gw_L_273 hd_L_undo ⟨by decide, by decide⟩ ⟨rfl, rfl⟩ rfl hl.1 rfl (Nat.le_of_ble_eq_true rfl) dL_act_338 ⟨(by show _ ≤ (25 : Nat); omega), (by show _ ≤ (150 : Nat); omega)⟩) (fun H locs hI => ?_)
                                            rw [x_some h]
                                            exact W.widen (by omega) (by omega) (x_lret F hI dL_act_341)
                                          · have h := x_iff h c88
                                            by_cases c91 : (y1 - y1 / (24 : Int32) * (24 : Int32)) = 21
                                            · have h := x_ift h c91
                                              refine lv_tableIn (tgt := 337) (off := 289) hx hb dL_act_48 (by rw [c91]; decide) (by rw [c91]; decide) (by rw [c91]; rfl) (by decide) ?_
                                              refine lv_aload_n hx hb dL_act_337 rfl (lv_at hl 1 rfl) ?_
                                              obtain ⟨r92, h93, h⟩ := x_bnd h
                                              refine xm_acl hI (xw_run (rest := []) F Z.2 hI (mL_undo l Z.1 X _ σ  r92 h93) gw_L_273 hd_L_undo ⟨by decide, by decide⟩ ⟨rfl, rfl⟩ rfl hl.1 rfl (Nat.le_of_ble_eq_true rfl) dL_act_338 ⟨(by show _ ≤ (25 : Nat); omega), (by show _ ≤ (150 : Nat); omega)⟩) (fun H locs hI => ?_)
                                              rw [x_some h]
                                              exact W.widen (by omega) (by omega) (x_lret F hI dL_act_341)
                                            · have h := x_iff h c91
                                              by_cases c94 : (y1 - y1 / (24 : Int32) * (24 : Int32)) = 22
                                              · have h := x_ift h c94
                                                refine lv_tableIn (tgt := 342) (off := 294) hx hb dL_act_48 (by rw [c94]; decide) (by rw [c94]; decide) (by rw [c94]; rfl) (by decide) ?_
                                                refine lv_iload hx hb dL_act_342 (lv_at hl 5 rfl) ?_
                                                refine lv_iconst (v := 2) hx hb dL_act_344 (by decide) ?_
                                                refine lv_irem hx hb dL_act_345 (by decide) ?_
                                                refine lv_if_ne (tgt := 362) hx hb dL_act_346 (by decide) (fun c95 => ?_) (fun c95 => ?_)
                                                · have h := x_iff h c95
                                                  refine lv_aload_n hx hb dL_act_362 rfl (lv_at hl 1 rfl) ?_
                                                  refine lv_iload hx hb dL_act_363 (lv_at hl 5 rfl) ?_
                                                  refine lv_iconst (v := 2) hx hb dL_act_365 (by decide) ?_
                                                  refine lv_idiv hx hb dL_act_366 (by decide) ?_
                                                  refine lv_iconst (v := 1) hx hb dL_act_367 (by decide) ?_
                                                  refine lv_iand hx hb dL_act_368 ?_
                                                  obtain ⟨r98, h99, h⟩ := x_bnd h
                                                  refine xm_acl hI (xw_run (rest := []) F Z.2 hI (mL_goBack l Z.1 X _ σ ((y4 / (2 : Int32)) &&& (1 : Int32)) r98 h99) gw_L_177 hd_L_goBack ⟨by decide, by decide⟩ ⟨rfl, rfl⟩ rfl hl.1 rfl (Nat.le_of_ble_eq_true rfl) dL_act_369 ⟨(by show _ ≤ (25 : Nat); omega), (by show _ ≤ (150 : Nat); omega)⟩) (fun H locs hI => ?_)
                                                  rw [x_some h]
                                                  exact W.widen (by omega) (by omega) (x_lret F hI dL_act_372)
                                                · have h := x_ift h c95
                                                  refine lv_aload_n hx hb dL_act_349 rfl (lv_at hl 1 rfl) ?_
                                                  refine lv_iload hx hb dL_act_350 (lv_at hl 5 rfl) ?_
                                                  refine lv_iconst (v := 2) hx hb dL_act_352 (by decide) ?_
                                                  refine lv_idiv hx hb dL_act_353 (by decide) ?_
                                                  refine lv_iconst (v := 1) hx hb dL_act_354 (by decide) ?_
                                                  refine lv_iand hx hb dL_act_355 ?_
                                                  obtain ⟨r96, h97, h⟩ := x_bnd h
                                                  refine xm_acl hI (xw_run (rest := []) F Z.2 hI (mL_keep l Z.1 X _ σ ((y4 / (2 : Int32)) &&& (1 : Int32)) r96 h97) gw_L_175 hd_L_keep ⟨by decide, by decide⟩ ⟨rfl, rfl⟩ rfl hl.1 rfl (Nat.le_of_ble_eq_true rfl) dL_act_356 ⟨(by show _ ≤ (25 : Nat); omega), (by show _ ≤ (150 : Nat); omega)⟩) (fun H locs hI => ?_)
                                                  refine lv_goto (tgt := 372) hx hb dL_act_359 (by decide) ?_
                                                  rw [x_some h]
                                                  exact W.widen (by omega) (by omega) (x_lret F hI dL_act_372)
                                              · have h := x_iff h c94
                                                refine lv_tableOut (tgt := 373) hx hb dL_act_48 (x_sw23 c10 c13 c16 c19 c22 c28 c31 c37 c40 c49 c52 c55 c58 c61 c64 c67 c70 c73 c79 c85 c88 c91 c94) (by decide) ?_
                                                refine lv_aload_n hx hb dL_act_373 rfl (lv_at hl 1 rfl) ?_
                                                refine lv_iload_n hx hb dL_act_374 rfl (lv_at hl 3 rfl) ?_
                                                refine lv_iconst (v := 5) hx hb dL_act_375 (by decide) ?_
                                                refine lv_irem hx hb dL_act_376 (by decide) ?_
                                                obtain ⟨r100, h101, h⟩ := x_bnd h
                                                refine xm_acl hI (xw_run (rest := []) F Z.2 hI (mL_seek l Z.1 X _ σ (y2 - y2 / (5 : Int32) * (5 : Int32)) r100 h101) gw_L_143 hd_L_seek ⟨by decide, by decide⟩ ⟨rfl, rfl⟩ rfl hl.1 rfl (Nat.le_of_ble_eq_true rfl) dL_act_377 ⟨(by show _ ≤ (25 : Nat); omega), (by show _ ≤ (150 : Nat); omega)⟩) (fun H locs hI => ?_)
                                                rw [x_some h]
                                                exact W.widen (by omega) (by omega) (x_lret F hI dL_act_380)
def fL_act (σ : x_S) (a1 : Int32) (a2 : Int32) : Option (Int64 × x_S) := x_let (a2 - a2 / (12 : Int32) * (12 : Int32)) fun x1 => x_let (a2 / (12 : Int32)) fun x3 => (Option.bind (fX6_messages σ ) fun r5 => (if r5 = 0 then fL_act_j42 σ a1 a2 x1 x3 (0 : Int32) else (if (x3 - x3 / (3 : Int32) * (3 : Int32)) = 0 then (if ¬ r5 = 0 then fL_act_j42 σ a1 a2 x1 x3 (x3 - x3 / r5 * r5) else none) else fL_act_j42 σ a1 a2 x1 x3 (0 : Int32))))
set_option maxHeartbeats 4000000 in
set_option maxRecDepth 100000 in
theorem mL_act (l : Launch) (hl0 : l.stackTraces = false) (X : x_T) (sz : Nat) (σ : x_S) (a1 : Int32) (a2 : Int32) (r : (Int64 × x_S)) (h : fL_act σ a1 a2 = some r) : Met l yL_act (x_ws yL_act cL_act 7 (some .long)) rm_L_act (x_PcT X σ sz [.ref (X.2.2 10 32), .int a1, .int a2]) (x_Ql X r.1 r.2 sz) 25 150 (x_A X sz) := by
  refine Met.ofW (cc := cL_act) (maxL := 7) (ret := (some .long)) (by decide) rfl ?_
  intro p e s m args below meth c s₁ B hml hv
  obtain ⟨F, Z, hI, rfl, rfl⟩ := xm_begin hl0 B hml hv
  replace F : x_F p s m _ meth c cL_act 7 RL (some .long) := F
  have hx := F.1
  have hb := F.2.1
  have hml := F.2.2.1
  have hown := F.2.2.2.1
  have hts := F.2.2.2.2.1
  refine x_entry (vs := [.ref (X.2.2 10 32), .int a1, .int a2]) (n := 7) (Nat.le_of_ble_eq_true rfl) (fun ls hl => ?_)
  replace hl : lv_has ls 7 [(0, .ref (X.2.2 10 32)), (1, .int a1), (2, .int a2)] := hl
  unfold fL_act at h
  refine lv_iload_n hx hb dL_act_0 rfl (lv_at hl 2 rfl) ?_
  refine lv_bipush (v := 12) hx hb dL_act_1 (by decide) ?_
  refine lv_irem hx hb dL_act_3 (by decide) ?_
  refine lv_topi (fun x1 e2 => ?_)
  have h := x_let_at h e2
  refine lv_istore_n (lv' := [(3, .int x1), (0, .ref (X.2.2 10 32)), (1, .int a1), (2, .int a2)]) hx hb dL_act_4 rfl hl (by decide) rfl (fun ls hl => ?_)
  refine lv_iload_n hx hb dL_act_5 rfl (lv_at hl 3 rfl) ?_
  refine lv_bipush (v := 12) hx hb dL_act_6 (by decide) ?_
  refine lv_idiv hx hb dL_act_8 (by decide) ?_
  refine lv_topi (fun x3 e4 => ?_)
  have h := x_let_at h e4
  refine lv_istore (lv' := [(4, .int x3), (3, .int x1), (0, .ref (X.2.2 10 32)), (1, .int a1), (2, .int a2)]) hx hb dL_act_9 hl (by decide) rfl (fun ls hl => ?_)
  refine lv_aload_n hx hb dL_act_11 rfl (lv_at hl 2 rfl) ?_
  obtain ⟨r5, h6, h⟩ := x_bnd h
  refine x_aci hI (x_runV (rest := []) F hI (mX6_messages l X _ σ  r5 h6) g_L_140 ⟨rfl, hd_X6_messages⟩ ⟨by decide, by decide⟩ ⟨rfl, rfl⟩ (x_inO (by decide)) rfl rfl rfl rfl hl.1 rfl (Nat.le_of_ble_eq_true rfl) dL_act_12 ⟨(by show _ ≤ (25 : Nat); omega), (by show _ ≤ (150 : Nat); omega)⟩) (fun H locs hI => ?_)
  refine lv_istore (lv' := [(5, .int r5), (4, .int x3), (3, .int x1), (0, .ref (X.2.2 10 32)), (1, .int a1), (2, .int a2)]) hx hb dL_act_15 hl (by decide) rfl (fun ls hl => ?_)
  refine lv_iload hx hb dL_act_17 (lv_at hl 0 rfl) ?_
  refine lv_if_ne (tgt := 26) hx hb dL_act_19 (by decide) (fun c7 => ?_) (fun c7 => ?_)
  · have h := x_iff h c7
    refine lv_iload hx hb dL_act_26 (lv_at hl 1 rfl) ?_
    refine lv_iconst (v := 3) hx hb dL_act_28 (by decide) ?_
    refine lv_irem hx hb dL_act_29 (by decide) ?_
    refine lv_if_ne (tgt := 41) hx hb dL_act_30 (by decide) (fun c8 => ?_) (fun c8 => ?_)
    · have h := x_iff h c8
      refine lv_iconst (v := 0) hx hb dL_act_41 (by decide) ?_
      exact wL_act_j42 F Z σ a1 a2 x1 x3 (0 : Int32) _ _ _ _ _ ⟨by omega, by omega⟩ h hI (lv_sub hl [3, 4, 5, 2, 1] rfl)
    · have h := x_ift h c8
      refine lv_iload hx hb dL_act_33 (lv_at hl 1 rfl) ?_
      refine lv_iload hx hb dL_act_35 (lv_at hl 0 rfl) ?_
      obtain ⟨g9, h⟩ := x_chk h
      refine lv_irem hx hb dL_act_37 g9 ?_
      refine lv_goto (tgt := 42) hx hb dL_act_38 (by decide) ?_
      exact wL_act_j42 F Z σ a1 a2 x1 x3 (x3 - x3 / r5 * r5) _ _ _ _ _ ⟨by omega, by omega⟩ h hI (lv_sub hl [3, 4, 5, 2, 1] rfl)
  · have h := x_ift h c7
    refine lv_iconst (v := 0) hx hb dL_act_22 (by decide) ?_
    refine lv_goto (tgt := 42) hx hb dL_act_23 (by decide) ?_
    exact wL_act_j42 F Z σ a1 a2 x1 x3 (0 : Int32) _ _ _ _ _ ⟨by omega, by omega⟩ h hI (lv_sub hl [3, 4, 5, 2, 1] rfl)
