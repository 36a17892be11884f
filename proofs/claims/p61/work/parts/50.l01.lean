/-! ===== the law's wrappers over the class's rows ===== -/
abbrev XI : Int64 := (-9000000000000000001 : Int64)
abbrev XA : Int64 := (-9000000000000000002 : Int64)
abbrev XS : Int64 := (-9000000000000000003 : Int64)
section WR
variable {α : Type} {E : Option α} {f : α → Option (Int64 × x_S)} {σ : x_S} {y : Int32} {P : x_S → Prop}
set_option maxRecDepth 16384 in
theorem qy {C : Option Int32} (hE : E = none) (hC : C = some y) : x_or E f (Option.bind C fun r => some (r.toInt64, σ)) = some (y.toInt64, σ) := by rw [hE, xo_none, hC]; rfl
set_option maxRecDepth 16384 in
theorem qx {C : Option (Int64 × x_S)} {e : α} {z : Int64 × x_S} (hE : E = some e) (hf : f e = some z) : x_or E f C = some z := by rw [hE, xo_some, hf]
set_option maxRecDepth 16384 in
theorem qb {C : Option Int32} {c : Prop} [Decidable c] (hE : E = none) (hC : C = some (nn (if c then 1 else 0))) : x_or E f (Option.bind C fun r => (if r = 0 then some ((0 : Int64), σ) else some ((1 : Int64), σ))) = some ((nn (if c then 1 else 0)).toInt64, σ) := by
  rw [hE, xo_none, hC, xb_some, nb_z]
  by_cases h : c
  · rw [if_pos h, if_pos h, mz1]
  · rw [if_neg h, if_neg h, mz0]
set_option maxRecDepth 16384 in
theorem cv {C : Option (Int32 × x_S)} (hE : E = none) (hC : Ok C (fun r => r.1 = y ∧ P r.2)) : Ok (x_or E f (Option.bind C fun r => some (r.1.toInt64, r.2))) (fun r => r.1 = y.toInt64 ∧ P r.2) := by
  rw [hE, xo_none]
  exact Ok_bind hC (fun r hr => Ok_some ⟨by show r.1.toInt64 = _; rw [hr.1], hr.2⟩)
set_option maxRecDepth 16384 in
theorem cn {C : Option x_S} (hE : E = none) (hC : Ok C P) : Ok (x_or E f (Option.bind C fun r => some ((0 : Int64), r))) (fun r => r.1 = (0 : Int64) ∧ P r.2) := by
  rw [hE, xo_none]
  exact Ok_bind hC (fun r hr => Ok_some ⟨rfl, hr⟩)
set_option maxRecDepth 16384 in
theorem cb {C : Option (Int32 × x_S)} {c : Prop} [Decidable c] (hE : E = none) (hC : Ok C (fun r => r.1 = nn (if c then 1 else 0) ∧ P r.2)) : Ok (x_or E f (Option.bind C fun r => (if r.1 = 0 then some ((0 : Int64), r.2) else some ((1 : Int64), r.2)))) (fun r => r.1 = (nn (if c then 1 else 0)).toInt64 ∧ P r.2) := by
  rw [hE, xo_none]
  refine Ok_bind hC (fun r hr => ?_)
  rw [hr.1, nb_z]
  by_cases h : c
  · rw [if_pos h, if_pos h]; exact Ok_some ⟨mz1.symm, hr.2⟩
  · rw [if_neg h, if_neg h]; exact Ok_some ⟨mz0.symm, hr.2⟩
end WR
section QS
variable {B g r p : Nat} {σ : x_S} {w : Nat → Nat} {a : Int32}
set_option maxRecDepth 16384 in
theorem x_doingOf (h : fX6_isGuest a = some 0) : fL_doingOf σ a = some (XI, σ) := by unfold fL_doingOf; exact qx (by rw [eX6_doingOf, eg_no h]; rfl) rfl
set_option maxRecDepth 16384 in
theorem x_roomOf (h : fX6_isGuest a = some 0) : fL_roomOf σ a = some (XI, σ) := by unfold fL_roomOf; exact qx (by rw [eX6_roomOf, eg_no h]; rfl) rfl
set_option maxRecDepth 16384 in
theorem x_ticksLeft (h : fX6_isGuest a = some 0) : fL_ticksLeft σ a = some (XI, σ) := by unfold fL_ticksLeft; exact qx (by rw [eX6_ticksLeft, eg_no h]; rfl) rfl
set_option maxRecDepth 16384 in
theorem x_toRenewal (h : fX6_isGuest a = some 0) : fL_toRenewal σ a = some (XI, σ) := by unfold fL_toRenewal; exact qx (by rw [eX6_ticksToRenewal, eg_no h]; rfl) rfl
set_option maxRecDepth 16384 in
theorem x_isHaunted (h : fX6_isGuest a = some 0) : fL_isHaunted σ a = some (XI, σ) := by unfold fL_isHaunted; exact qx (by rw [eX6_isHaunted, eg_no h]; rfl) rfl
set_option maxRecDepth 16384 in
theorem x_staysOf (h : fX6_isGuest a = some 0) : fL_staysOf σ a = some (XI, σ) := by unfold fL_staysOf; exact qx (by rw [eX6_staysOf, eg_no h]; rfl) rfl
set_option maxRecDepth 16384 in
theorem x_stateOf (h : fX6_isRoom a = some 0) : fL_stateOf σ a = some (XI, σ) := by unfold fL_stateOf; exact qx (by rw [eX6_stateOf, er_no h]; rfl) rfl
set_option maxRecDepth 16384 in
theorem x_guestOf (h : fX6_isRoom a = some 0) : fL_guestOf σ a = some (XI, σ) := by unfold fL_guestOf; exact qx (by rw [eX6_guestOf, er_no h]; rfl) rfl
set_option maxRecDepth 16384 in
theorem x_ticksOf (h : fX6_isRoom a = some 0) : fL_ticksOf σ a = some (XI, σ) := by unfold fL_ticksOf; exact qx (by rw [eX6_ticksOf, er_no h]; rfl) rfl
set_option maxRecDepth 16384 in
theorem x_reservedFor (h : fX6_isRoom a = some 0) : fL_reservedFor σ a = some (XI, σ) := by unfold fL_reservedFor; exact qx (by rw [eX6_reservedFor, er_no h]; rfl) rfl
set_option maxRecDepth 16384 in
theorem x_hasGhost (h : fX6_isRoom a = some 0) : fL_hasGhost σ a = some (XI, σ) := by unfold fL_hasGhost; exact qx (by rw [eX6_hasGhost, er_no h]; rfl) rfl
set_option maxRecDepth 16384 in
theorem x_roomFor (h : fX6_isGuest a = some 0) : fL_roomFor σ a = some (XI, σ) := by unfold fL_roomFor; exact qx (by rw [eX6_roomFor, eg_no h]; rfl) rfl
set_option maxRecDepth 16384 in
theorem x_kindAt (h : fX4_hasPlace (σ 0) a = some 0) : fL_kindAt σ a = some (XI, σ) := by unfold fL_kindAt; exact qx (by rw [eX6_kindAt, ep_no h]; rfl) rfl
set_option maxRecDepth 16384 in
theorem x_guestAt (h : fX4_hasPlace (σ 0) a = some 0) : fL_guestAt σ a = some (XI, σ) := by unfold fL_guestAt; exact qx (by rw [eX6_guestAt, ep_no h]; rfl) rfl
set_option maxRecDepth 16384 in
theorem x_roomAt (h : fX4_hasPlace (σ 0) a = some 0) : fL_roomAt σ a = some (XI, σ) := by unfold fL_roomAt; exact qx (by rw [eX6_roomAt, ep_no h]; rfl) rfl
set_option maxRecDepth 16384 in
theorem x_sent (h : eX6_requireRange a (0 : Int32) (6 : Int32) = some 1) : fL_sent σ a = some (XA, σ) := by unfold fL_sent; exact qx (by rw [eX6_sent, h]; rfl) rfl
set_option maxRecDepth 16384 in
theorem q_doingOf (R : Ru (σ 0) w) (hg : g < 12) : fL_doingOf σ (nn g) = some ((nn (w (8 * g))).toInt64, σ) := by
  unfold fL_doingOf
  exact qy (by rw [eX6_doingOf, eg_ok hg, xo_none, fg_ok hg, xb_some]) (by rw [fX6_doingOf, fg_ok hg, xb_some, if_pos (nn_in (by omega) hg), g_doing R hg])
set_option maxRecDepth 16384 in
theorem g_room (R : Ru (σ 0) w) (hg : g < 12) : σ 0 6 (Int32.toNatClampNeg (nn g)) = mm (if 2 ≤ w (8 * g) then w (8 * g + 1) + 1 else 0) := by rw [nn_clamp (by omega)]; exact (R.1 g hg).2.1
set_option maxRecDepth 16384 in
theorem q_roomOf (R : Ru (σ 0) w) (F : Wf B w) (hg : g < 12) (c : 2 ≤ w (8 * g)) : fL_roomOf σ (nn g) = some ((nn (w (8 * g + 1))).toInt64, σ) := by
  have z := F.1.1 g hg
  have e6 := g_room R hg
  rw [if_pos c, mm_succ] at e6
  have d : ¬ nn (w (8 * g + 1)) = (-1 : Int32) := fun e => (nn_neg (a := w (8 * g + 1)) (by omega)).mp (by rw [e]; decide)
  unfold fL_roomOf
  exact qy (by rw [eX6_roomOf, eg_ok hg, xo_none, fg_ok hg, xb_some, if_pos (nn_in (by omega) hg), e6, if_neg d, er1, xo_none, fr1, xb_some]) (by rw [fX6_roomOf, fg_ok hg, xb_some, if_pos (nn_in (by omega) hg), e6, if_neg d, fr1, xb_some])
set_option maxRecDepth 16384 in
theorem s_roomOf (R : Ru (σ 0) w) (hg : g < 12) (c : ¬ 2 ≤ w (8 * g)) : fL_roomOf σ (nn g) = some (XS, σ) := by
  have e6 := g_room R hg
  rw [if_neg c] at e6
  unfold fL_roomOf
  exact qx (e := 2) (by rw [eX6_roomOf, eg_ok hg, xo_none, fg_ok hg, xb_some, if_pos (nn_in (by omega) hg), e6, if_pos (show mm 0 = (-1 : Int32) from rfl), er0, xo_some]) rfl
set_option maxRecDepth 16384 in
theorem g_time (R : Ru (σ 0) w) : σ 0 0 0 = nn (w 554) := R.2.2.2.2.2.1.1
set_option maxRecDepth 16384 in
theorem q_ticksLeft (R : Ru (σ 0) w) (F : Wf B w) (hg : g < 12) (c : w (8 * g) = 3) : fL_ticksLeft σ (nn g) = some ((nn (w (8 * g + 2) + w (8 * g + 3) - w 554)).toInt64, σ) := by
  have e5 := g_doing R hg
  have e6 := u_ticksUntilEnd R (show Wm B w from ⟨F.1, F.2.2⟩) hg
  rw [if_pos c] at e6
  rw [c] at e5
  unfold fL_ticksLeft
  exact qy (by rw [eX6_ticksLeft, eg_ok hg, xo_none, fg_ok hg, xb_some, if_pos (nn_in (by omega) hg), e5, if_pos (show nn 3 = (3 : Int32) from rfl), er1, xo_none, fr1, xb_some]) (by rw [fX6_ticksLeft, fg_ok hg, xb_some, if_pos (nn_in (by omega) hg), e5, if_pos (show nn 3 = (3 : Int32) from rfl), fr1, xb_some, g_time R, e6, xb_some])
set_option maxRecDepth 16384 in
theorem s_ticksLeft (R : Ru (σ 0) w) (F : Wf B w) (hg : g < 12) (c : w (8 * g) ≠ 3) : fL_ticksLeft σ (nn g) = some (XS, σ) := by
  have z := F.1.1 g hg
  unfold fL_ticksLeft
  exact qx (e := 2) (by rw [eX6_ticksLeft, eg_ok hg, xo_none, fg_ok hg, xb_some, if_pos (nn_in (by omega) hg), g_doing R hg, if_neg (no3 (by omega) c), er0, xo_some]) rfl
set_option maxRecDepth 16384 in
theorem q_toRenewal (R : Ru (σ 0) w) (F : Wf B w) (hg : g < 12) (c : w (8 * g) = 3 ∧ n_ask w g ≠ 0) : fL_toRenewal σ (nn g) = some ((nn (n_ask w g)).toInt64, σ) := by
  have z := F.1.1 g hg
  have e6 := u_ask R (show Wm B w from ⟨F.1, F.2.2⟩) hg
  have hq : n_ask w g ≤ 1000 := by unfold n_ask; split <;> omega
  rw [if_pos c.1] at e6
  have d : ¬ nn (n_ask w g) ≤ (0 : Int32) := fun h => by have := (nn_le (b := 0) (by omega) (by omega)).mp h; omega
  unfold fL_toRenewal
  exact qy (by rw [eX6_ticksToRenewal, eg_ok hg, xo_none, fg_ok hg, xb_some, g_time R, e6, xb_some, if_neg d, er1, xo_none, fr1, xb_some]) (by rw [fX6_ticksToRenewal, fg_ok hg, xb_some, g_time R, e6, xb_some, if_neg d, fr1, xb_some])
set_option maxRecDepth 16384 in
theorem s_toRenewal (R : Ru (σ 0) w) (F : Wf B w) (hg : g < 12) (c : ¬ (w (8 * g) = 3 ∧ n_ask w g ≠ 0)) : fL_toRenewal σ (nn g) = some (XS, σ) := by
  have e6 := u_ask R (show Wm B w from ⟨F.1, F.2.2⟩) hg
  have e7 : (if w (8 * g) = 3 then n_ask w g else 0) = 0 := by
    by_cases c1 : w (8 * g) = 3
    · rw [if_pos c1]; exact Decidable.byContradiction (fun h => c ⟨c1, h⟩)
    · rw [if_neg c1]
  rw [e7] at e6
  unfold fL_toRenewal
  exact qx (e := 2) (by rw [eX6_ticksToRenewal, eg_ok hg, xo_none, fg_ok hg, xb_some, g_time R, e6, xb_some, if_pos (show nn 0 ≤ (0 : Int32) by decide), er0, xo_some]) rfl
set_option maxRecDepth 16384 in
theorem q_isHaunted (R : Ru (σ 0) w) (F : Wf B w) (hg : g < 12) : fL_isHaunted σ (nn g) = some ((nn (if n_hnt w g then 1 else 0)).toInt64, σ) := by
  unfold fL_isHaunted
  exact qb (by rw [eX6_isHaunted, eg_ok hg, xo_none, fg_ok hg, xb_some]) (by rw [fX6_isHaunted, fg_ok hg, xb_some, u_hnt R F.1 hg, xb_some, if_pos vpb])
set_option maxRecDepth 16384 in
theorem q_staysOf (R : Ru (σ 0) w) (hg : g < 12) : fL_staysOf σ (nn g) = some ((nn (w (8 * g + 6))).toInt64, σ) := by
  unfold fL_staysOf
  exact qy (by rw [eX6_staysOf, eg_ok hg, xo_none, fg_ok hg, xb_some]) (by rw [fX6_staysOf, fg_ok hg, xb_some, if_pos (nn_in (by omega) hg), nn_clamp (by omega), (R.1 g hg).2.2.2.2.2.2.1])
set_option maxRecDepth 16384 in
theorem q_stateOf (R : Ru (σ 0) w) (hr : r < 16) : fL_stateOf σ (nn r) = some ((nn (w (96 + 6 * r))).toInt64, σ) := by
  unfold fL_stateOf
  exact qy (by rw [eX6_stateOf, er_ok hr, xo_none, fr_ok hr, xb_some]) (by rw [fX6_stateOf, fr_ok hr, xb_some, if_pos (nn_in (by omega) hr), g_state R hr])
set_option maxRecDepth 16384 in
theorem q_guestOf (R : Ru (σ 0) w) (F : Wf B w) (hr : r < 16) (c : n_who w r) : fL_guestOf σ (nn r) = some ((nn (w (96 + 6 * r + 2))).toInt64, σ) := by
  have z := F.1.2.1.1 r hr
  have e6 := g_who R F.1 hr
  rw [if_pos c, mm_succ] at e6
  have d : ¬ nn (w (96 + 6 * r + 2)) = (-1 : Int32) := fun e => (nn_neg (a := w (96 + 6 * r + 2)) (by omega)).mp (by rw [e]; decide)
  unfold fL_guestOf
  exact qy (by rw [eX6_guestOf, er_ok hr, xo_none, fr_ok hr, xb_some, if_pos (nn_in (by omega) hr), e6, if_neg d, er1, xo_none, fr1, xb_some]) (by rw [fX6_guestOf, fr_ok hr, xb_some, if_pos (nn_in (by omega) hr), e6, if_neg d, fr1, xb_some])
set_option maxRecDepth 16384 in
theorem s_guestOf (R : Ru (σ 0) w) (F : Wf B w) (hr : r < 16) (c : ¬ n_who w r) : fL_guestOf σ (nn r) = some (XS, σ) := by
  have e6 := g_who R F.1 hr
  rw [if_neg c] at e6
  unfold fL_guestOf
  exact qx (e := 2) (by rw [eX6_guestOf, er_ok hr, xo_none, fr_ok hr, xb_some, if_pos (nn_in (by omega) hr), e6, if_pos (show mm 0 = (-1 : Int32) from rfl), er0, xo_some]) rfl
set_option maxRecDepth 16384 in
theorem q_ticksOf (R : Ru (σ 0) w) (F : Wf B w) (hr : r < 16) (c : w (96 + 6 * r) ≠ 0) : fL_ticksOf σ (nn r) = some ((nn (n_left w r)).toInt64, σ) := by
  have z := F.1.2.1.1 r hr
  have e6 := g_state R hr
  have d : ¬ nn (w (96 + 6 * r)) = (0 : Int32) := fun e => c ((nn_is 0 (by omega) (by omega)).mp e)
  unfold fL_ticksOf
  exact qy (by rw [eX6_ticksOf, er_ok hr, xo_none, fr_ok hr, xb_some, if_pos (nn_in (by omega) hr), e6, if_neg d, er1, xo_none, fr1, xb_some]) (by rw [fX6_ticksOf, fr_ok hr, xb_some, if_pos (nn_in (by omega) hr), e6, if_neg d, fr1, xb_some, g_time R, u_left R F hr, xb_some])
set_option maxRecDepth 16384 in
theorem s_ticksOf (R : Ru (σ 0) w) (hr : r < 16) (c : w (96 + 6 * r) = 0) : fL_ticksOf σ (nn r) = some (XS, σ) := by
  have e6 := g_state R hr
  rw [c] at e6
  unfold fL_ticksOf
  exact qx (e := 2) (by rw [eX6_ticksOf, er_ok hr, xo_none, fr_ok hr, xb_some, if_pos (nn_in (by omega) hr), e6, if_pos (show nn 0 = (0 : Int32) from rfl), er0, xo_some]) rfl
set_option maxRecDepth 16384 in
theorem q_reservedFor (R : Ru (σ 0) w) (F : Wf B w) (hr : r < 16) (c : w (96 + 6 * r + 4) ≠ 0) : fL_reservedFor σ (nn r) = some ((nn (w (96 + 6 * r + 4) - 1)).toInt64, σ) := by
  have z := F.1.2.1.1 r hr
  have e5 := g_kept R hr
  obtain ⟨d, hd⟩ : ∃ d, w (96 + 6 * r + 4) = d + 1 := ⟨w (96 + 6 * r + 4) - 1, by omega⟩
  have q := (qy (σ := σ) (f := fun q1 => (if q1 = 0 then some ((-9000000000000000001 : Int64), σ) else (if q1 = 2 then some ((-9000000000000000003 : Int64), σ) else none))) (E := eX6_reservedFor σ (nn r)) (C := fX6_reservedFor σ (nn r)) (by rw [eX6_reservedFor, er_ok hr, xo_none, fr_ok hr, xb_some, if_pos (nn_in (by omega) hr), e5, if_neg (fun e => c ((mm_none (by omega)).mp e)), er1, xo_none, fr1, xb_some]) (by rw [fX6_reservedFor, fr_ok hr, xb_some, if_pos (nn_in (by omega) hr), e5, if_neg (fun e => c ((mm_none (by omega)).mp e)), fr1, xb_some]))
  unfold fL_reservedFor
  rw [hd, mm_succ] at q
  rw [hd, Nat.add_sub_cancel]
  exact q
set_option maxRecDepth 16384 in
theorem s_reservedFor (R : Ru (σ 0) w) (hr : r < 16) (c : w (96 + 6 * r + 4) = 0) : fL_reservedFor σ (nn r) = some (XS, σ) := by
  have e5 := g_kept R hr
  unfold fL_reservedFor
  exact qx (e := 2) (by rw [eX6_reservedFor, er_ok hr, xo_none, fr_ok hr, xb_some, if_pos (nn_in (by omega) hr), e5, c, if_pos (show mm 0 = (-1 : Int32) from rfl), er0, xo_some]) rfl
set_option maxRecDepth 16384 in
theorem q_hasGhost (R : Ru (σ 0) w) (hr : r < 16) : fL_hasGhost σ (nn r) = some ((nn (if w (96 + 6 * r + 5) = 1 then 1 else 0)).toInt64, σ) := by
  unfold fL_hasGhost
  exact qb (by rw [eX6_hasGhost, er_ok hr, xo_none, fr_ok hr, xb_some]) (by rw [fX6_hasGhost, fr_ok hr, xb_some, u_ghostB R hr (fun y => some y)])
set_option maxRecDepth 16384 in
theorem q_roomFor (R : Ru (σ 0) w) (F : Wf B w) (hg : g < 12) {d : Nat} (c : n_choice w g = d + 1) : fL_roomFor σ (nn g) = some ((nn d).toInt64, σ) := by
  have z := n_choice_le F.1 hg
  have e := u_roomToOffer R F.1 hg
  rw [c, mm_succ] at e
  have dd : ¬ nn d = (-1 : Int32) := fun e => (nn_neg (a := d) (by omega)).mp (by rw [e]; decide)
  unfold fL_roomFor
  exact qy (by rw [eX6_roomFor, eg_ok hg, xo_none, fg_ok hg, xb_some, e, xb_some, if_neg dd, er1, xo_none, fr1, xb_some]) (by rw [fX6_roomFor, fg_ok hg, xb_some, e, xb_some, if_neg dd, fr1, xb_some])
set_option maxRecDepth 16384 in
theorem s_roomFor (R : Ru (σ 0) w) (F : Wf B w) (hg : g < 12) (c : n_choice w g = 0) : fL_roomFor σ (nn g) = some (XS, σ) := by
  have e := u_roomToOffer R F.1 hg
  rw [c] at e
  unfold fL_roomFor
  exact qx (e := 2) (by rw [eX6_roomFor, eg_ok hg, xo_none, fg_ok hg, xb_some, e, xb_some, if_pos (show mm 0 = (-1 : Int32) from rfl), er0, xo_some]) rfl
set_option maxRecDepth 16384 in
theorem p_ok (R : Ru (σ 0) w) (hm : w 552 ≤ 60) (hp : p < w 552) : fX4_hasPlace (σ 0) (nn p) = some 1 := by rw [u_hasPlace R.2.2.2.2.1.1 hm (by omega), if_pos hp]; rfl
set_option maxRecDepth 16384 in
theorem q_kindAt (R : Ru (σ 0) w) (hm : w 552 ≤ 60) (hp : p < w 552) : fL_kindAt σ (nn p) = some ((nn (w (192 + 6 * p))).toInt64, σ) := by
  have h1 := p_ok R hm hp
  unfold fL_kindAt
  exact qy (by rw [eX6_kindAt, ep_ok h1, xo_none, fp_ok h1, xb_some]) (by rw [fX6_kindAt, fp_ok h1, xb_some, if_pos (nn_in (by omega) (by omega)), nn_clamp (by omega), (R.2.2.2.2.1.2 p hp).1])
set_option maxRecDepth 16384 in
theorem q_guestAt (R : Ru (σ 0) w) (hm : w 552 ≤ 60) (hp : p < w 552) : fL_guestAt σ (nn p) = some ((nn (w (192 + 6 * p + 1))).toInt64, σ) := by
  have h1 := p_ok R hm hp
  unfold fL_guestAt
  exact qy (by rw [eX6_guestAt, ep_ok h1, xo_none, fp_ok h1, xb_some]) (by rw [fX6_guestAt, fp_ok h1, xb_some, if_pos (nn_in (by omega) (by omega)), nn_clamp (by omega), (R.2.2.2.2.1.2 p hp).2.1])
set_option maxRecDepth 16384 in
theorem q_roomAt (R : Ru (σ 0) w) (Z : Wz w) (hp : p < w 552) (c : w (192 + 6 * p) ≠ 0) : fL_roomAt σ (nn p) = some ((nn (w (192 + 6 * p + 2))).toInt64, σ) := by
  have hm := Z.2.2.1.2
  have z := Z.2.2.1.1 p hp
  have h1 := p_ok R hm hp
  have e : σ 0 21 (Int32.toNatClampNeg (nn p)) = nn (w (192 + 6 * p + 2)) := by rw [nn_clamp (by omega), (R.2.2.2.2.1.2 p hp).2.2.1, if_neg c, mm_succ]
  have d : ¬ nn (w (192 + 6 * p + 2)) = (-1 : Int32) := fun e => (nn_neg (a := w (192 + 6 * p + 2)) (by omega)).mp (by rw [e]; decide)
  unfold fL_roomAt
  exact qy (by rw [eX6_roomAt, ep_ok h1, xo_none, fp_ok h1, xb_some, if_pos (nn_in (by omega) (by omega)), e, if_neg d, er1, xo_none, fr1, xb_some]) (by rw [fX6_roomAt, fp_ok h1, xb_some, if_pos (nn_in (by omega) (by omega)), e, if_neg d, fr1, xb_some])
set_option maxRecDepth 16384 in
theorem s_roomAt (R : Ru (σ 0) w) (Z : Wz w) (hp : p < w 552) (c : w (192 + 6 * p) = 0) : fL_roomAt σ (nn p) = some (XS, σ) := by
  have hm := Z.2.2.1.2
  have h1 := p_ok R hm hp
  have e : σ 0 21 (Int32.toNatClampNeg (nn p)) = mm 0 := by rw [nn_clamp (by omega), (R.2.2.2.2.1.2 p hp).2.2.1, if_pos c]
  unfold fL_roomAt
  exact qx (e := 2) (by rw [eX6_roomAt, ep_ok h1, xo_none, fp_ok h1, xb_some, if_pos (nn_in (by omega) (by omega)), e, if_pos (show mm 0 = (-1 : Int32) from rfl), er0, xo_some]) rfl
set_option maxRecDepth 16384 in
theorem q_sent (R : Ru (σ 0) w) (hk : g < 7) : fL_sent σ (nn g) = some ((nn (w (563 + g))).toInt64, σ) := by
  have h : eX6_requireRange (nn g) (0 : Int32) (6 : Int32) = none ∧ fX6_requireRange (nn g) (0 : Int32) (6 : Int32) = some () := by
    rcases a_range (p := 0) (m := 6) (by omega) (by omega) (nn g) with q | ⟨g', -, q2, q3, q4, q5⟩
    · exfalso
      rw [eX6_requireRange, if_neg (fun h => by have := (nn_lt (a := g) (b := 0) (by omega) (by omega)).mp h; omega), if_pos ((nn_le (a := g) (b := 6) (by omega) (by omega)).mpr (by omega))] at q
      cases q
    · rw [← q3] at q4 q5
      exact ⟨q4, q5⟩
  unfold fL_sent
  exact qy (by rw [eX6_sent, h.1, xo_none, h.2, xb_some]) (by rw [fX6_sent, h.2, xb_some, if_pos (nn_in (by omega) (by omega)), nn_clamp (by omega), R.2.2.2.2.2.2.2 g hk])
set_option maxRecDepth 16384 in
theorem q_nextR (R : Ru (σ 0) w) (F : Wf B w) (c : n_nx w 16 0 ≠ 0) : fL_nextByRooms σ = some ((nn (n_nx w 16 0)).toInt64, σ) := by
  have z := n_nx_le F
  have d : ¬ nn (n_nx w 16 0) ≤ (0 : Int32) := fun h => by have := (nn_le (b := 0) (by omega) (by omega)).mp h; omega
  unfold fL_nextByRooms
  exact qy (by rw [eX6_nextFreeByRooms, g_time R, u_next R F, xb_some, if_neg d, er1, xo_none, fr1, xb_some]) (by rw [fX6_nextFreeByRooms, g_time R, u_next R F, xb_some, if_neg d, fr1, xb_some])
set_option maxRecDepth 16384 in
theorem s_nextR (R : Ru (σ 0) w) (F : Wf B w) (c : n_nx w 16 0 = 0) : fL_nextByRooms σ = some (XS, σ) := by
  unfold fL_nextByRooms
  exact qx (e := 2) (by rw [eX6_nextFreeByRooms, g_time R, u_next R F, xb_some, c, if_pos (show nn 0 ≤ (0 : Int32) by decide), er0, xo_some]) rfl
set_option maxRecDepth 16384 in
theorem q_nextT (R : Ru (σ 0) w) (F : Wf B w) : Ok (fL_nextByTicks σ) (fun r => r.1 = (if n_nx w 16 0 = 0 then XS else (nn (n_nx w 16 0)).toInt64) ∧ ∀ i, i ≠ 1 → r.2 i = σ i) := by
  have z := n_nx_le F
  obtain ⟨⟨q, τ⟩, e, h1, h2⟩ := c_tryTicks F R
  have g1 : q = nn (n_nx w 16 0) := h1
  subst g1
  unfold fL_nextByTicks
  by_cases c : n_nx w 16 0 = 0
  · rw [if_pos c]
    refine ⟨_, qx (e := (2, τ)) (by rw [eX6_nextFreeByTicks, e, xb_some, if_pos (show nn (n_nx w 16 0) ≤ (0 : Int32) by rw [c]; decide), er0, xo_some]) rfl, rfl, h2⟩
  · rw [if_neg c]
    have d : ¬ nn (n_nx w 16 0) ≤ (0 : Int32) := fun h => by have := (nn_le (b := 0) (by omega) (by omega)).mp h; omega
    exact cv (P := fun τ => ∀ i, i ≠ 1 → τ i = σ i) (by rw [eX6_nextFreeByTicks, e, xb_some, if_neg d, er1, xo_none, fr1, xb_some]) (by
      rw [fX6_nextFreeByTicks, e, xb_some, if_neg d, fr1, xb_some]
      exact Ok_some ⟨rfl, h2⟩)
end QS
