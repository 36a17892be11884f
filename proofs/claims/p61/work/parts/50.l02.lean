/-! ===== calls that change something ===== -/
def Wi (B : Nat) (w : Nat → Nat) : Prop := Wf B w ∧ Wk w
set_option maxRecDepth 16384 in
theorem Wi_up {B B' : Nat} {w : Nat → Nat} (h : Wi B w) (h1 : B ≤ B') (h9 : B' ≤ 1000000000) : Wi B' w := ⟨Wf_up h.1 h1 h9, h.2⟩
section CC
variable {B n l g r p s : Nat} {σ : x_S} {w : Nat → Nat} {S K : Nat → Nat → Nat} {t x : Nat → Nat} {a a2 : Int32}
set_option maxRecDepth 16384 in
theorem x_seek (h : fX6_isGuest a = some 0) : fL_seek σ a = some (XI, σ) := by unfold fL_seek; exact qx (e := (0, σ)) (by rw [eX6_seek, eg_no h]; rfl) rfl
set_option maxRecDepth 16384 in
theorem x_leave (h : fX6_isGuest a = some 0) : fL_leave σ a = some (XI, σ) := by unfold fL_leave; exact qx (e := (0, σ)) (by rw [eX6_leave, eg_no h]; rfl) rfl
set_option maxRecDepth 16384 in
theorem x_giveUp (h : fX6_isGuest a = some 0) : fL_giveUp σ a = some (XI, σ) := by unfold fL_giveUp; exact qx (e := (0, σ)) (by rw [eX6_giveUp, eg_no h]; rfl) rfl
set_option maxRecDepth 16384 in
theorem x_renew (h : fX6_isGuest a = some 0) : fL_renew σ a = some (XI, σ) := by unfold fL_renew; exact qx (e := (0, σ)) (by rw [eX6_renew, eg_no h]; rfl) rfl
set_option maxRecDepth 16384 in
theorem x_reserve (h : fX6_isGuest a = some 0) : fL_reserve σ a a2 = some (XI, σ) := by unfold fL_reserve; exact qx (e := (0, σ)) (by rw [eX6_reserve, eg_no h]; rfl) rfl
set_option maxRecDepth 16384 in
theorem x_reserve2 (hg : g < 12) (h : fX6_isRoom a2 = some 0) : fL_reserve σ (nn g) a2 = some (XI, σ) := by unfold fL_reserve; exact qx (e := (0, σ)) (by rw [eX6_reserve, eg_ok hg, xo_none, fg_ok hg, xb_some, er_no h]; rfl) rfl
set_option maxRecDepth 16384 in
theorem x_unreserve (h : fX6_isGuest a = some 0) : fL_unreserve σ a = some (XI, σ) := by unfold fL_unreserve; exact qx (e := (0, σ)) (by rw [eX6_unreserve, eg_no h]; rfl) rfl
set_option maxRecDepth 16384 in
theorem x_turnGhost (h : fX6_isRoom a = some 0) : fL_turnGhost σ a = some (XI, σ) := by unfold fL_turnGhost; exact qx (e := (0, σ)) (by rw [eX6_turnGhost, er_no h]; rfl) rfl
set_option maxRecDepth 16384 in
theorem x_changeLease (h : eX6_requireRange a (8 : Int32) (200 : Int32) = some 1) : fL_changeLease σ a = some (XA, σ) := by unfold fL_changeLease; exact qx (e := (1, σ)) (by rw [eX6_changeLease, h]; rfl) rfl
set_option maxRecDepth 16384 in
theorem x_changeHold (h : eX6_requireRange a (1 : Int32) (50 : Int32) = some 1) : fL_changeHold σ a = some (XA, σ) := by unfold fL_changeHold; exact qx (e := (1, σ)) (by rw [eX6_changeHold, h]; rfl) rfl
set_option maxRecDepth 16384 in
theorem x_changeShut (h : eX6_requireRange a (1 : Int32) (200 : Int32) = some 1) : fL_changeShut σ a = some (XA, σ) := by unfold fL_changeShut; exact qx (e := (1, σ)) (by rw [eX6_changeShut, h]; rfl) rfl
set_option maxRecDepth 16384 in
theorem x_deliver (h : fX4_hasPlace (σ 0) a = some 0) : fL_deliver σ a = some (XI, σ) := by unfold fL_deliver; exact qx (e := (0, σ)) (by rw [eX6_deliver, ep_no h]; rfl) rfl
set_option maxRecDepth 16384 in
theorem x_lose (h : fX4_hasPlace (σ 0) a = some 0) : fL_lose σ a = some (XI, σ) := by unfold fL_lose; exact qx (e := (0, σ)) (by rw [eX6_lose, ep_no h]; rfl) rfl
set_option maxRecDepth 16384 in
theorem x_tick (h : eX6_requireRange a (1 : Int32) (100 : Int32) = some 1) : fL_tick σ a = some (XA, σ) := by unfold fL_tick; exact qx (e := (1, σ)) (by rw [eX6_tick, h]; rfl) rfl
set_option maxRecDepth 16384 in
theorem x_append (h : eX6_requireRange a (33 : Int32) (126 : Int32) = some 1) : fL_append σ a = some (XA, σ) := by unfold fL_append; exact qx (e := (1, σ)) (by rw [eX6_append, h]; rfl) rfl
set_option maxRecDepth 16384 in
theorem x_keep (h : eX6_requireRange a (0 : Int32) (1 : Int32) = some 1) : fL_keep σ a = some (XA, σ) := by unfold fL_keep; exact qx (e := (1, σ)) (by rw [eX6_keep, h]; rfl) rfl
set_option maxRecDepth 16384 in
theorem x_goBack (h : eX6_requireRange a (0 : Int32) (1 : Int32) = some 1) : fL_goBack σ a = some (XA, σ) := by unfold fL_goBack; exact qx (e := (1, σ)) (by rw [eX6_goBack, h]; rfl) rfl
set_option maxRecDepth 16384 in
theorem s_seek (R : Ru (σ 0) w) (Z : Wz w) (hg : g < 12) (c : w (8 * g) ≠ 0) : fL_seek σ (nn g) = some (XS, σ) := by
  have z := Z.1 g hg
  unfold fL_seek
  exact qx (e := (2, σ)) (by rw [eX6_seek, eg_ok hg, xo_none, fg_ok hg, xb_some, if_pos (nn_in (by omega) hg), g_doing R hg, if_neg (show ¬ nn (w (8 * g)) = 0 from fun e => c ((nn_is 0 (by omega) (by omega)).mp e)), er0, xo_some]) rfl
set_option maxRecDepth 16384 in
theorem s_leave (R : Ru (σ 0) w) (Z : Wz w) (hg : g < 12) (c : w (8 * g) ≠ 3) : fL_leave σ (nn g) = some (XS, σ) := by
  have z := Z.1 g hg
  unfold fL_leave
  exact qx (e := (2, σ)) (by rw [eX6_leave, eg_ok hg, xo_none, fg_ok hg, xb_some, if_pos (nn_in (by omega) hg), g_doing R hg, if_neg (no3 (by omega) c), er0, xo_some]) rfl
set_option maxRecDepth 16384 in
theorem s_renew (R : Ru (σ 0) w) (Z : Wz w) (hg : g < 12) (c : w (8 * g) ≠ 3) : fL_renew σ (nn g) = some (XS, σ) := by
  have z := Z.1 g hg
  unfold fL_renew
  exact qx (e := (2, σ)) (by rw [eX6_renew, eg_ok hg, xo_none, fg_ok hg, xb_some, if_pos (nn_in (by omega) hg), g_doing R hg, if_neg (no3 (by omega) c), er0, xo_some]) rfl
set_option maxRecDepth 16384 in
theorem s_giveUp (R : Ru (σ 0) w) (Z : Wz w) (hg : g < 12) (c : ¬ (1 ≤ w (8 * g) ∧ w (8 * g) ≤ 2)) : fL_giveUp σ (nn g) = some (XS, σ) := by
  have z := Z.1 g hg
  have d1 : ¬ nn (w (8 * g)) = (1 : Int32) := fun e => by have := (nn_is 1 (by omega) (by omega)).mp e; omega
  have d2 : ¬ nn (w (8 * g)) = (2 : Int32) := fun e => by have := (nn_is 2 (by omega) (by omega)).mp e; omega
  unfold fL_giveUp
  exact qx (e := (2, σ)) (by rw [eX6_giveUp, eg_ok hg, xo_none, fg_ok hg, xb_some, if_pos (nn_in (by omega) hg), g_doing R hg, x_let_n, if_neg d1, if_neg d2, er0, xo_some]) rfl
set_option maxRecDepth 16384 in
theorem s_reserve (R : Ru (σ 0) w) (Z : Wz w) (hg : g < 12) (hr : r < 16) (c : w (96 + 6 * r + 4) ≠ 0) : fL_reserve σ (nn g) (nn r) = some (XS, σ) := by
  have z := Z.2.1.1 r hr
  unfold fL_reserve
  exact qx (e := (2, σ)) (by rw [eX6_reserve, eg_ok hg, xo_none, fg_ok hg, xb_some, er_ok hr, xo_none, fr_ok hr, xb_some, if_pos (nn_in (by omega) hr), g_kept R hr, if_neg (fun e => c ((mm_none (by omega)).mp e)), er0, xo_some]) rfl
set_option maxRecDepth 16384 in
theorem s_unreserve (R : Ru (σ 0) w) (Z : Wz w) (hg : g < 12) (c : n_res w g 16 = 0) : fL_unreserve σ (nn g) = some (XS, σ) := by
  have er := u_reservedRoom R Z hg
  rw [c] at er
  unfold fL_unreserve
  exact qx (e := (2, σ)) (by rw [eX6_unreserve, eg_ok hg, xo_none, fg_ok hg, xb_some, er, xb_some, if_pos (show mm 0 = (-1 : Int32) from rfl), er0, xo_some]) rfl
set_option maxRecDepth 16384 in
theorem s_goBack (Y : YcK σ t K) (hs : s < 2) (c : t s = 0) (h : eX6_requireRange (nn s) (0 : Int32) (1 : Int32) = none ∧ fX6_requireRange (nn s) (0 : Int32) (1 : Int32) = some ()) : fL_goBack σ (nn s) = some (XS, σ) := by
  have e36 : σ 10 36 (Int32.toNatClampNeg (nn s)) = nn (t s) := by rw [nn_clamp (by omega)]; exact (Y s hs).2.1
  rw [c] at e36
  unfold fL_goBack
  exact qx (e := (2, σ)) (by rw [eX6_goBack, h.1, xo_none, h.2, xb_some, if_pos (nn_in (by omega) hs), e36, show eX6_require (nn 0) = some 2 from er0, xo_some]) rfl
set_option maxRecDepth 16384 in
theorem s_undo (Y : YcS σ n S) (c : n = 0) : fL_undo σ = some (XS, σ) := by
  have e33 := Y.1
  rw [c] at e33
  unfold fL_undo
  exact qx (e := (2, σ)) (by rw [eX6_undo, e33, if_pos (show nn 0 ≤ (0 : Int32) by decide), er0, xo_some]) rfl
set_option maxRecDepth 16384 in
theorem c_seek (Y : Yc σ w n S t K l x) (F : Wf B w) (hn : n ≤ 6) (h9 : B + 700000 ≤ 1000000000) (hB : 1 ≤ B) (hg : g < 12) (c : w (8 * g) = 0) : Ok (fL_seek σ (nn g)) (fun r => r.1 = (nn (n_seek w g 552)).toInt64 ∧ Yc r.2 (n_seek w g) (n_sn n) (n_sS w n S) t K l x) := by
  have hm := F.1.2.2.1.2
  have e5 := g_doing Y.1 hg
  rw [c] at e5
  unfold fL_seek
  refine cv (P := fun τ => Yc τ (n_seek w g) (n_sn n) (n_sS w n S) t K l x) ?_ ?_
  · rw [eX6_seek, eg_ok hg, xo_none, fg_ok hg, xb_some, if_pos (nn_in (by omega) hg), e5, if_pos (show nn 0 = (0 : Int32) from rfl), er1, xo_none, fr1, xb_some]
  · rw [fX6_seek, fg_ok hg, xb_some, if_pos (nn_in (by omega) hg), e5, if_pos (show nn 0 = (0 : Int32) from rfl), fX6_seek_j24, fr1, xb_some]
    refine Ok_bind (c_push Y hn) (fun τ hτ => ?_)
    obtain ⟨Y1, t11, t12⟩ := hτ
    refine Ok_bind (u_beginSeeking Y1.1 F.2.2 hm (by omega) hg c) (fun u hu => Ok_let (fun τ2 e2 => Ok_some ⟨?_, ?_⟩))
    · show τ2 0 3 0 = _
      rw [e2, x_sh_eq]; exact hu.2.2.2.2.1.1
    · show Yc τ2 _ _ _ _ _ _ _
      rw [e2]; exact Yc_now Y1 (n_sn_le hn) hu
set_option maxRecDepth 16384 in
theorem c_leave (Y : Yc σ w n S t K l x) (F : Wf B w) (hn : n ≤ 6) (hg : g < 12) (c : w (8 * g) = 3) : Ok (fL_leave σ (nn g)) (fun r => r.1 = (nn (w (8 * g + 1))).toInt64 ∧ Yc r.2 (n_leave w g) (n_sn n) (n_sS w n S) t K l x) := by
  have hm := F.1.2.2.1.2
  have z := F.1.1 g hg
  have e5 := g_doing Y.1 hg
  rw [c] at e5
  unfold fL_leave
  refine cv (P := fun τ => Yc τ (n_leave w g) (n_sn n) (n_sS w n S) t K l x) ?_ ?_
  · rw [eX6_leave, eg_ok hg, xo_none, fg_ok hg, xb_some, if_pos (nn_in (by omega) hg), e5, if_pos (show nn 3 = (3 : Int32) from rfl), er1, xo_none, fr1, xb_some]
  · rw [fX6_leave, fg_ok hg, xb_some, if_pos (nn_in (by omega) hg), e5, if_pos (show nn 3 = (3 : Int32) from rfl), fX6_leave_j25, fr1, xb_some]
    refine Ok_bind (c_push Y hn) (fun τ hτ => ?_)
    obtain ⟨Y1, t11, t12⟩ := hτ
    rw [if_pos (nn_in (by omega) hg)]
    refine Ok_let (fun x10 e10 => Ok_bind (u_leaveRoom Y1.1 F.2.2 hm hg (by omega)) (fun u hu => Ok_let (fun τ2 e2 => Ok_some ⟨?_, ?_⟩)))
    · show x10 = _
      rw [e10, nn_clamp (by omega), (Y1.1.1 g hg).2.1, if_pos (by omega), mm_succ]
    · show Yc τ2 _ _ _ _ _ _ _
      rw [e2]; exact Yc_now Y1 (n_sn_le hn) hu
set_option maxRecDepth 16384 in
theorem c_giveUp (Y : Yc σ w n S t K l x) (F : Wf B w) (hn : n ≤ 6) (hg : g < 12) (c : 1 ≤ w (8 * g) ∧ w (8 * g) ≤ 2) : Ok (fL_giveUp σ (nn g)) (fun r => r.1 = (nn (w (8 * g))).toInt64 ∧ Yc r.2 (nu w (8 * g) 0) (n_sn n) (n_sS w n S) t K l x) := by
  have hm := F.1.2.2.1.2
  have z := F.1.1 g hg
  have e5 := g_doing Y.1 hg
  have K1 : ∀ {β : Type} (f : Int32 → Option β) (h : Option β), (if nn (w (8 * g)) = (1 : Int32) then f (nn (w (8 * g))) else (if nn (w (8 * g)) = (2 : Int32) then f (nn (w (8 * g))) else h)) = f (nn (w (8 * g))) := by
    intro β f h
    by_cases c1 : w (8 * g) = 1
    · rw [if_pos (show nn (w (8 * g)) = (1 : Int32) by rw [c1]; rfl)]
    · rw [if_neg (show ¬ nn (w (8 * g)) = (1 : Int32) from fun e => c1 ((nn_is 1 (by omega) (by omega)).mp e)), if_pos (show nn (w (8 * g)) = (2 : Int32) by rw [show w (8 * g) = 2 by omega]; rfl)]
  unfold fL_giveUp
  refine cv (P := fun τ => Yc τ (nu w (8 * g) 0) (n_sn n) (n_sS w n S) t K l x) ?_ ?_
  · rw [eX6_giveUp, eg_ok hg, xo_none, fg_ok hg, xb_some, if_pos (nn_in (by omega) hg), e5, x_let_n]
    exact K1 (fun _ => none) _
  · rw [fX6_giveUp, fg_ok hg, xb_some, if_pos (nn_in (by omega) hg), e5, x_let_n]
    refine Eq.mpr (congrArg (fun o => Ok o _) (K1 (fun y => fX6_giveUp_j27 σ (nn g) y) _)) ?_
    show Ok (fX6_giveUp_j27 σ (nn g) (nn (w (8 * g)))) _
    rw [fX6_giveUp_j27, fX6_giveUp_j32, fr1, xb_some]
    refine Ok_bind (c_push Y hn) (fun τ hτ => ?_)
    obtain ⟨Y1, t11, t12⟩ := hτ
    refine Ok_bind (u_rest Y1.1 hm hg) (fun u hu => Ok_let (fun τ2 e2 => Ok_some ⟨rfl, ?_⟩))
    show Yc τ2 _ _ _ _ _ _ _
    rw [e2]; exact Yc_now Y1 (n_sn_le hn) hu
set_option maxRecDepth 16384 in
theorem c_renew (Y : Yc σ w n S t K l x) (F : Wf B w) (hn : n ≤ 6) (hg : g < 12) (c : w (8 * g) = 3) : Ok (fL_renew σ (nn g)) (fun r => r.1 = (nn (n_want w g 552)).toInt64 ∧ Yc r.2 (n_want w g) (n_sn n) (n_sS w n S) t K l x) := by
  have hm := F.1.2.2.1.2
  have e5 := g_doing Y.1 hg
  rw [c] at e5
  unfold fL_renew
  refine cv (P := fun τ => Yc τ (n_want w g) (n_sn n) (n_sS w n S) t K l x) ?_ ?_
  · rw [eX6_renew, eg_ok hg, xo_none, fg_ok hg, xb_some, if_pos (nn_in (by omega) hg), e5, if_pos (show nn 3 = (3 : Int32) from rfl), er1, xo_none, fr1, xb_some]
  · rw [fX6_renew, fg_ok hg, xb_some, if_pos (nn_in (by omega) hg), e5, if_pos (show nn 3 = (3 : Int32) from rfl), fX6_renew_j25, fr1, xb_some]
    refine Ok_bind (c_push Y hn) (fun τ hτ => ?_)
    obtain ⟨Y1, t11, t12⟩ := hτ
    refine Ok_bind (u_sendWant Y1.1 F.2.2 hm hg (by omega)) (fun u hu => Ok_let (fun τ2 e2 => Ok_some ⟨?_, ?_⟩))
    · show τ2 0 3 0 = _
      rw [e2, x_sh_eq]; exact hu.2.2.2.2.1.1
    · show Yc τ2 _ _ _ _ _ _ _
      rw [e2]; exact Yc_now Y1 (n_sn_le hn) hu
set_option maxRecDepth 16384 in
theorem c_reserve (Y : Yc σ w n S t K l x) (F : Wf B w) (hn : n ≤ 6) (hg : g < 12) (hr : r < 16) (c : w (96 + 6 * r + 4) = 0) : Ok (fL_reserve σ (nn g) (nn r)) (fun q => q.1 = (0 : Int64) ∧ Yc q.2 (n_resv w g r) (n_sn n) (n_sS w n S) t K l x) := by
  have hm := F.1.2.2.1.2
  have z := F.1.2.1.1 r hr
  have e5 := g_kept Y.1 hr
  unfold fL_reserve
  refine cn (P := fun τ => Yc τ (n_resv w g r) (n_sn n) (n_sS w n S) t K l x) ?_ ?_
  · rw [eX6_reserve, eg_ok hg, xo_none, fg_ok hg, xb_some, er_ok hr, xo_none, fr_ok hr, xb_some, if_pos (nn_in (by omega) hr), e5, if_pos ((mm_none (by omega)).mpr c), er1, xo_none, fr1, xb_some]
  · rw [fX6_reserve, fg_ok hg, xb_some, fr_ok hr, xb_some, if_pos (nn_in (by omega) hr), e5, if_pos ((mm_none (by omega)).mpr c), fX6_reserve_j29, fr1, xb_some]
    refine Ok_bind (c_push Y hn) (fun τ hτ => ?_)
    obtain ⟨Y1, t11, t12⟩ := hτ
    refine Ok_bind (u_dropRes Y1.1 F.1 hg) (fun u hu => Ok_let (fun τ2 e2 => ?_))
    rw [if_pos (nn_in (by omega) hr), nn_clamp (by omega)]
    refine Ok_let (fun τ3 e3 => Ok_some ?_)
    have hu2 : Ru (τ2 0) (n_drop w g) := by rw [e2, x_sh_eq]; exact hu.2
    have Y2 : Yc τ2 (n_drop w g) (n_sn n) (n_sS w n S) t K l x := by rw [e2]; exact Yc_now Y1 (n_sn_le hn) hu.2
    rw [e3]
    refine Yc_now Y2 (n_sn_le hn) ?_
    have k := Ru_k (y := g + 1) hu2 (by rw [n_drop_552]; exact hm) hr
    rw [mm_succ] at k
    exact k
set_option maxRecDepth 16384 in
theorem c_unreserve (Y : Yc σ w n S t K l x) (F : Wf B w) (hn : n ≤ 6) (hg : g < 12) {q : Nat} (hq : q < 16) (c : n_res w g 16 = q + 1) : Ok (fL_unreserve σ (nn g)) (fun r => r.1 = (nn q).toInt64 ∧ Yc r.2 (n_drop w g) (n_sn n) (n_sS w n S) t K l x) := by
  have er := u_reservedRoom Y.1 F.1 hg
  have dq : ¬ nn q = (-1 : Int32) := fun e => (nn_neg (a := q) (by omega)).mp (by rw [e]; decide)
  rw [c, mm_succ] at er
  unfold fL_unreserve
  refine cv (P := fun τ => Yc τ (n_drop w g) (n_sn n) (n_sS w n S) t K l x) ?_ ?_
  · rw [eX6_unreserve, eg_ok hg, xo_none, fg_ok hg, xb_some, er, xb_some, if_neg dq, er1, xo_none, fr1, xb_some]
  · rw [fX6_unreserve, fg_ok hg, xb_some, er, xb_some, if_neg dq, fr1, xb_some]
    refine Ok_bind (c_push Y hn) (fun τ hτ => ?_)
    obtain ⟨Y1, t11, t12⟩ := hτ
    refine Ok_bind (u_dropRes Y1.1 F.1 hg) (fun u hu => Ok_let (fun τ2 e2 => Ok_some ⟨?_, ?_⟩))
    · show u.1 = _
      rw [hu.1, c, mm_succ]
    · show Yc τ2 _ _ _ _ _ _ _
      rw [e2]; exact Yc_now Y1 (n_sn_le hn) hu.2
set_option maxRecDepth 16384 in
theorem c_turnGhost (Y : Yc σ w n S t K l x) (F : Wf B w) (hn : n ≤ 6) (hr : r < 16) : Ok (fL_turnGhost σ (nn r)) (fun q => q.1 = (nn (if n_tog w r (96 + 6 * r + 5) = 1 then 1 else 0)).toInt64 ∧ Yc q.2 (n_tog w r) (n_sn n) (n_sS w n S) t K l x) := by
  unfold fL_turnGhost
  refine cb (P := fun τ => Yc τ (n_tog w r) (n_sn n) (n_sS w n S) t K l x) (c := n_tog w r (96 + 6 * r + 5) = 1) ?_ ?_
  · rw [eX6_turnGhost, er_ok hr, xo_none, fr_ok hr, xb_some]
  · rw [fX6_turnGhost, fr_ok hr, xb_some]
    refine Ok_bind (c_push Y hn) (fun τ hτ => ?_)
    obtain ⟨Y1, t11, t12⟩ := hτ
    refine Ok_let (fun τ2 e2 => ?_)
    have hu : Ru (τ2 0) (n_tog w r) := by rw [e2, x_sh_eq]; exact Ru_tog Y1.1 F.1 hr
    rw [u_ghostB hu hr (fun y => some (y, τ2))]
    refine Ok_some ⟨rfl, ?_⟩
    show Yc τ2 _ _ _ _ _ _ _
    rw [e2]; exact Yc_now Y1 (n_sn_le hn) (Ru_tog Y1.1 F.1 hr)
set_option maxRecDepth 16384 in
theorem c_chg2 {i k : Nat} (h : (i = 1 ∧ k = 555) ∨ (i = 2 ∧ k = 556) ∨ (i = 3 ∧ k = 557)) (Y : Yc σ w n S t K l x) (hn : n ≤ 6) (hm : w 552 ≤ 60) : Ok (Option.bind (fX5_push σ) fun r3 => x_let (r3 0 2 i) fun x5 => x_let (x_sh r3 0 (x_hu (r3 0) 2 i (nn g))) fun τ7 => some (x5, τ7)) (fun r => r.1 = nn (w k) ∧ Yc r.2 (nu w k g) (n_sn n) (n_sS w n S) t K l x) := Ok_mono (c_chg h Y hn hm) (fun r hr => ⟨hr.1, hr.2.1⟩)
set_option maxRecDepth 16384 in
theorem c_changeLease (Y : Yc σ w n S t K l x) (hm : w 552 ≤ 60) (hn : n ≤ 6) (h1 : eX6_requireRange (nn g) (8 : Int32) (200 : Int32) = none) (h2 : fX6_requireRange (nn g) (8 : Int32) (200 : Int32) = some ()) : Ok (fL_changeLease σ (nn g)) (fun r => r.1 = (nn (w 555)).toInt64 ∧ Yc r.2 (nu w 555 g) (n_sn n) (n_sS w n S) t K l x) := by
  unfold fL_changeLease
  refine cv (P := fun τ => Yc τ (nu w 555 g) (n_sn n) (n_sS w n S) t K l x) ?_ ?_
  · rw [eX6_changeLease, h1, xo_none, h2, xb_some]
  · rw [fX6_changeLease, h2, xb_some]
    exact c_chg2 (Or.inl ⟨rfl, rfl⟩) Y hn hm
set_option maxRecDepth 16384 in
theorem c_changeHold (Y : Yc σ w n S t K l x) (hm : w 552 ≤ 60) (hn : n ≤ 6) (h1 : eX6_requireRange (nn g) (1 : Int32) (50 : Int32) = none) (h2 : fX6_requireRange (nn g) (1 : Int32) (50 : Int32) = some ()) : Ok (fL_changeHold σ (nn g)) (fun r => r.1 = (nn (w 556)).toInt64 ∧ Yc r.2 (nu w 556 g) (n_sn n) (n_sS w n S) t K l x) := by
  unfold fL_changeHold
  refine cv (P := fun τ => Yc τ (nu w 556 g) (n_sn n) (n_sS w n S) t K l x) ?_ ?_
  · rw [eX6_changeHold, h1, xo_none, h2, xb_some]
  · rw [fX6_changeHold, h2, xb_some]
    exact c_chg2 (Or.inr (Or.inl ⟨rfl, rfl⟩)) Y hn hm
set_option maxRecDepth 16384 in
theorem c_changeShut (Y : Yc σ w n S t K l x) (hm : w 552 ≤ 60) (hn : n ≤ 6) (h1 : eX6_requireRange (nn g) (1 : Int32) (200 : Int32) = none) (h2 : fX6_requireRange (nn g) (1 : Int32) (200 : Int32) = some ()) : Ok (fL_changeShut σ (nn g)) (fun r => r.1 = (nn (w 557)).toInt64 ∧ Yc r.2 (nu w 557 g) (n_sn n) (n_sS w n S) t K l x) := by
  unfold fL_changeShut
  refine cv (P := fun τ => Yc τ (nu w 557 g) (n_sn n) (n_sS w n S) t K l x) ?_ ?_
  · rw [eX6_changeShut, h1, xo_none, h2, xb_some]
  · rw [fX6_changeShut, h2, xb_some]
    exact c_chg2 (Or.inr (Or.inr ⟨rfl, rfl⟩)) Y hn hm
set_option maxRecDepth 16384 in
theorem c_deliver (Y : Yc σ w n S t K l x) (F : Wf B w) (hn : n ≤ 6) (h9 : B + 700000 ≤ 1000000000) (hp : p < w 552) : Ok (fL_deliver σ (nn p)) (fun r => r.1 = (nn (w (192 + 6 * p))).toInt64 ∧ Yc r.2 (n_handle w p) (n_sn n) (n_sS w n S) t K l x) := by
  have h1 := p_ok Y.1 F.1.2.2.1.2 hp
  unfold fL_deliver
  refine cv (P := fun τ => Yc τ (n_handle w p) (n_sn n) (n_sS w n S) t K l x) ?_ ?_
  · rw [eX6_deliver, ep_ok h1, xo_none, fp_ok h1, xb_some]
  · rw [fX6_deliver, fp_ok h1, xb_some]
    refine Ok_bind (c_push Y hn) (fun τ hτ => ?_)
    obtain ⟨Y1, t11, t12⟩ := hτ
    refine Ok_bind (u_deliverAt Y1.1 F (by omega) hp) (fun u hu => Ok_let (fun τ2 e2 => Ok_some ⟨hu.1, ?_⟩))
    show Yc τ2 _ _ _ _ _ _ _
    rw [e2]; exact Yc_now Y1 (n_sn_le hn) hu.2
set_option maxRecDepth 16384 in
theorem c_lose (Y : Yc σ w n S t K l x) (F : Wf B w) (hn : n ≤ 6) (hp : p < w 552) : Ok (fL_lose σ (nn p)) (fun r => r.1 = (nn (w (192 + 6 * p))).toInt64 ∧ Yc r.2 (n_lose w p) (n_sn n) (n_sS w n S) t K l x) := by
  have h1 := p_ok Y.1 F.1.2.2.1.2 hp
  unfold fL_lose
  refine cv (P := fun τ => Yc τ (n_lose w p) (n_sn n) (n_sS w n S) t K l x) ?_ ?_
  · rw [eX6_lose, ep_ok h1, xo_none, fp_ok h1, xb_some]
  · rw [fX6_lose, fp_ok h1, xb_some]
    refine Ok_bind (c_push Y hn) (fun τ hτ => ?_)
    obtain ⟨Y1, t11, t12⟩ := hτ
    refine Ok_bind (u_loseAt Y1.1 F.1 hp) (fun u hu => Ok_let (fun τ2 e2 => Ok_some ⟨hu.1, ?_⟩))
    show Yc τ2 _ _ _ _ _ _ _
    rw [e2]; exact Yc_now Y1 (n_sn_le hn) hu.2
set_option maxRecDepth 16384 in
theorem c_tick (Y : Yc σ w n S t K l x) (F : Wf B w) (hn : n ≤ 6) (h9 : B + 700000 ≤ 1000000000) (hg : g ≤ 100) (h1 : eX6_requireRange (nn g) (1 : Int32) (100 : Int32) = none) (h2 : fX6_requireRange (nn g) (1 : Int32) (100 : Int32) = some ()) : Ok (fL_tick σ (nn g)) (fun r => r.1 = (nn (n_go g w).1).toInt64 ∧ Yc r.2 (n_go g w).2 (n_sn n) (n_sS w n S) t K l x) := by
  unfold fL_tick
  refine cv (P := fun τ => Yc τ (n_go g w).2 (n_sn n) (n_sS w n S) t K l x) ?_ ?_
  · rw [eX6_tick, h1, xo_none, h2, xb_some]
  · rw [fX6_tick, h2, xb_some]
    refine Ok_bind (c_push Y hn) (fun τ hτ => ?_)
    obtain ⟨Y1, t11, t12⟩ := hτ
    refine Ok_bind (u_letTicksGo Y1.1 F hg (by omega)) (fun u hu => Ok_let (fun τ2 e2 => Ok_some ⟨hu.1, ?_⟩))
    show Yc τ2 _ _ _ _ _ _ _
    rw [e2]; exact Yc_now Y1 (n_sn_le hn) hu.2
set_option maxRecDepth 16384 in
theorem c_deliverAll (Y : Yc σ w n S t K l x) (F : Wf B w) (hn : n ≤ 6) (h9 : B + 700000 ≤ 1000000000) : Ok (fX6_deliverAll σ) (fun r => r.1 = nn (n_each w).1 ∧ Yc r.2 (n_each w).2 (n_sn n) (n_sS w n S) t K l x) := by
  rw [fX6_deliverAll]
  refine Ok_bind (c_push Y hn) (fun τ hτ => ?_)
  obtain ⟨Y1, t11, t12⟩ := hτ
  refine Ok_bind (u_deliverEach Y1.1 F (by omega)) (fun u hu => Ok_let (fun τ2 e2 => Ok_some ⟨hu.1, ?_⟩))
  show Yc τ2 _ _ _ _ _ _ _
  rw [e2]; exact Yc_now Y1 (n_sn_le hn) hu.2
set_option maxRecDepth 16384 in
theorem s_append (Y : YcX σ l x) (hl : l = 60) (h1 : eX6_requireRange (nn g) (33 : Int32) (126 : Int32) = none) (h2 : fX6_requireRange (nn g) (33 : Int32) (126 : Int32) = some ()) : fL_append σ (nn g) = some (XS, σ) := by
  unfold fL_append
  exact qx (e := (2, σ)) (by rw [eX6_append, h1, xo_none, h2, xb_some, Y.1, if_pos (show (60 : Int32) ≤ nn l from (nn_le (a := 60) (by omega) (by omega)).mpr (by omega)), er0, xo_some]) rfl
set_option maxRecDepth 16384 in
theorem c_append (Y : Yc σ w n S t K l x) (hn : n ≤ 6) (hl : l < 60) (hg : g < 127) (h1 : eX6_requireRange (nn g) (33 : Int32) (126 : Int32) = none) (h2 : fX6_requireRange (nn g) (33 : Int32) (126 : Int32) = some ()) : Ok (fL_append σ (nn g)) (fun r => r.1 = (nn (l + 1)).toInt64 ∧ Yc r.2 w n S t K (l + 1) (nu x l g)) := by
  have e37 : σ 10 37 0 = nn l := Y.2.2.2.1
  have c2 : ¬ (60 : Int32) ≤ nn l := fun h => by have := (nn_le (a := 60) (by omega) (by omega)).mp h; omega
  unfold fL_append
  refine cv (P := fun τ => Yc τ w n S t K (l + 1) (nu x l g)) ?_ ?_
  · rw [eX6_append, h1, xo_none, h2, xb_some, e37, if_neg c2, er1, xo_none, fr1, xb_some]
  · rw [fX6_append, h2, xb_some, e37, if_neg c2, fr1, xb_some, ch_get g (by omega), fX0_add, e37, if_neg (fun h => (nn_neg (by omega)).mp h), if_neg c2, if_pos (nn_in (by omega) (by omega)), nn_clamp (by omega), ch_nar g (by omega)]
    refine Ok_bind (T := fun u => (∀ k i, k ≠ 37 → k ≠ 38 → u k i = σ 10 k i) ∧ u 37 0 = nn (l + 1) ∧ ∀ i, i < l + 1 → u 38 i = nn (nu x l g i)) (Ok_let (fun u3 e3 => Ok_let (fun u6 e6 => Ok_some ⟨fun k i k1 k2 => ?_, ?_, fun i hi => ?_⟩))) (fun u hu => Ok_let (fun τ2 e2 => Ok_some ⟨?_, ?_⟩))
    · rw [e6, x_hu_ne k1, e3, x_hu_ne k2]
    · rw [e6, x_hu_eq rfl rfl, e3, x_hu_ne (by omega), e37]; exact nn_add l 1
    · rw [e6, x_hu_ne (by omega), e3]
      by_cases c3 : i = l
      · rw [x_hu_eq rfl c3, nu_eq1 c3]
      · rw [x_hu_ni c3, nu_ne1 c3]; exact Y.2.2.2.2 i (by omega)
    · show τ2 10 37 0 = _
      rw [e2, x_sh_eq]; exact hu.2.1
    · show Yc τ2 _ _ _ _ _ _ _
      rw [e2]; exact Yc_x Y hn hu.1 hu.2.1 hu.2.2
set_option maxRecDepth 16384 in
theorem c_clear (Y : Yc σ w n S t K l x) (hn : n ≤ 6) : Ok (fX6_clearBuffer σ) (fun r => r.1 = nn l ∧ Yc r.2 w n S t K 0 x) := by
  have e37 : σ 10 37 0 = nn l := Y.2.2.2.1
  rw [fX6_clearBuffer]
  refine Ok_let (fun x1 e1 => Ok_let (fun τ2 e2 => Ok_some ⟨?_, ?_⟩))
  · show x1 = _
    rw [e1, e37]
  · show Yc τ2 _ _ _ _ _ _ _
    rw [e2]
    exact Yc_x Y hn (fun k i k1 k2 => x_hu_ne k1) (x_hu_eq rfl rfl) (fun i hi => absurd hi (by omega))
set_option maxRecDepth 16384 in
theorem c_keep (Y : Yc σ w n S t K l x) (hn : n ≤ 6) (hs : s < 2) (h1 : eX6_requireRange (nn s) (0 : Int32) (1 : Int32) = none) (h2 : fX6_requireRange (nn s) (0 : Int32) (1 : Int32) = some ()) : Ok (fL_keep σ (nn s)) (fun r => r.1 = (0 : Int64) ∧ Yc r.2 w n S (nu t s 1) (fun i => if i = s then w else K i) l x) := by
  obtain ⟨Y1, ⟨Y2, g, Y3, Y4, Y5⟩, Y6, Y7, Y8⟩ := Y
  have y6 := Y6 s hs
  unfold fL_keep
  refine cn (P := fun τ => Yc τ w n S (nu t s 1) (fun i => if i = s then w else K i) l x) ?_ ?_
  · rw [eX6_keep, h1, xo_none, h2, xb_some]
  · rw [fX6_keep, h2, xb_some, if_pos (nn_in (by omega) hs), nn_clamp (by omega), y6.1, x_let_n, nn_clamp (by omega), if_pos (by omega), if_pos (by omega)]
    refine Ok_let (fun τ1 e1 => Ok_let (fun τ2 e2 => Ok_some ⟨?_, ⟨?_, g, fun i hi => ?_, Y4, fun i hi => ?_⟩, fun s' hs' => ?_, ?_, fun i hi => ?_⟩))
    · rw [e2, x_sh_ne _ _ (by omega), e1, x_sh_ne _ _ (by omega)]; exact Y1
    · rw [e2, x_sh_eq, x_hu_ne (by omega), e1, x_sh_ne _ _ (by omega)]; exact Y2
    · rw [e2, x_sh_eq, x_hu_ne (by omega), e1, x_sh_ne _ _ (by omega)]; exact Y3 i hi
    · have q := Y3 i (by omega)
      rw [e2, x_sh_ne _ _ (by omega), e1, x_sh_ne _ _ (by omega)]; exact Y5 i hi
    · obtain ⟨a1, a2, a3⟩ := Y6 s' hs'
      show τ2 10 35 s' = _ ∧ τ2 10 36 s' = nn (nu t s 1 s') ∧ (nu t s 1 s' = 1 → Ru (τ2 (8 + s')) (if s' = s then w else K s'))
      have e10 : τ1 10 = σ 10 := by rw [e1, x_sh_ne _ _ (by omega)]
      refine ⟨by rw [e2, x_sh_eq, x_hu_ne (by omega), e10]; exact a1, ?_, fun e => ?_⟩
      · rw [e2, x_sh_eq]
        by_cases c : s' = s
        · rw [x_hu_eq rfl c, nu_eq1 c]; exact vpb1
        · rw [x_hu_ni c, nu_ne1 c, e10]; exact a2
      · rw [e2, x_sh_ne _ _ (by omega), e1]
        by_cases c : s' = s
        · rw [c, x_sh_eq, if_pos rfl]; exact Y1
        · rw [nu_ne1 c] at e
          rw [x_sh_ne _ _ (by omega), if_neg c]; exact a3 e
    · rw [e2, x_sh_eq, x_hu_ne (by omega), e1, x_sh_ne _ _ (by omega)]; exact Y7
    · rw [e2, x_sh_eq, x_hu_ne (by omega), e1, x_sh_ne _ _ (by omega)]; exact Y8 i hi
set_option maxRecDepth 16384 in
theorem c_goBack (Y : Yc σ w n S t K l x) (hn : n ≤ 6) (hs : s < 2) (c : t s = 1) (h1 : eX6_requireRange (nn s) (0 : Int32) (1 : Int32) = none) (h2 : fX6_requireRange (nn s) (0 : Int32) (1 : Int32) = some ()) : Ok (fL_goBack σ (nn s)) (fun r => r.1 = (0 : Int64) ∧ Yc r.2 (K s) (n_sn n) (n_sS w n S) t K l x) := by
  have e36 : σ 10 36 (Int32.toNatClampNeg (nn s)) = nn (t s) := by rw [nn_clamp (by omega)]; exact (Y.2.2.1 s hs).2.1
  rw [c] at e36
  unfold fL_goBack
  refine cn (P := fun τ => Yc τ (K s) (n_sn n) (n_sS w n S) t K l x) ?_ ?_
  · rw [eX6_goBack, h1, xo_none, h2, xb_some, if_pos (nn_in (by omega) hs), e36, show eX6_require (nn 1) = none from er1, xo_none, show fX6_require (nn 1) = some () from fr1, xb_some]
  · rw [fX6_goBack, h2, xb_some, if_pos (nn_in (by omega) hs), e36, show fX6_require (nn 1) = some () from fr1, xb_some]
    refine Ok_bind (c_push Y hn) (fun τ hτ => ?_)
    obtain ⟨Y1, t11, t12⟩ := hτ
    have y6 := Y1.2.2.1 s hs
    rw [nn_clamp (by omega), y6.1, x_let_n, nn_clamp (by omega), if_pos (by omega), if_pos (by omega)]
    refine Ok_let (fun τ2 e2 => Ok_some ?_)
    rw [e2]; exact Yc_now Y1 (n_sn_le hn) (y6.2.2 c)
set_option maxRecDepth 16384 in
theorem c_undo (Y : Yc σ w n S t K l x) (hn : n ≤ 6) (c : n ≠ 0) : Ok (fL_undo σ) (fun r => r.1 = (0 : Int64) ∧ Yc r.2 (S (n - 1)) (n - 1) S t K l x) := by
  have e33 : σ 10 33 0 = nn n := Y.2.1.1
  have c2 : ¬ nn n ≤ (0 : Int32) := fun h => by have := (nn_le (b := 0) (by omega) (by omega)).mp h; omega
  have e1 : nn n - (1 : Int32) = nn (n - 1) := nn_sub (b := 1) (by omega)
  unfold fL_undo
  refine cn (P := fun τ => Yc τ (S (n - 1)) (n - 1) S t K l x) ?_ ?_
  · rw [eX6_undo, e33, if_neg c2, er1, xo_none, fr1, xb_some]
  · obtain ⟨Y1, ⟨Y2, g, Y3, Y4, Y5⟩, Y6, Y7, Y8⟩ := Y
    have q := Y3 (n - 1) (by omega)
    have q2 := Y5 (n - 1) (by omega)
    have ea : ∀ u : x_H, x_hu u 33 0 (nn (n - 1)) 33 0 = nn (n - 1) := fun u => x_hu_eq rfl rfl
    rw [fX6_undo, e33, if_neg c2, fr1, xb_some, fX5_popTo, e33, if_neg c2, if_neg (fun h => by have := (nn_lt (a := 6) (by omega) (by omega)).mp h; omega), e1]
    refine Ok_bind (T := fun τ => Yc τ (S (n - 1)) (n - 1) S t K l x) (Ok_let (fun τ3 e3 => ?_)) (fun τ hτ => Ok_some hτ)
    have e4 : τ3 10 33 0 = nn (n - 1) := by rw [e3, x_sh_eq, ea]
    have e5 : τ3 10 34 (n - 1) = nn (g (n - 1)) := by rw [e3, x_sh_eq, x_hu_ne (by omega)]; exact q.1
    rw [e4, if_pos (nn_in (by omega) (by omega)), nn_clamp (by omega), e5, x_let_n, nn_clamp (by omega), if_pos (by omega), if_pos (by omega)]
    refine Ok_let (fun τ e => Ok_some ⟨?_, ⟨?_, g, fun i hi => ?_, Y4, fun i hi => ?_⟩, fun s' hs' => ?_, ?_, fun i hi => ?_⟩)
    · rw [e, x_sh_eq, e3, x_sh_ne _ _ (by omega)]; exact q2
    · rw [e, x_sh_ne _ _ (by omega), e4]
    · rw [e, x_sh_ne _ _ (by omega), e3, x_sh_eq, x_hu_ne (by omega)]; exact Y3 i hi
    · have q3 := Y3 i (by omega)
      rw [e, x_sh_ne _ _ (by omega), e3, x_sh_ne _ _ (by omega)]; exact Y5 i (by omega)
    · obtain ⟨a1, a2, a3⟩ := Y6 s' hs'
      refine ⟨?_, ?_, fun h => ?_⟩
      · rw [e, x_sh_ne _ _ (by omega), e3, x_sh_eq, x_hu_ne (by omega)]; exact a1
      · rw [e, x_sh_ne _ _ (by omega), e3, x_sh_eq, x_hu_ne (by omega)]; exact a2
      · rw [e, x_sh_ne _ _ (by omega), e3, x_sh_ne _ _ (by omega)]; exact a3 h
    · rw [e, x_sh_ne _ _ (by omega), e3, x_sh_eq, x_hu_ne (by omega)]; exact Y7
    · rw [e, x_sh_ne _ _ (by omega), e3, x_sh_eq, x_hu_ne (by omega)]; exact Y8 i hi
end CC
