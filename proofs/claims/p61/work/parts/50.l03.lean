/-! ===== the class's own answers, the hash, a course ===== -/
section CD
variable {B n l g r p s : Nat} {σ : x_S} {w : Nat → Nat} {S K : Nat → Nat → Nat} {t x : Nat → Nat} {a a2 : Int32}
set_option maxRecDepth 16384 in
theorem q_messages (R : Ru (σ 0) w) : fX6_messages σ = some (nn (w 552)) := by rw [fX6_messages]; exact congrArg some R.2.2.2.2.1.1
set_option maxRecDepth 16384 in
theorem q_time (R : Ru (σ 0) w) : fX6_time σ = some (nn (w 554)) := by rw [fX6_time]; exact congrArg some R.2.2.2.2.2.1.1
set_option maxRecDepth 16384 in
theorem q_lost (R : Ru (σ 0) w) : fX6_lost σ = some (nn (w 558)) := by rw [fX6_lost]; exact congrArg some R.2.2.2.2.2.1.2.2.1
set_option maxRecDepth 16384 in
theorem q_delivered (R : Ru (σ 0) w) : fX6_delivered σ = some (nn (w 559)) := by rw [fX6_delivered]; exact congrArg some R.2.2.2.2.2.1.2.2.2.1
set_option maxRecDepth 16384 in
theorem q_leases (R : Ru (σ 0) w) : fX6_leases σ = some (nn (w 560)) := by rw [fX6_leases]; exact congrArg some R.2.2.2.2.2.1.2.2.2.2.1
set_option maxRecDepth 16384 in
theorem q_hold (R : Ru (σ 0) w) : fX6_holdTicks σ = some (nn (w 556)) := by rw [fX6_holdTicks]; exact congrArg some R.2.2.2.2.2.2.1.2.1
set_option maxRecDepth 16384 in
theorem q_housed (R : Ru (σ 0) w) (F : Wf B w) : fX6_housed σ = some (nn (n_hs 12 w)) := by rw [fX6_housed, u_inRooms R.1 F.1.1, xb_some]
set_option maxRecDepth 16384 in
theorem q_leasedR (R : Ru (σ 0) w) (F : Wf B w) : fX6_leasedByRooms σ = some (nn (n_cn w 2 16)) := by rw [fX6_leasedByRooms, show (2 : Int32) = nn 2 from rfl, u_rooms R.2.1 F.1 (by omega), xb_some]
set_option maxRecDepth 16384 in
theorem q_leasedG (R : Ru (σ 0) w) (F : Wf B w) : fX6_leasedByGuests σ = some (nn (n_cn w 2 16)) := by rw [fX6_leasedByGuests, u_leased R.2.2.1 F.1, xb_some]
set_option maxRecDepth 16384 in
theorem q_free (R : Ru (σ 0) w) (F : Wf B w) : fX6_freeRooms σ = some (nn (n_cn w 0 16)) := by rw [fX6_freeRooms, show (0 : Int32) = nn 0 from rfl, u_rooms R.2.1 F.1 (by omega), xb_some]
set_option maxRecDepth 16384 in
theorem q_saved (Y : YcS σ n S) : fX6_savedStates σ = some (nn n) := by rw [fX6_savedStates, Y.1]
set_option maxRecDepth 16384 in
theorem q_in {k lo hi : Nat} {lo' hi' : Int64} (hk : k < 2147483648) (hl : lo'.toInt = lo) (hh : hi'.toInt = hi) : fL_in (nn k).toInt64 lo' hi' = some (nn (if lo ≤ k ∧ k ≤ hi then 1 else 0)) := by
  rw [fL_in]
  by_cases c1 : k < lo
  · rw [if_pos ((lg_lt0 _ _).mpr (by rw [nn_to64 hk, hl]; omega)), if_neg (by omega)]; rfl
  · rw [if_neg (fun h => by have := (lg_lt0 _ _).mp h; rw [nn_to64 hk, hl] at this; omega)]
    by_cases c2 : hi < k
    · rw [if_pos ((lg_gt0 _ _).mpr (by rw [nn_to64 hk, hh]; omega)), if_neg (by omega)]; rfl
    · rw [if_neg (fun h => by have := (lg_gt0 _ _).mp h; rw [nn_to64 hk, hh] at this; omega), if_pos (by omega)]; rfl
set_option maxRecDepth 16384 in
theorem q_in1 {k lo hi : Nat} {lo' hi' : Int64} (hk : k < 2147483648) (hl : lo'.toInt = lo) (hh : hi'.toInt = hi) (h : lo ≤ k ∧ k ≤ hi) : fL_in (nn k).toInt64 lo' hi' = some (nn 1) := by rw [q_in hk hl hh, if_pos h]
set_option maxRecDepth 16384 in
theorem c_wouldDeliver (Y : Yc σ w n S t K l x) (hn : n ≤ 6) (F : Wf B w) (h9 : B + 700000 ≤ 1000000000) : Ok (fX6_wouldDeliver σ) (fun r => r.1 = nn (n_each w).1 ∧ ∀ i, i ≠ 1 → r.2 i = σ i) := by
  rw [fX6_wouldDeliver]
  exact Ok_bind (c_try Y hn F (by omega)) (fun r hr => Ok_some ⟨hr.1, hr.2.2⟩)
set_option maxRecDepth 16384 in
theorem c_wouldHouse (Y : Yc σ w n S t K l x) (hn : n ≤ 6) (F : Wf B w) (h9 : B + 700000 ≤ 1000000000) : Ok (fX6_wouldHouse σ) (fun r => r.1 = nn (n_hs 12 (n_each w).2) ∧ ∀ i, i ≠ 1 → r.2 i = σ i) := by
  rw [fX6_wouldHouse]
  refine Ok_bind (c_try Y hn F (by omega)) (fun r hr => ?_)
  rw [u_inRooms hr.2.1.1 (Wf_each F (by omega)).1.1.1, xb_some]
  exact Ok_some ⟨rfl, hr.2.2⟩
def n_dig (w : Nat → Nat) (n : Nat) (t : Nat → Nat) (l : Nat) (x : Nat → Nat) : Int64 := n_tail w (n_each w).2 (n_each w).1 n t l x (n_hA w 7 (mx (n_hM w (w 552) (mx (n_hR w 16 (n_hG w 12 (4409 : Int64))) (w 552))) (w 554)))
set_option maxRecDepth 16384 in
theorem c_digest (Y : Yc σ w n S t K l x) (hn : n ≤ 6) (F : Wf B w) (h9 : B + 700000 ≤ 1000000000) (ht : ∀ s, s < 2 → t s ≤ 1) (hl : l ≤ 60) : Ok (fX6_digest σ) (fun r => r.1 = n_dig w n t l x ∧ ∀ i, i ≠ 1 → r.2 i = σ i) := by
  have hm := F.1.2.2.1.2
  have E := Wf_each F (by omega)
  have z := n_cn_le w 2 16
  unfold n_dig
  rw [fX6_digest, fX6_mixGuests, show (0 : Int32) = nn (12 - 12) from rfl, u_hG Y.1 F 12 400 _ (by omega) (by omega), xb_some, fX6_mixRooms, show (0 : Int32) = nn (16 - 16) from rfl]
  refine Ok_bind (u_hR Y.1 F 16 400 _ (by omega) (by omega)) (fun r3 h3 => ?_)
  obtain ⟨a1, a2⟩ := h3
  have Y3 := Yc_1 Y hn a2
  have q3 : r3.2 0 3 0 = nn (w 552) := Y3.1.2.2.2.2.1.1
  have q0 : r3.2 0 0 0 = nn (w 554) := Y3.1.2.2.2.2.2.1.1
  rw [a1, fX6_mixMessages, q3, mx6, xb_some, show (0 : Int32) = nn 0 from rfl, u_hM Y3.1 hm (w 552) 400 0 _ (by omega) (by omega), xb_some, fX6_mixAccounts, q0, mx6, xb_some, show (0 : Int32) = nn (7 - 7) from rfl, u_hA Y3.1 7 400 _ (by omega) (by omega), xb_some]
  refine Ok_bind (c_try Y3 hn F (by omega)) (fun r9 h9 => ?_)
  obtain ⟨b1, b2, b3⟩ := h9
  have Y9 := Yc_1 Y3 hn b3
  have q9 : r9.2 10 33 0 = nn n := Y9.2.1.1
  have q2 : fX3_countRooms (r9.2 0) (2 : Int32) = some (nn (n_cn w 2 16)) := u_rooms Y9.1.2.1 F.1 (s := 2) (by omega)
  rw [b1, mx6, xb_some, u_inRooms b2.1 E.1.1.1, xb_some, mx6, xb_some, q9, mx6, xb_some, q2, xb_some, n_bit6 (by omega), xb_some, fX6_mix, xb_some, u_hS Y9 ht hl, xb_some]
  exact Ok_some ⟨rfl, fun i hi => (b3 i hi).trans (a2 i hi)⟩
def n_fe (x : Nat → Nat) (l : Nat) (w : Nat → Nat) : Nat := if (n_tx x l 61 0 1 w).1 = 0 then (n_tx x l 61 0 1 w).2.1 else l
set_option maxRecDepth 16384 in
theorem c_firstError (Y : Yc σ w n S t K l x) (hn : n ≤ 6) (F : Wf B w) (hx : l ≤ 60 ∧ ∀ i, i < l → 33 ≤ x i ∧ x i ≤ 126) (H : B + 600200 * l + 700000 ≤ 1000000000) : Ok (fX6_firstError σ) (fun r => r.1 = nn (n_fe x l w) ∧ Yc r.2 w n S t K l x) := by
  have X : CX (σ 10) l x := ⟨Y.2.2.2.1, Y.2.2.2.2, hx.1, hx.2⟩
  have N0 := n_tx_is (x := x) (l := l) 61 B 0 l 1 w (by omega) (by omega) (by omega) F H
  rw [fX6_firstError]
  refine Ok_bind (e_errorAt X w 1) (fun r hr => Ok_let (fun τ3 e3 => Ok_some ⟨?_, ?_⟩))
  · show r.1 = _
    unfold n_fe
    by_cases hg : (n_tx x l 61 0 1 w).1 = 0
    · rw [if_pos hg]; exact (hr.2.2 hg).1
    · rw [if_neg hg]; exact (hr.2.1 (by omega)).1
  · show Yc τ3 _ _ _ _ _ _ _
    rw [e3]; exact Yc_t Y hn hr.1
set_option maxRecDepth 16384 in
theorem c_play (Y : Yc σ w n S t K l x) (hn : n ≤ 6) (F : Wf B w) (hx : l ≤ 60 ∧ ∀ i, i < l → 33 ≤ x i ∧ x i ≤ 126) (H : B + 600200 * l + 700000 ≤ 1000000000) : Ok (fL_play σ) (fun r =>
    ((n_tx x l 61 0 1 w).1 = 0 → r.1 = XA ∧ Yc r.2 w n S t K l x) ∧
    ((n_tx x l 61 0 1 w).1 = 1 → (n_tx x l 61 0 1 w).2.2.1 = 0 → r.1 = XS ∧ Yc r.2 w n S t K l x) ∧
    ((n_tx x l 61 0 1 w).1 = 1 → (n_tx x l 61 0 1 w).2.2.1 = 1 → r.1 = (nn (n_hs 12 (n_tx x l 61 0 1 w).2.2.2)).toInt64 ∧ Yc r.2 (n_tx x l 61 0 1 w).2.2.2 (n_sn n) (n_sS w n S) t K 0 x)) := by
  have X : CX (σ 10) l x := ⟨Y.2.2.2.1, Y.2.2.2.2, hx.1, hx.2⟩
  obtain ⟨N1, N2, N3, N4, N5⟩ := n_tx_is (x := x) (l := l) 61 B 0 l 1 w (by omega) (by omega) (by omega) F H
  obtain ⟨r1, er1', hr1, hr2⟩ := e_tells X w 1 ⟨N1, N2⟩
  have PL := fun (σ0 τ : x_S) (u0 : x_H) (X0 : CX u0 l x) => o_all (σ0 := σ0) X0 61 400 B 0 l w τ (by omega) (by omega) (by omega) F H
  generalize n_tx x l 61 0 1 w = T at *
  obtain ⟨g, a', o, w'⟩ := T
  have N1 : g ≤ 1 := N1
  have N3 : o ≤ 1 := N3
  have N4 : Wf (B + 600200 * l) w' := N4
  have hr1 : r1.1 = nn g := hr1
  obtain ⟨τ3, e3⟩ : ∃ τ3, τ3 = x_sh σ 10 r1.2 := ⟨_, rfl⟩
  have Y3 : Yc τ3 w n S t K l x := by rw [e3]; exact Yc_t Y hn hr2
  unfold fL_play
  by_cases hg : g = 0
  · rw [hg] at hr1
    refine ⟨_, qx (e := (1, τ3)) ?_ rfl, fun _ => ⟨rfl, Y3⟩, fun h => absurd (hg.symm.trans h) (by decide), fun h => absurd (hg.symm.trans h) (by decide)⟩
    rw [eX6_play, er1', xb_some]
    show (if r1.1 = 0 then _ else _) = _
    rw [hr1, if_pos (show nn 0 = (0 : Int32) from rfl), e3]
  · have hg1 : g = 1 := by omega
    rw [hg1] at hr1
    obtain ⟨τ6, e6⟩ : ∃ τ6, τ6 = x_sh τ3 1 (τ3 0) := ⟨_, rfl⟩
    have t6 : ∀ i, i ≠ 1 → τ6 i = τ3 i := fun i hi => by rw [e6, x_sh_ne _ _ hi]
    have Y6 : Yc τ6 w n S t K l x := Yc_1 Y3 hn t6
    have t610 : Tg (τ6 10) (σ 10) := by rw [t6 10 (by omega), e3, x_sh_eq]; exact hr2
    have hP : Ok (fX0_playOn τ6) (Po τ6 (σ 10) o w') := by
      rw [fX0_playOn]
      refine Ok_bind (r_begin t610) (fun r hr => Ok_let (fun τ7 e7 => ?_))
      refine PL τ6 τ7 (σ 10) X (fun j j1 j2 => by rw [e7, x_sh_ne _ _ j2]) (by rw [e7, x_sh_eq]; exact hr) ?_ hg1
      rw [e7, x_sh_ne _ _ (by omega), e6, x_sh_eq]
      exact Y3.1
    obtain ⟨r8, er8, p1, p2, p3, p4⟩ := hP
    have Y8 : Yc r8.2 w n S t K l x := Yc_of Y6 hn (p1 0 (by omega) (by omega)) (fun j j1 j2 => p1 j (by omega) (by omega)) (fun k i hk => by rw [p2 k i hk, t610 k i hk])
    have hx_in : ∀ (f : x_S → Option (Nat × x_S)), (Option.bind (fX0_tellsCourse (σ 10)) fun r1 => x_let (x_sh σ 10 r1.2) fun τ3 => (if r1.1 = 0 then some (1, τ3) else x_let (x_sh τ3 1 (τ3 0)) f)) = f τ6 := by
      intro f
      rw [er1', xb_some]
      show (if r1.1 = 0 then _ else _) = _
      rw [hr1, if_neg (show ¬ nn 1 = (0 : Int32) from nn_one), e6, e3]
      rfl
    by_cases ho : o = 0
    · have q4 := p4 ho
      refine ⟨_, qx (e := (2, r8.2)) ?_ rfl, fun h => absurd (hg1.symm.trans h) (by decide), fun _ _ => ⟨rfl, Y8⟩, fun _ h => absurd (ho.symm.trans h) (by decide)⟩
      rw [eX6_play, hx_in, er8, xb_some, q4, show eX6_require (nn 0) = some 2 from er0, xo_some]
    · have ho1 : o = 1 := by omega
      obtain ⟨q3, q5⟩ := p3 ho1
      refine Ok_mono (cv (y := nn (n_hs 12 w')) (P := fun τ => Yc τ w' (n_sn n) (n_sS w n S) t K 0 x) ?_ ?_) (fun r hr => ⟨fun h => absurd (hg1.symm.trans h) (by decide), fun _ h => absurd (ho1.symm.trans h) (by decide), fun _ _ => hr⟩)
      · rw [eX6_play, hx_in, er8, xb_some, q3, show eX6_require (nn 1) = none from er1, xo_none, show fX6_require (nn 1) = some () from fr1, xb_some]
      · have hx_f : ∀ (f : x_S → Option (Int32 × x_S)), (Option.bind (fX0_tellsCourse (σ 10)) fun r1 => x_let (x_sh σ 10 r1.2) fun τ3 => (if r1.1 = 0 then none else x_let (x_sh τ3 1 (τ3 0)) f)) = f τ6 := by
          intro f
          rw [er1', xb_some]
          show (if r1.1 = 0 then _ else _) = _
          rw [hr1, if_neg (show ¬ nn 1 = (0 : Int32) from nn_one), e6, e3]
          rfl
        rw [fX6_play, hx_f, er8, xb_some, q3, show fX6_require (nn 1) = some () from fr1, xb_some]
        refine Ok_bind (c_push Y8 hn) (fun τ hτ => ?_)
        obtain ⟨Y1, t11, t12, t1⟩ := hτ
        refine Ok_let (fun τ14 e14 => Ok_let (fun τ16 e16 => ?_))
        have R1 : Ru (τ 1) w' := by rw [t1]; exact q5
        have Y14 : Yc τ14 w' (n_sn n) (n_sS w n S) t K l x := by rw [e14]; exact Yc_now Y1 (n_sn_le hn) R1
        have Y16 : Yc τ16 w' (n_sn n) (n_sS w n S) t K 0 x := by
          rw [e16]
          exact Yc_x Y14 (n_sn_le hn) (fun k i k1 k2 => x_hu_ne k1) (x_hu_eq rfl rfl) (fun i hi => absurd hi (Nat.not_lt_zero i))
        rw [u_inRooms Y16.1.1 N4.1.1, xb_some]
        exact Ok_some ⟨rfl, Y16⟩
end CD
