set_option maxRecDepth 16384 in
theorem Wf_do {B : Nat} {w : Nat → Nat} (F : Wf B w) (h9 : B + 700000 ≤ 1000000000) {c v : Nat} (hc : n_L c) (hv : v ≤ n_hi c) (h : n_ok w c v) : Wf (B + 600100) (n_do w c v) := by
  unfold n_hi at hv
  rcases hc with rfl | rfl | rfl | rfl | rfl | rfl
  · rw [if_neg (by decide), if_neg (by decide)] at hv
    exact Wf_up (Wf_seek F (g := v) (by omega) (by omega)) (by omega) (by omega)
  · rw [if_neg (by decide), if_neg (by decide)] at hv
    exact Wf_up (Wf_leave F (g := v) (by omega) (by omega)) (by omega) (by omega)
  · rw [if_neg (by decide), if_neg (by decide)] at hv
    exact Wf_up (Wf_want F (g := v) (by omega) (by omega)) (by omega) (by omega)
  · exact Wf_up (Wf_handle F (p := v) (by omega) (by omega)) (by omega) (by omega)
  · exact Wf_up (Wf_lose F (p := v) (by omega) (by omega)) (by omega) (by omega)
  · rw [if_pos rfl] at hv
    exact (v_goTicks (v := fun i => nn (w i)) (fun i _ => rfl) F hv h9).2.1
set_option maxRecDepth 16384 in
theorem Wf_ef {B : Nat} {w : Nat → Nat} (F : Wf B w) (h9 : B + 700000 ≤ 1000000000) {c v : Nat} (hc : n_L c) (hv : v ≤ n_hi c) (o : Nat) : Wf (B + 600100) (n_ef o w c v).2 ∧ (n_ef o w c v).1 ≤ 1 := by
  by_cases h : o = 1 ∧ n_ok w c v
  · rw [n_ef_y h]; exact ⟨Wf_do F h9 hc hv h.2, Nat.le_refl _⟩
  · rw [n_ef_n h]; exact ⟨Wf_up F (by omega) (by omega), Nat.zero_le _⟩
set_option maxRecDepth 16384 in
theorem n_pt_is {x : Nat → Nat} {l p : Nat} (hp : p ≤ l) : (n_pt x l p).1 ≤ 1 ∧ p ≤ (n_pt x l p).2.1 ∧ (n_pt x l p).2.1 ≤ l ∧ ((n_pt x l p).1 = 1 → p < (n_pt x l p).2.1 ∧ n_L (n_pt x l p).2.2.1 ∧ n_lo (n_pt x l p).2.2.1 ≤ (n_pt x l p).2.2.2 ∧ (n_pt x l p).2.2.2 ≤ n_hi (n_pt x l p).2.2.1) := by
  unfold n_pt
  by_cases c : p < l ∧ n_L (x p)
  · rw [if_pos c]
    have h1 := n_hi_is (x p)
    have N := n_num_is (x := x) (l := l) (p := p + 1) (lo := n_lo (x p)) (m := n_hi (x p)) (by omega) (by omega) (n_lo_is _)
    exact ⟨N.1, by have := N.2.1; show p ≤ (n_num x l (p + 1) (n_lo (x p)) (n_hi (x p))).2.1; omega, N.2.2.1, fun h => ⟨by have := (N.2.2.2.2 h).1; show p < (n_num x l (p + 1) (n_lo (x p)) (n_hi (x p))).2.1; omega, c.2, (N.2.2.2.2 h).2, N.2.2.2.1⟩⟩
  · rw [if_neg c]
    exact ⟨Nat.zero_le _, Nat.le_refl _, hp, fun h => absurd (show (0 : Nat) = 1 from h) (by decide)⟩
set_option maxRecDepth 16384 in
theorem lit {k : Nat} (h : k < 1000) {j : Nat} (hj : j < 1000) (hne : k ≠ j) : ¬ nn k = nn j := fun e => hne ((nn_is j h hj).mp e)
section
variable {l p g o q m lo : Nat} {x : Nat → Nat} {u u0 : x_H} {w w' : Nat → Nat}
set_option maxRecDepth 16384 in
theorem t_part {B : Nat} (X : TX u0 l x) (hp : p ≤ l) (ho : o ≤ 1) (F : Wf B w) (h9 : B + 700000 ≤ 1000000000) (T : Ts u u0 p 1 o w) : Ok (fX7_readPart u) (fun r => Ts r u0 (n_pt x l p).2.1 (n_pt x l p).1 (n_pe (n_pt x l p).1 o w (n_pt x l p).2.2.1 (n_pt x l p).2.2.2).1 (n_pe (n_pt x l p).1 o w (n_pt x l p).2.2.1 (n_pt x l p).2.2.2).2) := by
  have hm := F.1.2.2.1.2
  rw [fX7_readPart, t_here X T hp, xb_some, n_pt]
  by_cases hL : p < l ∧ n_L (x p)
  · rw [if_pos hL, if_pos hL.1, mm_succ]
    obtain ⟨hpl, hL⟩ := hL
    have xp := X.2.2.2 p hpl
    generalize x p = c at *
    -- guests
    have JG : (c = 115 ∨ c = 103 ∨ c = 114) → Ok (fX7_readPart_j25 u (nn c)) (fun r => Ts r u0 (n_num x l (p + 1) (n_lo c) (n_hi c)).2.1 (n_num x l (p + 1) (n_lo c) (n_hi c)).1 (n_pe (n_num x l (p + 1) (n_lo c) (n_hi c)).1 o w c (n_num x l (p + 1) (n_lo c) (n_hi c)).2.2).1 (n_pe (n_num x l (p + 1) (n_lo c) (n_hi c)).1 o w c (n_num x l (p + 1) (n_lo c) (n_hi c)).2.2).2) := by
      intro hc
      have e1 : n_lo c = 0 := if_neg (by omega)
      have e2 : n_hi c = 11 := by unfold n_hi; rw [if_neg (by omega), if_neg (by omega)]
      rw [fX7_readPart_j25, fX7_readPart_j30, if_neg nn_one, fX7_readPart_j54, fX7_readPart_j59, e1, e2]
      refine Ok_bind (t_pass1 T) (fun r10 T10 => ?_)
      rw [T10.2.2.1, if_neg (show ¬ nn 1 = (0 : Int32) from nn_one), if_neg nn_one]
      exact Ok_bind (t_guest X (by omega) ho F.1 hc T10) (fun r28 h28 => Ok_some h28)
    have JT : c = 116 → Ok (fX7_readPart_j54 u (nn c) (0 : Int32)) (fun r => Ts r u0 (n_num x l (p + 1) (n_lo c) (n_hi c)).2.1 (n_num x l (p + 1) (n_lo c) (n_hi c)).1 (n_pe (n_num x l (p + 1) (n_lo c) (n_hi c)).1 o w c (n_num x l (p + 1) (n_lo c) (n_hi c)).2.2).1 (n_pe (n_num x l (p + 1) (n_lo c) (n_hi c)).1 o w c (n_num x l (p + 1) (n_lo c) (n_hi c)).2.2).2) := by
      intro hc
      subst hc
      have e1 : n_lo 116 = 1 := rfl
      have e2 : n_hi 116 = 100 := rfl
      rw [fX7_readPart_j54, fX7_readPart_j59, e1, e2]
      refine Ok_bind (t_pass1 T) (fun r10 T10 => ?_)
      rw [T10.2.2.1, if_neg (show ¬ nn 1 = (0 : Int32) from nn_one), if_pos rfl, if_pos (show nn 116 = (116 : Int32) from rfl)]
      have N := n_num_is (x := x) (l := l) (p := p + 1) (lo := 1) (m := 100) (by omega) (by omega) (by omega)
      refine Ok_bind (t_number X (p := p + 1) (m := 100) (lo := 1) (by omega) (by omega) (by omega) T10) (fun r15 h15 => ?_)
      obtain ⟨e15, T15⟩ := h15
      generalize (n_num x l (p + 1) 1 100).2.2 = v at *
      generalize (n_num x l (p + 1) 1 100).2.1 = p' at *
      generalize (n_num x l (p + 1) 1 100).1 = g at *
      rw [T15.2.2.1, e15]
      by_cases cg : g = 0
      · subst cg
        rw [n_pe_0]
        refine Ok_bind (t_goes0 T15 ho _) (fun r17 h17 => ?_)
        rw [h17.1, if_pos (show nn 0 = (0 : Int32) from rfl)]
        exact Ok_some h17.2
      · have cg1 : g = 1 := by omega
        subst cg1
        rw [n_pe_1]
        refine Ok_bind (t_goes T15 ho (c := True)) (fun r17 h17 => ?_)
        obtain ⟨e17, T17⟩ := h17
        by_cases h : o = 1
        · rw [if_pos ⟨h, trivial⟩] at e17 T17
          rw [e17, if_neg (show ¬ nn 1 = (0 : Int32) from nn_one), n_ef_y ⟨h, Or.inl rfl⟩]
          exact Ok_bind (v_goTicks T17.2.2.2.2 F (by omega) h9).1 (fun r20 h20 => Ok_let (fun u22 e22 => Ok_some (by rw [e22]; exact Ts_42 T17 h20.2)))
        · rw [if_neg (fun k => h k.1)] at e17 T17
          rw [e17, if_pos (show nn 0 = (0 : Int32) from rfl), n_ef_n (fun k => h k.1)]
          exact Ok_some T17
    have JM : (c = 100 ∨ c = 120) → Ok (fX7_readPart_j54 u (nn c) (0 : Int32)) (fun r => Ts r u0 (n_num x l (p + 1) (n_lo c) (n_hi c)).2.1 (n_num x l (p + 1) (n_lo c) (n_hi c)).1 (n_pe (n_num x l (p + 1) (n_lo c) (n_hi c)).1 o w c (n_num x l (p + 1) (n_lo c) (n_hi c)).2.2).1 (n_pe (n_num x l (p + 1) (n_lo c) (n_hi c)).1 o w c (n_num x l (p + 1) (n_lo c) (n_hi c)).2.2).2) := by
      intro hc
      have e1 : n_lo c = 0 := if_neg (by omega)
      have e2 : n_hi c = 59 := by unfold n_hi; rw [if_neg (by omega), if_pos hc]
      rw [fX7_readPart_j54, fX7_readPart_j59, e1, e2]
      refine Ok_bind (t_pass1 T) (fun r10 T10 => ?_)
      rw [T10.2.2.1, if_neg (show ¬ nn 1 = (0 : Int32) from nn_one), if_pos rfl, if_neg (show ¬ nn c = (116 : Int32) from lit (j := 116) (by omega) (by omega) (by omega))]
      have N := n_num_is (x := x) (l := l) (p := p + 1) (lo := 0) (m := 59) (by omega) (by omega) (by omega)
      refine Ok_bind (t_number X (p := p + 1) (m := 59) (lo := 0) (by omega) (by omega) (by omega) T10) (fun r24 h24 => ?_)
      obtain ⟨e24, T24⟩ := h24
      generalize (n_num x l (p + 1) 0 59).2.2 = v at *
      generalize (n_num x l (p + 1) 0 59).2.1 = p' at *
      generalize (n_num x l (p + 1) 0 59).1 = g at *
      rw [T24.2.2.1, e24]
      by_cases cg : g = 0
      · subst cg
        rw [n_pe_0, if_pos (show nn 0 = (0 : Int32) from rfl), fX7_readPart_j159, fX7_readPart_j160]
        refine Ok_bind (t_goes0 T24 ho _) (fun r17 h17 => ?_)
        rw [h17.1, if_pos (show nn 0 = (0 : Int32) from rfl)]
        exact Ok_some h17.2
      · have cg1 : g = 1 := by omega
        subst cg1
        have K : ∀ {b : Prop} [Decidable b], (b ↔ n_ok w c v) → Ok (fX7_readPart_j160 r24.2 (nn c) (nn v) (nn (if b then 1 else 0))) (fun r => Ts r u0 p' 1 (n_ef o w c v).1 (n_ef o w c v).2) := by
          intro b _ hb
          rw [fX7_readPart_j160]
          refine Ok_bind (t_goes T24 ho) (fun r30 h30 => ?_)
          obtain ⟨e30, T30⟩ := h30
          by_cases h : o = 1 ∧ b
          · rw [if_pos h] at e30 T30
            have hok := hb.mp h.2
            rw [e30, if_neg (show ¬ nn 1 = (0 : Int32) from nn_one), n_ef_y ⟨h.1, hok⟩]
            show Ok _ (fun r => Ts r u0 p' 1 1 (n_do w c v))
            rcases hc with rfl | rfl
            · rw [if_neg (by decide)]
              exact Ok_bind (v_handle T30.2.2.2.2 F.1 F.2.2 (by omega) (by omega)) (fun r40 h40 => Ok_let (fun u42 e42 => Ok_some (by rw [e42]; exact Ts_42 T30 h40.2)))
            · have e58 : r30.2 42 (Int32.toNatClampNeg (558 : Int32)) + (1 : Int32) = nn (w 558 + 1) := by rw [show r30.2 42 (Int32.toNatClampNeg (558 : Int32)) = nn (w 558) from T30.2.2.2.2 558 (by omega)]; exact nn_add _ 1
              rw [if_pos (by decide), e58, show Int32.toNatClampNeg (558 : Int32) = 558 from rfl]
              refine Ok_let (fun u34 e34 => ?_)
              have R34 : Rv (u34 42) (nu w 558 (w 558 + 1)) := by rw [e34]; show Rv (x_hs r30.2 42 _ 42) _; rw [x_hs_eq]; exact Rv_up T30.2.2.2.2 _ _
              have T34 : Ts u34 u0 p' 1 1 (nu w 558 (w 558 + 1)) := by rw [e34]; exact Ts_42 T30 (Rv_up T30.2.2.2.2 _ _)
              exact Ok_bind (v_lose R34 (by omega) hm) (fun r36 h36 => Ok_let (fun u38 e38 => Ok_some (by rw [e38]; exact Ts_42 T34 h36.2)))
          · rw [if_neg h] at e30 T30
            rw [e30, if_pos (show nn 0 = (0 : Int32) from rfl), n_ef_n (fun k => h ⟨k.1, hb.mpr k.2⟩)]
            exact Ok_some T30
        have k := K (b := v < w 552) ⟨fun h => Or.inr (Or.inl ⟨hc, h⟩), fun h => by omega⟩
        rw [n_pe_1, if_neg (show ¬ nn 1 = (0 : Int32) from nn_one), show r24.2 42 (Int32.toNatClampNeg (552 : Int32)) = nn (w 552) from T24.2.2.2.2 552 (by omega)]
        by_cases cv : v < w 552
        · rw [if_pos cv] at k
          rw [if_neg (fun h => by have := (nn_le (by omega) (by omega)).mp h; omega)]
          exact k
        · rw [if_neg cv] at k
          rw [if_pos ((nn_le (by omega) (by omega)).mpr (by omega)), fX7_readPart_j159]
          exact k
    rcases hL with rfl | rfl | rfl | rfl | rfl | rfl
    · rw [if_pos (by decide)]; exact JG (by omega)
    · rw [if_neg (by decide), if_pos (by decide)]; exact JG (by omega)
    · rw [if_neg (by decide), if_neg (by decide), if_pos (by decide)]; exact JG (by omega)
    · rw [if_neg (by decide), if_neg (by decide), if_neg (by decide), fX7_readPart_j30, if_pos rfl, if_pos (by decide)]; exact JM (by omega)
    · rw [if_neg (by decide), if_neg (by decide), if_neg (by decide), fX7_readPart_j30, if_pos rfl, if_neg (by decide), if_pos (by decide)]; exact JM (by omega)
    · rw [if_neg (by decide), if_neg (by decide), if_neg (by decide), fX7_readPart_j30, if_pos rfl, if_neg (by decide), if_neg (by decide), if_pos (by decide)]; exact JT rfl
  · rw [if_neg hL, n_pe_0]
    obtain ⟨y, hy⟩ : ∃ y, y = mm (if p < l then x p + 1 else 0) := ⟨_, rfl⟩
    rw [← hy]
    have ne : ∀ j : Nat, n_L j → j < 1000 → ¬ y = nn j := by
      intro j hj h1 e
      rw [hy] at e
      by_cases c : p < l
      · have xp := X.2.2.2 p c
        rw [if_pos c, mm_succ] at e
        have e2 := (nn_is j (by omega) h1).mp e
        exact hL ⟨c, by rw [e2]; exact hj⟩
      · rw [if_neg c] at e
        exact (nn_neg (a := j) (by omega)).mp (by rw [← e]; decide)
    rw [if_neg (show ¬ y = (115 : Int32) from ne 115 (by omega) (by omega)), if_neg (show ¬ y = (103 : Int32) from ne 103 (by omega) (by omega)), if_neg (show ¬ y = (114 : Int32) from ne 114 (by omega) (by omega)), fX7_readPart_j30, if_pos rfl, if_neg (show ¬ y = (100 : Int32) from ne 100 (by omega) (by omega)), if_neg (show ¬ y = (120 : Int32) from ne 120 (by omega) (by omega)), if_neg (show ¬ y = (116 : Int32) from ne 116 (by omega) (by omega)), fX7_readPart_j59]
    refine Ok_bind (t_pass0 T) (fun r10 T10 => ?_)
    rw [T10.2.2.1, if_pos (show nn 0 = (0 : Int32) from rfl)]
    exact Ok_some T10
end
