/-! the best set in both -/
theorem okT_st {us : Nat → Bool} {cl : Nat → Nat} {nd : Nat → Nat → Int} {room : Nat} {st st' : Nat → Int} {ch T : Nat} (hnd : ∀ w x, 0 ≤ nd w x ∧ nd w x ≤ 8) (h : ∀ x, x < 12 → st x = st' x ∨ (100 ≤ st x ∧ 100 ≤ st' x)) : okT us cl nd room st ch T 12 ↔ okT us cl nd room st' ch T 12 := by
  have hb : ∀ x, smT (fun w => nd w x) T 12 ≤ 96 := fun x => by
    have := smT_le (val := fun w => nd w x) (T := T) (b := 8) (fun w => hnd w x) 12
    omega
  unfold okT
  constructor
  · rintro ⟨h1, h2, h3⟩
    exact ⟨h1, h2, fun x hx => by have q := h x hx; have q2 := h3 x hx; have q3 := hb x; omega⟩
  · rintro ⟨h1, h2, h3⟩
    exact ⟨h1, h2, fun x hx => by have q := h x hx; have q2 := h3 x hx; have q3 := hb x; omega⟩
theorem gT_congr {val : Nat → Int} {us : Nat → Bool} {cl : Nat → Nat} {nd : Nat → Nat → Int} {room : Nat} {st st' : Nat → Int} {ch : Nat} {sum : Int} {k T : Nat} (h : okT us cl nd room st ch T k ↔ okT us cl nd room st' ch T k) : gT val us cl nd room st ch sum k T = gT val us cl nd room st' ch sum k T := by
  by_cases h1 : okT us cl nd room st ch T k
  · rw [gT_y h1, gT_y (h.mp h1)]
  · rw [gT_n h1, gT_n (fun q => h1 (h.mpr q))]
theorem clq_id {v : Int} (h : 0 ≤ v) : clq v = v ∨ (100 ≤ clq v ∧ 100 ≤ v) := by
  unfold clq
  by_cases h1 : 100 < v
  · rw [if_pos h1, if_pos (by omega)]
    omega
  · rw [if_neg h1]
    split <;> omega
/-- sets reach no further than the words -/
theorem scn_N {N f room fl : Nat} {flo : Int} {val W : Nat → Int} {st : Nat → Int} (hN : N ≤ 12) : scn (gT val (fun w => decide (w < N) && !f.testBit w) (fun _ => 0) (fun w => tms (W w) 8) room st 0 0 12) 4096 (flo, fl) = scn (gT val (fun w => decide (w < N) && !f.testBit w) (fun _ => 0) (fun w => tms (W w) 8) room st 0 0 12) (2 ^ N) (flo, fl) := by
  have hle : 2 ^ N ≤ 4096 := by have := Nat.pow_le_pow_right (show 0 < 2 by decide) hN; exact this
  have e : (4096 : Nat) = 2 ^ N + (4096 - 2 ^ N) := by omega
  rw [e, scn_add]
  refine scn_none _ (fun i hi q hq => ?_)
  have hno : ¬ okT (fun w => decide (w < N) && !f.testBit w) (fun _ => 0) (fun w => tms (W w) 8) room st 0 (2 ^ N + i) 12 := by
    intro h
    have hall : ∀ w, w < 12 → (2 ^ N + i).testBit w = true → w < N := fun w hw ht => by
      have := (h.2.1 w hw ht).1
      rw [Bool.and_eq_true] at this
      exact of_decide_eq_true this.1
    have hlt : 2 ^ N + i < 2 ^ N := by
      apply Nat.lt_of_not_le
      intro hge
      obtain ⟨w, hw1, hw2⟩ := Nat.exists_ge_and_testBit_of_ge_two_pow hge
      have h12 : w < 12 := bit_lt (show 2 ^ N + i < 2 ^ 12 by show 2 ^ N + i < 4096; omega) hw2
      have := hall w h12 hw2
      omega
    omega
  rw [gT_n hno] at hq
  exact absurd hq (by simp)
theorem t_laysBest {z : zZ} {d s N f Nn : Nat} {W r : Row} {L : Nat → Nat} {lt : Nat → Int} {Dv Dc : Nat → Row → Option Int} {ρ : Mu} (hd : 7 ≤ d) (hs : s < 2) (hx : lexR ρ s N W L) (hf : ρ 86 (16 + s) = (f : Int)) (h4 : f < 2 ^ N) (h6 : cnt f.testBit 12 ≤ 6) (hh : hr (ρ 90)) (hL : lawR ρ Nn lt Dv Dc) (hdv : dep10 Dv) (hdc : dep10 Dc) (h99 : r99 r) (hr87 : ∀ k, k < 12 → ρ 87 k = r k) : ∃ P, mC z d 263 [(2, 86), (0, (s : Int))] ρ = some ((bsT N f (fun w => wrt Nn lt Dv Dc (ρ 86 1) (s : Int) r (W w) (L w)) W (6 - cnt f.testBit 12) (fun x => ρ 90 (12 * s + x)) (-1)).1, P) ∧ P 86 58 = (((bsT N f (fun w => wrt Nn lt Dv Dc (ρ 86 1) (s : Int) r (W w) (L w)) W (6 - cnt f.testBit 12) (fun x => ρ 90 (12 * s + x)) (-1)).2 : Nat) : Int) ∧ (∀ a, a ≠ 86 → a ≠ 109 → a ≠ 110 → a ≠ 122 → a ≠ 123 → P a = ρ a) ∧ ∀ k, k ≠ 58 → P 86 k = ρ 86 k := by
  obtain ⟨e, rfl, he⟩ := pred_of (k := 6) hd
  have h12 := hx.2.1
  have hf4 := f4096 h4 h12
  have hle12 : 2 ^ N ≤ 4096 := by have := Nat.pow_le_pow_right (show 0 < 2 by decide) h12; exact this
  generalize hvd : (fun w => wrt Nn lt Dv Dc (ρ 86 1) (s : Int) r (W w) (L w)) = val
  have hvw : ∀ w, wrt Nn lt Dv Dc (ρ 86 1) (s : Int) r (W w) (L w) = val w := fun w => by rw [← hvd]
  have hvr : ∀ w, 0 ≤ val w ∧ val w ≤ 9999 := fun w => by rw [← hvw]; exact wrt_rg
  -- the frame
  have hlx : ∀ M : Mu, (∀ a, a ≠ 86 → a ≠ 109 → a ≠ 110 → a ≠ 122 → a ≠ 123 → M a = ρ a) → (∀ k, k ≠ 58 → M 86 k = ρ 86 k) → lexR M s N W L ∧ lawR M Nn lt Dv Dc ∧ (∀ k, k < 12 → M 87 k = r k) ∧ hr (M 90) ∧ M 86 (16 + s) = (f : Int) := fun M g1 g2 => by
    refine ⟨⟨by rw [g2 _ (by omega)]; exact hx.1, h12, fun w hw => ?_⟩, lawR_congr hL (g2 27 (by omega)) (g1 _ (by omega) (by omega) (by omega) (by omega) (by omega)) (g1 _ (by omega) (by omega) (by omega) (by omega) (by omega)) (g1 _ (by omega) (by omega) (by omega) (by omega) (by omega)) (g1 _ (by omega) (by omega) (by omega) (by omega) (by omega)) (g1 _ (by omega) (by omega) (by omega) (by omega) (by omega)), fun k hk => by rw [g1 87 (by omega) (by omega) (by omega) (by omega) (by omega)]; exact hr87 k hk, by rw [g1 90 (by omega) (by omega) (by omega) (by omega) (by omega)]; exact hh, by rw [g2 _ (by omega)]; exact hf⟩
    obtain ⟨k1, k2, k3⟩ := hx.2.2 w hw
    exact ⟨k1, by rw [g1 95 (by omega) (by omega) (by omega) (by omega) (by omega)]; exact k2, rwd_congr k3 (fun k _ => by rw [g1 94 (by omega) (by omega) (by omega) (by omega) (by omega)])⟩
  -- the worths
  have hW : ∀ (j w : Nat) (M : Mu), j + w = N → (∀ a, a ≠ 86 → a ≠ 109 → a ≠ 110 → a ≠ 122 → a ≠ 123 → M a = ρ a) → (∀ k, k ≠ 58 → M 86 k = ρ 86 k) → (∀ v, v < w → M 123 v = val v) → ∃ P, f_M_laysBest_2 z e (s : Int) (w : Int) M = f_M_laysBest_33 z e (s : Int) (-1) ((0 : Nat) : Int) P ∧ (∀ a, a ≠ 86 → a ≠ 109 → a ≠ 110 → a ≠ 122 → a ≠ 123 → P a = ρ a) ∧ (∀ k, k ≠ 58 → P 86 k = ρ 86 k) ∧ ∀ v, v < N → P 123 v = val v := by
    intro j
    induction j with
    | zero =>
      intro w M hj g1 g2 g3
      have : w = N := by omega
      subst this
      refine ⟨M, ?_, g1, g2, g3⟩
      rw [e_M_laysBest_2, t_manyOf (by omega) hs, (hlx M g1 g2).1.1]
      simp -implicitDefEqProofs only [ob]
      rw [cT (by omega)]
      rfl
    | succ j ih =>
      intro w M hj g1 g2 g3
      obtain ⟨q1, q2, q3, q4, q5⟩ := hlx M g1 g2
      obtain ⟨A, a1, a2⟩ := t_worthOf (z := z) (d := e) (w := w) (by omega) hs q1 (by omega) q2 hdv hdc h99 q3
      rw [g2 1 (by omega), hvw] at a1
      rw [e_M_laysBest_2, t_manyOf (by omega) hs, q1.1]
      simp -implicitDefEqProofs only [ob]
      rw [cF (by omega), a1]
      simp -implicitDefEqProofs only [ob]
      rw [gI_ok (by omega) (by omega), zwc (by omega), Int.toNat_natCast]
      refine ih (w + 1) _ (by omega) (fun a c1 c2 c3 c4 c5 => by rw [zup_ro c5, a2 a c2 c3]; exact g1 a c1 c2 c3 c4 c5) (fun k c => by rw [zup_ro (by omega), a2 86 (by omega) (by omega)]; exact g2 k c) (fun v hv => ?_)
      by_cases e1 : v = w
      · subst e1; exact zup_hit
      · rw [zup_nk e1, a2 123 (by omega) (by omega)]; exact g3 v (by omega)
  obtain ⟨P, p1, p2, p3, p4⟩ := hW N 0 ρ (by omega) (fun _ _ _ _ _ _ => rfl) (fun _ _ => rfl) (fun v h => by omega)
  simp -implicitDefEqProofs only [Int.natCast_zero] at p1
  rw [c_M_laysBest, p1]
  unfold bsT
  rw [scn_N h12]
  clear p1 hW
  generalize hg : gT val (fun w => decide (w < N) && !f.testBit w) (fun _ => 0) (fun w => tms (W w) 8) (6 - cnt f.testBit 12) (fun x => ρ 90 (12 * s + x)) 0 0 12 = g
  -- one set's sum
  have hS : ∀ (T : Nat) (M : Mu), T < 2 ^ N → (∀ a, a ≠ 86 → a ≠ 109 → a ≠ 110 → a ≠ 122 → a ≠ 123 → M a = ρ a) → (∀ k, k ≠ 58 → M 86 k = ρ 86 k) → (∀ v, v < N → M 123 v = val v) → ∀ v2 : Int, f_M_laysBest_50 z e (s : Int) v2 (T : Int) 0 ((0 : Nat) : Int) M = f_M_laysBest_50 z e (s : Int) v2 (T : Int) (smT val T N) (N : Int) M := by
    intro T M hT g1 g2 g3 v2
    have q1 := (hlx M g1 g2).1.1
    have H := down (n := N) (P := fun w => f_M_laysBest_50 z e (s : Int) v2 (T : Int) (smT val T w) (w : Int) M = f_M_laysBest_50 z e (s : Int) v2 (T : Int) (smT val T N) (N : Int) M) rfl
      (by
        intro w hw ih
        have b1 := smT_nn (val := val) (T := T) w (fun v _ => (hvr v).1)
        have b2 := smT_le (val := val) (T := T) (b := 9999) hvr w
        have b3 := hvr w
        rw [e_M_laysBest_50, t_manyOf (by omega) hs, q1]
        simp -implicitDefEqProofs only [ob]
        rw [cF (by omega), t_has (by omega) (by have := f4096 hT h12; omega) (by omega)]
        simp -implicitDefEqProofs only [ob]
        rw [cB]
        by_cases hb : T.testBit w = true
        · rw [hb, cond_true, gI_ok (by omega) (by omega), Int.toNat_natCast, g3 w hw, e_M_laysBest_82, zwc (by omega), zw_id (x := smT val T w + val w) (by omega) (by omega)]
          rw [smT_s, if_pos hb] at ih
          exact ih
        · have hb' : T.testBit w = false := by simpa using hb
          rw [hb', cond_false, e_M_laysBest_81, e_M_laysBest_82, zwc (by omega), Int.add_zero, zw_id (x := smT val T w) (by omega) (by omega)]
          rw [smT_s, hb', if_neg (by decide), Int.add_zero] at ih
          exact ih) 0 (by omega)
    exact H
  have hR : ∀ (j T : Nat) (M : Mu), j + T = 2 ^ N → (∀ a, a ≠ 86 → a ≠ 109 → a ≠ 110 → a ≠ 122 → a ≠ 123 → M a = ρ a) → (∀ k, k ≠ 58 → M 86 k = ρ 86 k) → (∀ v, v < N → M 123 v = val v) → (T = 0 ∨ M 86 58 = (((scn g T (-1, 0)).2 : Nat) : Int)) → ∃ P, f_M_laysBest_33 z e (s : Int) (scn g T (-1, 0)).1 (T : Int) M = some ((scn g (2 ^ N) (-1, 0)).1, P) ∧ P 86 58 = (((scn g (2 ^ N) (-1, 0)).2 : Nat) : Int) ∧ (∀ a, a ≠ 86 → a ≠ 109 → a ≠ 110 → a ≠ 122 → a ≠ 123 → P a = ρ a) ∧ ∀ k, k ≠ 58 → P 86 k = ρ 86 k := by
    intro j
    induction j with
    | zero =>
      intro T M hj g1 g2 g3 g4
      have : T = 2 ^ N := by omega
      subst this
      have h0 : 0 < 2 ^ N := Nat.pow_pos (by decide)
      refine ⟨M, ?_, by rcases g4 with h | h <;> first | omega | exact h, g1, g2⟩
      rw [e_M_laysBest_33, t_manyOf (by omega) hs, (hlx M g1 g2).1.1]
      simp -implicitDefEqProofs only [ob]
      rw [z_shl1 (by omega), cT (by omega)]
    | succ j ih =>
      intro T M hj g1 g2 g3 g4
      have hT : T < 2 ^ N := by omega
      obtain ⟨q1, q2, q3, q4, q5⟩ := hlx M g1 g2
      have hS' := hS T M hT g1 g2 g3 (scn g T (-1, 0)).1
      simp -implicitDefEqProofs only [Int.natCast_zero] at hS'
      rw [e_M_laysBest_33, t_manyOf (by omega) hs, q1.1]
      simp -implicitDefEqProofs only [ob]
      rw [z_shl1 (by omega), cF (by omega), hS', e_M_laysBest_50, t_manyOf (by omega) hs, q1.1]
      simp -implicitDefEqProofs only [ob]
      rw [cT (by omega)]
      have hsc : scn g (T + 1) (-1, 0) = stp2 (scn g T (-1, 0)) (g T) := rfl
      have hgT : ∀ b : Bool, (b = true ↔ okT (fun w => decide (w < N) && !f.testBit w) (fun _ => 0) (fun w => tms (W w) 8) (6 - cnt f.testBit 12) (fun x => ρ 90 (12 * s + x)) 0 T 12) → g T = if b = true then some (smT val T N, T) else none := fun b hb => by
        rw [← hg]
        by_cases h : b = true
        · rw [gT_y (hb.mp h), if_pos h, smT_N hT 12 h12, Int.zero_add, Nat.zero_or]
        · rw [gT_n (fun q => h (hb.mpr q)), if_neg h]
      have b1 := smT_nn (val := val) (T := T) N (fun v _ => (hvr v).1)
      by_cases hc : smT val T N ≤ (scn g T (-1, 0)).1
      · have hskip : stp2 (scn g T (-1, 0)) (g T) = scn g T (-1, 0) := by
          cases hgt : g T with
          | none => rfl
          | some q =>
            obtain ⟨b, hb⟩ : ∃ b : Bool, (b = true ↔ okT (fun w => decide (w < N) && !f.testBit w) (fun _ => 0) (fun w => tms (W w) 8) (6 - cnt f.testBit 12) (fun x => ρ 90 (12 * s + x)) 0 T 12) := by
              by_cases h : okT (fun w => decide (w < N) && !f.testBit w) (fun _ => 0) (fun w => tms (W w) 8) (6 - cnt f.testBit 12) (fun x => ρ 90 (12 * s + x)) 0 T 12
              · exact ⟨true, fun _ => h, fun _ => rfl⟩
              · exact ⟨false, fun q => absurd q (by decide), fun q => absurd q h⟩
            have h2 := hgT b hb
            rw [hgt] at h2
            cases b with
            | false => exact absurd h2 (by simp)
            | true =>
              rw [if_pos rfl] at h2
              have h3 : q = (smT val T N, T) := Option.some.inj h2
              rw [h3]
              show (if (scn g T (-1, 0)).1 < smT val T N then _ else _) = _
              rw [if_neg (by omega)]
        rw [cT hc, e_M_laysBest_117, zwc (by omega)]
        have hT0 : T ≠ 0 := by
          intro h
          subst h
          have : (scn g 0 (-1, 0)).1 = -1 := rfl
          omega
        have := ih (T + 1) M (by omega) g1 g2 g3 (Or.inr (by rw [hsc, hskip]; rcases g4 with h | h <;> first | exact absurd h hT0 | exact h))
        rw [hsc, hskip] at this
        exact this
      · obtain ⟨h', b, c1, c2⟩ := t_canBeFormed (z := z) (d := e) (T := T) (by omega) hs q1 q5 h4 h6 hT q4
        have e90 : M 90 = ρ 90 := g1 90 (by omega) (by omega) (by omega) (by omega) (by omega)
        rw [e90] at c2
        have h2 := hgT b c2
        rw [cF hc, c1]
        simp -implicitDefEqProofs only [ob]
        rw [nB]
        cases b with
        | true =>
          rw [if_pos rfl] at h2
          rw [h2] at hsc
          have hsc2 : scn g (T + 1) (-1, 0) = (smT val T N, T) := by
            rw [hsc]
            show (if (scn g T (-1, 0)).1 < smT val T N then _ else _) = _
            rw [if_pos (by omega)]
          rw [cond_true, e_M_laysBest_117, zwc (by omega)]
          have := ih (T + 1) (zup (zrow M 122 h') 86 58 (T : Int)) (by omega) (fun a r1 r2 r3 r4 r5 => by rw [zup_ro r1, zrow_ne r4]; exact g1 a r1 r2 r3 r4 r5) (fun k r => by rw [zup_nk r, zrow_ne (by omega)]; exact g2 k r) (fun v hv => by rw [zup_ro (by omega), zrow_ne (by omega)]; exact g3 v hv) (Or.inr (by rw [hsc2]; exact zup_hit))
          rw [hsc2] at this
          exact this
        | false =>
          rw [if_neg (by decide)] at h2
          rw [h2] at hsc
          have hsc2 : scn g (T + 1) (-1, 0) = scn g T (-1, 0) := hsc
          have hT0 : T ≠ 0 := by
            intro h
            subst h
            have : false = true := c2.mpr (okT_0 (fun x _ => (hh _).1))
            exact absurd this (by decide)
          rw [cond_false, e_M_laysBest_117, zwc (by omega)]
          have := ih (T + 1) (zrow M 122 h') (by omega) (fun a r1 r2 r3 r4 r5 => by rw [zrow_ne r4]; exact g1 a r1 r2 r3 r4 r5) (fun k r => by rw [zrow_ne (by omega)]; exact g2 k r) (fun v hv => by rw [zrow_ne (by omega)]; exact g3 v hv) (Or.inr (by rw [hsc2, zrow_ne (by omega)]; rcases g4 with h | h <;> first | exact absurd h hT0 | exact h))
          rw [hsc2] at this
          exact this
  have := hR (2 ^ N) 0 P (by omega) p2 p3 p4 (Or.inl rfl)
  exact this
