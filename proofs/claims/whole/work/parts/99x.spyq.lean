/-! spies: both -/
theorem t_bears {z : zZ} {d s N T : Nat} {W : Row} {L : Nat → Nat} {ρ : Mu} (hd : 3 ≤ d) (hs : s < 2) (hx : lexR ρ s N W L) (hT : T < 4096) : ∃ b : Bool, mC z d 280 [(2, 86), (0, (s : Int)), (0, (T : Int))] ρ = some (bi b, ρ) ∧ (b = true ↔ frS N W L T) := by
  obtain ⟨e, rfl, he⟩ := pred_of (k := 2) hd
  have h12 := hx.2.1
  have hgo : ∀ (j w : Nat), j + w = N → (∀ w' v, w' < w → v < w' → T.testBit w' = true → T.testBit v = true → ¬ (L w' = L v ∧ dfN W w' v < 3)) → ∃ b : Bool, f_M_bears_2 z e (s : Int) (T : Int) (w : Int) ρ = some (bi b, ρ) ∧ (b = true ↔ frS N W L T) := by
    intro j
    induction j with
    | zero =>
      intro w hj hok
      have : w = N := by omega
      subst this
      refine ⟨true, ?_, fun _ w' v h1 h2 h3 h4 => hok w' v h1 h2 h3 h4, fun _ => rfl⟩
      rw [e_M_bears_2, t_manyOf (by omega) hs, hx.1]
      simp -implicitDefEqProofs only [ob]
      rw [cT (by omega)]
      rfl
    | succ j ih =>
      intro w hj hok
      have hin : ∀ (i v : Nat), i + v = w → (∀ v', v' < v → T.testBit w = true → T.testBit v' = true → ¬ (L w = L v' ∧ dfN W w v' < 3)) → ∃ b : Bool, f_M_bears_14 z e (s : Int) (T : Int) (w : Int) (v : Int) ρ = some (bi b, ρ) ∧ (b = true ↔ frS N W L T) := by
        intro i
        induction i with
        | zero =>
          intro v hv hok2
          have : v = w := by omega
          subst this
          rw [e_M_bears_14, cT (by omega), zwc (by omega)]
          exact ih (v + 1) (by omega) (fun w' v' h1 h2 h3 h4 => by
            by_cases e1 : w' = v
            · subst e1; exact hok2 v' h2 h3 h4
            · exact hok w' v' (by omega) h2 h3 h4)
        | succ i ih2 =>
          intro v hv hok2
          have hnext := fun (h : T.testBit w = true → T.testBit v = true → ¬ (L w = L v ∧ dfN W w v < 3)) => ih2 (v + 1) (by omega) (fun v' h1 h3 h4 => by
            by_cases e1 : v' = v
            · subst e1; exact h h3 h4
            · exact hok2 v' (by omega) h3 h4)
          rw [e_M_bears_14, cF (by omega), t_has (by omega) (by omega) (by omega)]
          simp -implicitDefEqProofs only [ob]
          rw [cB]
          by_cases tw : T.testBit w = true
          · rw [tw, cond_true, t_has (by omega) (by omega) (by omega)]
            simp -implicitDefEqProofs only [ob]
            rw [cB]
            by_cases tv : T.testBit v = true
            · have hu := t_unlike (z := z) (d := e) (by omega) hs hx (show w < N by omega) (show v < N by omega)
              rw [tv, cond_true, hu]
              simp -implicitDefEqProofs only [ob]
              by_cases h3 : L w = L v ∧ dfN W w v < 3
              · have h3b : ((cnt (fun k => decide (nib (W w) k ≠ nib (W v) k)) 8 : Nat) : Int) < 3 := by
                  have := h3.2
                  unfold dfN at this
                  omega
                rw [if_pos h3.1, cF (by omega)]
                exact ⟨false, rfl, fun h => absurd h (by decide), fun h => absurd h3 (h w v (by omega) (by omega) tw tv)⟩
              · have hc : (3 : Int) ≤ (if L w = L v then ((cnt (fun k => decide (nib (W w) k ≠ nib (W v) k)) 8 : Nat) : Int) else 1000000000) := by
                  by_cases e1 : L w = L v
                  · rw [if_pos e1]
                    have h4 : ¬ dfN W w v < 3 := fun q => h3 ⟨e1, q⟩
                    unfold dfN at h4
                    omega
                  · rw [if_neg e1]
                    omega
                rw [cT hc, e_M_bears_51, zwc (by omega)]
                exact hnext (fun _ _ => h3)
            · have tv' : T.testBit v = false := by simpa using tv
              rw [tv', cond_false, e_M_bears_51, zwc (by omega)]
              exact hnext (fun _ h => absurd h tv)
          · have tw' : T.testBit w = false := by simpa using tw
            rw [tw', cond_false, e_M_bears_51, zwc (by omega)]
            exact hnext (fun h _ => absurd h tw)
      rw [e_M_bears_2, t_manyOf (by omega) hs, hx.1]
      simp -implicitDefEqProofs only [ob]
      rw [cF (by omega)]
      exact hin w 0 (by omega) (fun v' h => by omega)
  rw [c_M_bears]
  exact hgo N 0 (by omega) (fun w' v h => by omega)
theorem smT_1 (T : Nat) : ∀ k, smT (fun _ => 1) T k = ((cnt T.testBit k : Nat) : Int) := by
  intro k
  induction k with
  | zero => rfl
  | succ k ih =>
    rw [smT_s, ih, cnt_succ]
    by_cases h : T.testBit k = true
    · rw [if_pos h, if_pos h]; rfl
    · rw [if_neg h, if_neg h]; rfl
theorem spT_N {N : Nat} {W : Row} {L : Nat → Nat} (hN : N ≤ 12) : spT N W L = scn (gT (fun _ => 1) (fun w => decide (w < N)) (clN N W L) (fun _ => tms 0 8) 12 (fun _ => 0) 0 0 12) (2 ^ N) (-1, 0) := by
  have hle : 2 ^ N ≤ 4096 := by have := Nat.pow_le_pow_right (show 0 < 2 by decide) hN; exact this
  have e : (4096 : Nat) = 2 ^ N + (4096 - 2 ^ N) := by omega
  unfold spT
  rw [e, scn_add]
  refine scn_none _ (fun i hi q hq => ?_)
  have hno : ¬ okT (fun w => decide (w < N)) (clN N W L) (fun _ => tms 0 8) 12 (fun _ => 0) 0 (2 ^ N + i) 12 := by
    intro h
    have hall : ∀ w, w < 12 → (2 ^ N + i).testBit w = true → w < N := fun w hw ht => of_decide_eq_true (h.2.1 w hw ht).1
    have hge : 2 ^ N ≤ 2 ^ N + i := by omega
    obtain ⟨w, hw1, hw2⟩ := Nat.exists_ge_and_testBit_of_ge_two_pow hge
    have h12 : w < 12 := bit_lt (show 2 ^ N + i < 2 ^ 12 by show 2 ^ N + i < 4096; omega) hw2
    have := hall w h12 hw2
    omega
  rw [gT_n hno] at hq
  exact absurd hq (by simp)
theorem t_sploop {z : zZ} {e s N : Nat} {v : Int} {W : Row} {L : Nat → Nat} {ρ : Mu} (he : 3 ≤ e) (hs : s < 2) (hx : lexR ρ s N W L) (hv : v ≠ 0) (hW : ∀ w, w < N → isW (W w) (L w)) (hi : ∀ v w, v < N → w < N → W v = W w → v = w) : f_M_spy_87 z e (s : Int) v 1 0 ρ = some (if v = 1 then (spT N W L).1 else (((spT N W L).2 : Nat) : Int), ρ) := by
  have h12 := hx.2.1
  have hN4 : 2 ^ N ≤ 4096 := by have := Nat.pow_le_pow_right (show 0 < 2 by decide) h12; exact this
  rw [spT_N h12]
  generalize hg : gT (fun _ => 1) (fun w => decide (w < N)) (clN N W L) (fun _ => tms 0 8) 12 (fun _ => 0) 0 0 12 = g
  have hgy : ∀ T, T < 2 ^ N → frS N W L T → g T = some (((cnt T.testBit 12 : Nat) : Int), T) := fun T hT h => by
    rw [← hg, gT_y ((okT_fr h12 hT hW hi).mpr h), smT_1, Int.zero_add, Nat.zero_or]
  have hgn : ∀ T, T < 2 ^ N → ¬ frS N W L T → g T = none := fun T hT h => by
    rw [← hg, gT_n (fun q => h ((okT_fr h12 hT hW hi).mp q))]
  have hp0 : (0 : Nat) < 2 ^ N := Nat.pow_pos (by decide)
  have hR : ∀ (j T : Nat), j + T = 2 ^ N → 1 ≤ T → (scn g T (-1, 0)).1 = ((cnt (scn g T (-1, 0)).2.testBit 12 : Nat) : Int) → (scn g T (-1, 0)).2 < 2 ^ N → f_M_spy_87 z e (s : Int) v (T : Int) (((scn g T (-1, 0)).2 : Nat) : Int) ρ = some (if v = 1 then (scn g (2 ^ N) (-1, 0)).1 else (((scn g (2 ^ N) (-1, 0)).2 : Nat) : Int), ρ) := by
    intro j
    induction j with
    | zero =>
      intro T hj h1 hb hlt
      have : T = 2 ^ N := by omega
      rw [this] at hb hlt ⊢
      rw [e_M_spy_87, t_manyOf (by omega) hs, hx.1]
      simp -implicitDefEqProofs only [ob]
      rw [z_shl1 (by omega), cT (by omega)]
      by_cases h : v = 1
      · rw [nT h, if_pos h, t_bits (by omega) (by omega)]
        simp -implicitDefEqProofs only [ob]
        rw [e_M_spy_147, hb]
      · rw [nF h, if_neg h, e_M_spy_147]
    | succ j ih =>
      intro T hj h1 hb hlt
      have hT : T < 2 ^ N := by omega
      have hsc : scn g (T + 1) (-1, 0) = stp2 (scn g T (-1, 0)) (g T) := rfl
      have hnext := ih (T + 1) (by omega) (by omega)
      rw [hsc] at hnext
      rw [e_M_spy_87, t_manyOf (by omega) hs, hx.1]
      simp -implicitDefEqProofs only [ob]
      rw [z_shl1 (by omega), cF (by omega), t_bits (by omega) (by omega)]
      simp -implicitDefEqProofs only [ob]
      rw [t_bits (by omega) (by omega)]
      simp -implicitDefEqProofs only [ob]
      generalize scn g T (-1, 0) = p at hb hlt hnext ⊢
      have hfr : frS N W L T → stp2 p (g T) = if p.1 < ((cnt T.testBit 12 : Nat) : Int) then (((cnt T.testBit 12 : Nat) : Int), T) else p := fun h => by rw [hgy T hT h]; rfl
      have hnf : ¬ frS N W L T → stp2 p (g T) = p := fun h => by rw [hgn T hT h]; rfl
      by_cases hc : cnt T.testBit 12 ≤ cnt p.2.testBit 12
      · have he2 : stp2 p (g T) = p := by
          by_cases h : frS N W L T
          · rw [hfr h, if_neg (by omega)]
          · exact hnf h
        rw [he2] at hnext
        rw [cT (by omega), e_M_spy_126, zwc (by omega)]
        exact hnext hb hlt
      · obtain ⟨b, r1, r2⟩ := t_bears (z := z) (d := e) he hs hx (show T < 4096 by omega)
        rw [cF (by omega), r1]
        simp -implicitDefEqProofs only [ob]
        rw [cB]
        cases b with
        | true =>
          rw [hfr (r2.mp rfl), if_pos (by omega)] at hnext
          rw [cond_true, e_M_spy_126, zwc (by omega)]
          exact hnext rfl hT
        | false =>
          rw [hnf (fun h => absurd (r2.mpr h) (by decide))] at hnext
          rw [cond_false, e_M_spy_126, zwc (by omega)]
          exact hnext hb hlt
  have h00 : scn g 1 (-1, 0) = (0, 0) := by
    show stp2 (-1, 0) (g 0) = _
    rw [hgy 0 hp0 (fun w v _ _ h _ => by rw [Nat.zero_testBit] at h; exact absurd h (by decide)), cnt_zero]
    rfl
  have := hR (2 ^ N - 1) 1 (by omega) (Nat.le_refl _) (by rw [h00, cnt_zero]; rfl) (by rw [h00]; exact hp0)
  rw [h00] at this
  exact this
theorem spy_both {z : zZ} {d d' wl : Nat} {s w v : Int} {μ ρ : Mu} {N F : Nat → Nat} {L : Nat → Nat → Nat} (hd : 19 ≤ d) (hd' : 5 ≤ d') (hB : BT μ ρ N F L wl) : QU z d d' 134 278 [(2, 0), (0, s), (0, w), (0, v)] [(2, 86), (0, s), (0, w), (0, v)] μ ρ := by
  obtain ⟨e, rfl, he⟩ := pred_of (k := 18) hd
  obtain ⟨e', rfl, he'⟩ := pred_of (k := 4) hd'
  unfold QU
  obtain ⟨hC, hR, _⟩ := hB
  have hno : f_W_spy_16 z e μ = some (-1, μ) := by rw [e_W_spy_16]
  have hno' : f_M_spy_29 z e' ρ = some (-1, ρ) := by rw [e_M_spy_29]
  rw [c_W_spy, c_M_spy, s_isSide (by omega), t_isSide (by omega)]
  simp -implicitDefEqProofs only [ob]
  rw [cB, cB]
  by_cases h1 : s = 0 ∨ s = 1
  · rw [decide_eq_true h1, cond_true, cond_true, t_in (by omega)]
    simp -implicitDefEqProofs only [ob]
    rw [cB]
    obtain ⟨t, rfl, ht⟩ : ∃ t : Nat, s = (t : Int) ∧ t < 2 := ⟨s.toNat, by omega, by omega⟩
    obtain ⟨a1, a2, a3, a4, a5, a6, a7, a8, a9, a10, _⟩ := hC t ht
    obtain ⟨b1, b2, b3, b4, b5, b6, b7⟩ := hR t ht
    by_cases h2 : v < 0
    · rw [cT h2, decide_eq_false (show ¬ ((0 : Int) ≤ v ∧ v ≤ 2) by omega), cond_false, hno, hno']
      exact ⟨_, _, _, rfl, rfl, QC_refl _, QR_refl _⟩
    · rw [cF h2]
      by_cases h3 : v ≤ 2
      · rw [cT h3, decide_eq_true (show (0 : Int) ≤ v ∧ v ≤ 2 by omega), cond_true, e_W_spy_18 _ _ _ _ _ _ (by omega), Int.toNat_natCast]
        by_cases h0 : v = 0
        · rw [nT h0, nT h0, s_hasWord (by omega) (o9 ht) a1 a2, t_isWord (by omega) ht, b2.1]
          simp -implicitDefEqProofs only [ob]
          rw [cB, nB]
          by_cases h4 : 0 ≤ w ∧ w < (N t : Int)
          · obtain ⟨i, rfl, hi⟩ : ∃ i : Nat, w = (i : Int) ∧ i < N t := ⟨w.toNat, by omega, by omega⟩
            have hnr := s_nearTo (z := z) (d := e) (o := 4 + 9 * t) (n := N t) (w := i) (a := 1) (b := 1) (L := L t) (μ := μ) (by omega) (o9 ht) a1 a2 hi (fun v hv => (a9 v hv).1)
            have hnr' : mC z e 135 [(2, ((4 + 9 * t : Nat) : Int)), (0, (i : Int)), (0, 1), (0, 1)] μ = some (((bset (nrB (μ (4 + 9 * t + 4)) (L t) i 1 1) (N t) : Nat) : Int), μ) := hnr
            have H := down (n := N t) (P := fun k => f_M_spy_41 z e' (t : Int) (i : Int) ((bset (nrB (μ (4 + 9 * t + 4)) (L t) i 1 1) k : Nat) : Int) (k : Int) ρ = some (((bset (nrB (μ (4 + 9 * t + 4)) (L t) i 1 1) (N t) : Nat) : Int), ρ))
              (by
                rw [e_M_spy_41, t_manyOf (by omega) ht, b2.1]
                simp -implicitDefEqProofs only [ob]
                rw [cT (by omega)])
              (by
                intro k hk ih
                have hlt := f4096 (bset_lt (nrB (μ (4 + 9 * t + 4)) (L t) i 1 1) k) (show k ≤ 12 by omega)
                have hn := or_bset (p := nrB (μ (4 + 9 * t + 4)) (L t) i 1 1) (k := k)
                have hu := t_unlike (z := z) (d := e') (by omega) ht b2 hi hk
                have hiff : (if L t i = L t k then ((cnt (fun j => decide (nib (μ (4 + 9 * t + 4) i) j ≠ nib (μ (4 + 9 * t + 4) k) j)) 8 : Nat) : Int) else 1000000000) = 1 ↔ nrB (μ (4 + 9 * t + 4)) (L t) i 1 1 k = true := by
                  unfold nrB
                  by_cases e1 : L t i = L t k
                  · rw [if_pos e1, decide_eq_true e1, Bool.true_and, decide_eq_true_iff]
                    omega
                  · rw [if_neg e1, decide_eq_false e1, Bool.false_and]
                    constructor
                    · intro h; omega
                    · intro h; exact absurd h (by decide)
                rw [hn] at ih
                rw [e_M_spy_41, t_manyOf (by omega) ht, b2.1]
                simp -implicitDefEqProofs only [ob]
                rw [cF (by omega), hu]
                simp -implicitDefEqProofs only [ob]
                by_cases hb : nrB (μ (4 + 9 * t + 4)) (L t) i 1 1 k = true
                · rw [if_pos hb] at ih
                  rw [nT (hiff.mpr hb), e_M_spy_72, zwc (by omega), s_or1 (by omega) (by omega)]
                  exact ih
                · rw [if_neg hb] at ih
                  rw [nF (fun q => hb (hiff.mp q)), e_M_spy_72, zwc (by omega)]
                  exact ih) 0 (by omega)
            have H' : f_M_spy_41 z e' (t : Int) (i : Int) 0 0 ρ = some (((bset (nrB (μ (4 + 9 * t + 4)) (L t) i 1 1) (N t) : Nat) : Int), ρ) := H
            rw [decide_eq_true h4, cond_true, cond_true, hnr', e_M_spy_31, nT h0, H']
            simp -implicitDefEqProofs only [ob]
            rw [e_W_spy_51]
            exact ⟨_, _, _, rfl, rfl, QC_refl _, QR_refl _⟩
          · rw [decide_eq_false h4, cond_false, cond_false, e_W_spy_51, hno']
            exact ⟨_, _, _, rfl, rfl, QC_refl _, QR_refl _⟩
        · have hH : isH (23 + 6 * t) := by unfold isH; omega
          obtain ⟨R, r1, r2⟩ := s_spyloop (z := z) (e := e) (s := t) (N := N t) (v := v) (L := L t) (μ := μ) (by omega) ht a1 a2 (fun w hw => (a9 w hw).1) (N t) 0 (zrow (zup μ (23 + 6 * t) 5 0) (23 + 6 * t + 2) (fil (μ (23 + 6 * t + 2)) 0 12)) (by omega) (fun a ha => by rw [zrow_ne (by omega), zup_ro (by omega)]) (by rw [zrow_ne (by omega)]; exact zup_hit) (fun w h => by omega)
          have z00 : ((0 : Nat) : Int) = 0 := rfl
          rw [z00] at r1
          rw [nF h0, nF h0, e_W_spy_52 _ _ _ _ _ _ (o9 ht) (by omega), Int.toNat_natCast, s_clear (by omega) hH]
          simp -implicitDefEqProofs only [ob]
          rw [r1, e_M_spy_31, nF h0, t_sploop (by omega) ht b2 h0 (fun w hw => (a9 w hw).1) a10]
          exact ⟨_, _, _, rfl, rfl, ⟨fun a q1 q2 q3 q4 q5 q6 _ => r2 a (by omega), fun k _ _ => ⟨by rw [r2 41 (by omega)], by rw [r2 47 (by omega)]⟩⟩, QR_refl _⟩
      · rw [cF h3, decide_eq_false (show ¬ ((0 : Int) ≤ v ∧ v ≤ 2) by omega), cond_false, hno, hno']
        exact ⟨_, _, _, rfl, rfl, QC_refl _, QR_refl _⟩
  · rw [decide_eq_false h1, cond_false, cond_false, hno, hno']
    exact ⟨_, _, _, rfl, rfl, QC_refl _, QR_refl _⟩
