/-! against: the scan over sets, and both -/
theorem t_agloop {z : zZ} {e s N N' f F' : Nat} {v : Int} {W W' r : Row} {L L' : Nat → Nat} {ρ : Mu} (he : 3 ≤ e) (hs : s < 2) (hx : lexR ρ s N W L) (hx' : lexR ρ (1 - s) N' W' L') (hf : ρ 86 (16 + s) = (f : Int)) (hf2 : f < 2 ^ N) (h6 : cnt f.testBit 12 ≤ 6) (hF : ρ 86 (16 + (1 - s)) = (F' : Int)) (h4 : F' < 4096) (hh : hr (ρ 90)) (hr9 : rkr r) (hrr : ∀ k, k < 12 → ρ 89 (12 * (1 - s) + k) = r k) : ∀ (j T k : Nat) (P : Mu), j + T = 2 ^ N → 1 ≤ T → k ≤ N → T ≤ 2 ^ k → (∀ i, i + 1 = k → 2 ^ i < T) → (∀ a, a ≠ 122 → P a = ρ a) → ∃ R, f_M_against_26 z e (s : Int) v (((agL (fun w => cfb f w (W w) (ρ 90) (12 * s)) (fun w => nb1 N' F' W' r (W w)) k).2 : Nat) : Int) (((agL (fun w => cfb f w (W w) (ρ 90) (12 * s)) (fun w => nb1 N' F' W' r (W w)) k).1 : Nat) : Int) (T : Int) P = some (agV v (agL (fun w => cfb f w (W w) (ρ 90) (12 * s)) (fun w => nb1 N' F' W' r (W w)) N), R) ∧ ∀ a, a ≠ 122 → R a = ρ a := by
  have h12 := hx.2.1
  have hN4 : 2 ^ N ≤ 4096 := by have := Nat.pow_le_pow_right (show 0 < 2 by decide) h12; exact this
  obtain ⟨p, hp⟩ : ∃ p : Nat → Bool, p = fun w => cfb f w (W w) (ρ 90) (12 * s) := ⟨_, rfl⟩
  obtain ⟨g, hg⟩ : ∃ g : Nat → Nat, g = fun w => nb1 N' F' W' r (W w) := ⟨_, rfl⟩
  have hpw : ∀ w, p w = cfb f w (W w) (ρ 90) (12 * s) := fun w => by rw [hp]
  have hgw : ∀ w, g w = nb1 N' F' W' r (W w) := fun w => by rw [hg]
  rw [← hp, ← hg]
  intro j
  induction j with
  | zero =>
    intro T k P hj hT1 hk hTk hTi hP
    have hT : T = 2 ^ N := by omega
    have e : k = N := by
      apply Classical.byContradiction
      intro hne
      have : 2 ^ k < 2 ^ N := Nat.pow_lt_pow_right (by omega) (by omega)
      omega
    subst e
    refine ⟨P, ?_, hP⟩
    rw [e_M_against_26, t_manyOf (by omega) hs, hP 86 (by omega), hx.1]
    simp -implicitDefEqProofs only [ob]
    rw [z_shl1 (by omega), cT (by omega)]
    unfold agV
    by_cases h0 : v = 0
    · rw [nT h0, if_pos h0, e_M_against_112]
    · rw [nF h0, if_neg h0, e_M_against_112]
  | succ j ih =>
    intro T k P hj hT1 hk hTk hTi hP
    have hT : T < 2 ^ N := by omega
    have y0 := lexR_congr (M := P) hx (hP 86 (by omega)) (hP 94 (by omega)) (hP 95 (by omega))
    obtain ⟨h', b, c1, c2⟩ := t_canBeFormed (z := z) (d := e) (T := T) (by omega) hs y0 (by rw [hP 86 (by omega)]; exact hf) hf2 h6 hT (by rw [hP 90 (by omega)]; exact hh)
    rw [hP 90 (by omega)] at c2
    generalize hQ : zrow P 122 h' = Q at c1
    have hQr : ∀ a, a ≠ 122 → Q a = ρ a := fun a q => by subst hQ; rw [zrow_ne q]; exact hP a q
    clear hQ
    have x0 := lexR_congr (M := Q) hx (hQr 86 (by omega)) (hQr 94 (by omega)) (hQr 95 (by omega))
    have x1 := lexR_congr (M := Q) hx' (hQr 86 (by omega)) (hQr 94 (by omega)) (hQr 95 (by omega))
    have hbb := t_beatenBy (z := z) (d := e) (T := T) (by omega) hs x0 x1 (by rw [hQr 86 (by omega)]; exact hF) h4 (by omega) hr9 (fun k hk => by rw [hQr 89 (by omega)]; exact hrr k hk)
    have hbits := agL_bits p g k (by omega)
    have hq4 : (agL p g k).2 < 4096 := by
      have : 2 ^ k ≤ 2 ^ N := Nat.pow_le_pow_right (by omega) hk
      omega
    rw [e_M_against_26, t_manyOf (by omega) hs, hP 86 (by omega), hx.1]
    simp -implicitDefEqProofs only [ob]
    rw [z_shl1 (by omega), cF (by omega), c1]
    simp -implicitDefEqProofs only [ob]
    rw [nB]
    by_cases hcase : T = 2 ^ k
    · -- a word more
      have hkN : k < N := by
        apply Nat.lt_of_le_of_ne hk
        intro e
        subst e
        omega
      have hbp : b = p k := by
        have hiff : b = true ↔ p k = true := by
          rw [c2, hpw, hcase]
          constructor
          · intro h
            exact okT_cfb h12 hkN (by rw [Nat.testBit_two_pow]; exact decide_eq_true rfl) h
          · intro h
            exact cfb_okT h12 hkN (hx.2.2 k hkN).2.2.1 hh h
        cases b <;> cases hpk : p k
        · rfl
        · rw [hpk] at hiff; exact absurd (hiff.mpr rfl) (by decide)
        · rw [hpk] at hiff; exact absurd (hiff.mp rfl) (by decide)
        · rfl
      have hag : agL p g (k + 1) = if p k = true ∧ (agL p g k).1 < g k then (g k, 2 ^ k) else agL p g k := rfl
      have hnext := fun P hP => ih (T + 1) (k + 1) P (by omega) (by omega) (by omega) (by rw [hcase, Nat.pow_succ]; have := Nat.pow_pos (n := k) (show 0 < 2 by decide); omega) (fun i hi => by
        have : i = k := by omega
        subst this
        omega) hP
      rw [hag] at hnext
      have hcnt : cnt T.testBit 12 = 1 := by rw [hcase]; exact cnt_pow (by omega)
      have hnb : nbT N N' F' W W' r T = g k := by rw [hcase, nbT_1 hkN, hgw]
      rw [hbp]
      by_cases hpk : p k = true
      · rw [hpk, cond_true, e_M_against_51, hbb, hnb]
        simp -implicitDefEqProofs only [ob]
        by_cases hc : (agL p g k).1 < g k
        · rw [if_pos ⟨hpk, hc⟩] at hnext
          rw [cF (by omega), nF (by omega), e_M_against_89, e_M_against_96, zwc (by omega)]
          have := hnext Q hQr
          rw [← hcase] at this
          exact this
        · rw [if_neg (fun h => hc h.2)] at hnext
          by_cases hl : g k < (agL p g k).1
          · rw [cT (by omega), e_M_against_96, zwc (by omega)]
            exact hnext Q hQr
          · rw [cF (by omega), nT (by omega), t_bits (by omega) (by omega)]
            simp -implicitDefEqProofs only [ob]
            rw [t_bits (by omega) (by omega), hcnt]
            simp -implicitDefEqProofs only [ob]
            have hne : ¬ (((1 : Nat) : Int) < ((cnt (agL p g k).2.testBit 12 : Nat) : Int)) := by omega
            rw [cF hne, e_M_against_96, zwc (by omega)]
            exact hnext Q hQr
      · have hpk' : p k = false := by simpa using hpk
        rw [if_neg (fun h => hpk h.1)] at hnext
        rw [hpk', cond_false, e_M_against_96, zwc (by omega)]
        exact hnext Q hQr
    · -- a word more with others
      have hTlt : T < 2 ^ k := by omega
      obtain ⟨i, hi⟩ : ∃ i, i + 1 = k := by
        cases k with
        | zero => exfalso; rw [Nat.pow_zero] at hTlt; omega
        | succ i => exact ⟨i, rfl⟩
      have hTi2 := hTi i hi
      have hnext := fun P hP => ih (T + 1) k P (by omega) (by omega) hk (by omega) (fun i' hi' => by have := hTi i' hi'; omega) hP
      cases b with
      | false =>
        rw [cond_false, e_M_against_96, zwc (by omega)]
        exact hnext Q hQr
      | true =>
        have hok := c2.mp rfl
        have hle : nbT N N' F' W W' r T ≤ (agL p g k).1 := nbT_le hT (by omega) (fun w hw ht => by
          rw [← hgw]
          exact agL_ge p g k w (bit_lt hTlt ht) (by rw [hpw]; exact okT_cfb h12 hw ht hok))
        have htwo : 2 ≤ cnt T.testBit 12 := cnt_two (k := i) (by omega) hTi2 (by rw [hi]; exact hTlt)
        rw [cond_true, e_M_against_51, hbb]
        simp -implicitDefEqProofs only [ob]
        by_cases hl : nbT N N' F' W W' r T < (agL p g k).1
        · rw [cT (by omega), e_M_against_96, zwc (by omega)]
          exact hnext Q hQr
        · rw [cF (by omega), nT (by omega), t_bits (by omega) (by omega)]
          simp -implicitDefEqProofs only [ob]
          rw [t_bits (by omega) (by omega)]
          simp -implicitDefEqProofs only [ob]
          have hne : ¬ (((cnt T.testBit 12 : Nat) : Int) < ((cnt (agL p g k).2.testBit 12 : Nat) : Int)) := by omega
          rw [cF hne, e_M_against_96, zwc (by omega)]
          exact hnext Q hQr
theorem against_both {z : zZ} {d d' wl : Nat} {s v : Int} {μ ρ : Mu} {N F : Nat → Nat} {L : Nat → Nat → Nat} (hd : 6 ≤ d) (hd' : 5 ≤ d') (hB : BT μ ρ N F L wl) : QU z d d' 115 265 [(2, 0), (0, s), (0, v)] [(2, 86), (0, s), (0, v)] μ ρ := by
  obtain ⟨e, rfl, he⟩ := pred_of (k := 5) hd
  obtain ⟨e', rfl, he'⟩ := pred_of (k := 4) hd'
  unfold QU
  rw [c_W_against, c_M_against, s_isSide (by omega), t_isSide (by omega)]
  simp -implicitDefEqProofs only [ob]
  rw [cB, cB]
  by_cases h1 : s = 0 ∨ s = 1
  · rw [decide_eq_true h1, cond_true, cond_true, t_in (by omega)]
    simp -implicitDefEqProofs only [ob]
    rw [nB]
    by_cases h2 : v < 0
    · rw [cT h2, decide_eq_false (show ¬ ((0 : Int) ≤ v ∧ v ≤ 1) by omega), cond_false, e_W_against_16, e_M_against_16]
      exact ⟨_, _, _, rfl, rfl, QC_refl _, QR_refl _⟩
    · rw [cF h2]
      by_cases h3 : v ≤ 1
      · rw [cT h3, decide_eq_true (show (0 : Int) ≤ v ∧ v ≤ 1 by omega), cond_true]
        obtain ⟨t, rfl, ht⟩ : ∃ t : Nat, s = (t : Int) ∧ t < 2 := ⟨s.toNat, by omega, by omega⟩
        have ht' : 1 - t < 2 := by omega
        obtain ⟨hC, hR, _, _, ⟨c7, _, _⟩, _⟩ := hB
        obtain ⟨a1, a2, a3, a4, a5, a6, a7, a8, a9, _⟩ := hC t ht
        obtain ⟨k1, k2, k3, k4, k5, k6, k7, k8, k9, _⟩ := hC (1 - t) ht'
        obtain ⟨b1, b2, b3, b4, b5, b6, b7⟩ := hR t ht
        obtain ⟨q1, q2, q3, q4, q5, q6, q7⟩ := hR (1 - t) ht'
        have hcl := s_agloop (z := z) (e := e) (v := v) (by omega) ht hC
        have hpf : (fun w => cfb (F t) w (μ (4 + 9 * t + 4) w) (μ (4 + 9 * t + 3)) 0) = (fun w => cfb (F t) w (μ (4 + 9 * t + 4) w) (ρ 90) (12 * t)) := funext (fun w => (cfb_pt b3).symm)
        rw [hpf] at hcl
        have hrr : ∀ k, k < 12 → ρ 89 (12 * (1 - t) + k) = μ (4 + 9 * (1 - t) + 2) k := fun k hk => by
          have := q7 k hk
          rw [Nat.zero_add] at this
          exact this
        rw [e_W_against_18 _ _ _ _ _ (by omega), Int.toNat_natCast, hcl]
        -- the reference's first set
        have hp0 : (0 : Nat) < 2 ^ N t := Nat.pow_pos (by decide)
        obtain ⟨h', b, c1, c2⟩ := t_canBeFormed (z := z) (d := e') (T := 0) (by omega) ht b2 b1 a4 a5 hp0 c7
        have hb : b = true := c2.mpr (okT_0 (fun x _ => (c7 _).1))
        subst hb
        have x0 := lexR_congr (M := zrow ρ 122 h') b2 (zrow_ne (by omega)) (zrow_ne (by omega)) (zrow_ne (by omega))
        have x1 := lexR_congr (M := zrow ρ 122 h') q2 (zrow_ne (by omega)) (zrow_ne (by omega)) (zrow_ne (by omega))
        have hbb := t_beatenBy (z := z) (d := e') (T := 0) (r := μ (4 + 9 * (1 - t) + 2)) (by omega) ht x0 x1 (by rw [zrow_ne (by omega)]; exact q1) (f4096 k4 k2) (by omega) k8 (fun k hk => by rw [zrow_ne (by omega)]; exact hrr k hk)
        rw [nbT_0] at hbb
        obtain ⟨R, r1, r2⟩ := t_agloop (z := z) (e := e') (v := v) (r := μ (4 + 9 * (1 - t) + 2)) (by omega) ht b2 q2 b1 a4 a5 q1 (f4096 k4 k2) c7 k8 hrr (2 ^ N t - 1) 1 0 (zrow ρ 122 h') (by omega) (Nat.le_refl _) (Nat.zero_le _) (by rw [Nat.pow_zero]; exact Nat.le_refl _) (fun i hi => by omega) (fun a q => zrow_ne q)
        have z00 : ((0 : Nat) : Int) = 0 := rfl
        have z01 : ((1 : Nat) : Int) = 1 := rfl
        rw [z00] at c1 hbb
        have a00 : ∀ (p : Nat → Bool) (g : Nat → Nat), agL p g 0 = (0, 0) := fun _ _ => rfl
        rw [a00, z01] at r1
        have r1' : f_M_against_26 z e' (t : Int) v 0 0 1 (zrow ρ 122 h') = _ := r1
        have h26 : f_M_against_26 z e' (t : Int) v 0 (-1) 0 ρ = f_M_against_26 z e' (t : Int) v 0 0 1 (zrow ρ 122 h') := by
          rw [e_M_against_26, t_manyOf (by omega) ht, b2.1]
          simp -implicitDefEqProofs only [ob]
          rw [z_shl1 (by omega), cF (by omega), c1]
          simp -implicitDefEqProofs only [ob]
          rw [bi_t, nF (by decide), e_M_against_51, hbb]
          simp -implicitDefEqProofs only [ob]
          rw [cF (by decide), nF (by decide), e_M_against_89, e_M_against_96]
          rfl
        rw [h26, r1']
        exact ⟨_, _, _, rfl, rfl, QC_refl _, ⟨fun a g1 g2 g3 g4 => r2 a (by omega), fun k g => by rw [r2 86 (by omega)]⟩⟩
      · rw [cF h3, decide_eq_false (show ¬ ((0 : Int) ≤ v ∧ v ≤ 1) by omega), cond_false, e_W_against_16, e_M_against_16]
        exact ⟨_, _, _, rfl, rfl, QC_refl _, QR_refl _⟩
  · rw [decide_eq_false h1, cond_false, cond_false, e_W_against_16, e_M_against_16]
    exact ⟨_, _, _, rfl, rfl, QC_refl _, QR_refl _⟩
