/-! word, beats and place in both -/
theorem beats_both {z : zZ} {d d' wl : Nat} {w v : Int} {μ ρ : Mu} {N F : Nat → Nat} {L : Nat → Nat → Nat} (hd : 6 ≤ d) (hd' : 5 ≤ d') (hB : BT μ ρ N F L wl) : QU z d d' 101 259 [(2, 0), (0, w), (0, v)] [(2, 86), (0, w), (0, v)] μ ρ := by
  obtain ⟨e, rfl, he⟩ := pred_of (k := 5) hd
  obtain ⟨e', rfl, he'⟩ := pred_of (k := 4) hd'
  unfold QU
  obtain ⟨hC, hR, _⟩ := hB
  obtain ⟨a1, a2, a3, a4, a5, a6, a7, a8, a9, _⟩ := hC 0 (by omega)
  obtain ⟨k1, k2, k3, k4, k5, k6, k7, k8, k9, _⟩ := hC 1 (by omega)
  obtain ⟨b1, b2, b3, b4, b5, b6, b7⟩ := hR 0 (by omega)
  obtain ⟨q1, q2, q3, q4, q5, q6, q7⟩ := hR 1 (by omega)
  have s1 := s_hasWord (z := z) (d := e) (o := 4) (w := w) (by omega) (Or.inl rfl) a1 a2
  have s2 := s_hasWord (z := z) (d := e) (o := 13) (w := v) (by omega) (Or.inr rfl) k1 k2
  have t1 := t_isWord (z := z) (d := e') (s := 0) (w := w) (μ := ρ) (by omega) (by omega)
  have t2 := t_isWord (z := z) (d := e') (s := 1) (w := v) (μ := ρ) (by omega) (by omega)
  rw [b2.1] at t1
  rw [q2.1] at t2
  have s1' : mC z e 37 [(2, 4), (0, w)] μ = some (bi (decide (0 ≤ w ∧ w < (N 0 : Int))), μ) := s1
  have s2' : mC z e 37 [(2, 13), (0, v)] μ = some (bi (decide (0 ≤ v ∧ v < (N 1 : Int))), μ) := s2
  have t1' : mC z e' 257 [(2, 86), (0, 0), (0, w)] ρ = some (bi (decide (0 ≤ w ∧ w < (N 0 : Int))), ρ) := t1
  have t2' : mC z e' 257 [(2, 86), (0, 1), (0, v)] ρ = some (bi (decide (0 ≤ v ∧ v < (N 1 : Int))), ρ) := t2
  rw [c_W_beats, c_M_beats, s1', t1']
  simp -implicitDefEqProofs only [ob]
  rw [cB, cB]
  by_cases h1 : 0 ≤ w ∧ w < (N 0 : Int)
  · rw [decide_eq_true h1, cond_true, cond_true, s2', t2']
    simp -implicitDefEqProofs only [ob]
    rw [nB, cB]
    by_cases h2 : 0 ≤ v ∧ v < (N 1 : Int)
    · rw [decide_eq_true h2, cond_true, cond_true]
      obtain ⟨i, rfl, hi⟩ : ∃ i : Nat, w = (i : Int) ∧ i < N 0 := ⟨w.toNat, by omega, by omega⟩
      obtain ⟨j, rfl, hj⟩ : ∃ j : Nat, v = (j : Int) ∧ j < N 1 := ⟨v.toNat, by omega, by omega⟩
      have hfo := t_fightOf (z := z) (d := e') (w := i) (v := j) (r0 := μ 6) (r1 := μ 15) (by omega) b2 q2 hi hj a8 k8 (fun k hk => by
        have := b7 k hk
        rw [Nat.zero_add] at this
        rw [← this]) (fun k hk => by
        have := q7 k hk
        rw [Nat.zero_add] at this
        rw [← this])
      rw [gI_ok (by omega) (by omega), gI_ok (by omega) (by omega), Int.toNat_natCast, Int.toNat_natCast, s_outcome (by omega) a8 k8, hfo]
      simp -implicitDefEqProofs only [ob]
      rw [e_M_beats_29]
      exact ⟨_, _, _, rfl, rfl, QC_refl _, QR_refl _⟩
    · rw [decide_eq_false h2, cond_false, cond_false, e_W_beats_26, e_M_beats_27, e_M_beats_29]
      exact ⟨_, _, _, rfl, rfl, QC_refl _, QR_refl _⟩
  · rw [decide_eq_false h1, cond_false, cond_false, e_W_beats_26, e_M_beats_27, e_M_beats_29]
    exact ⟨_, _, _, rfl, rfl, QC_refl _, QR_refl _⟩
theorem place_both {z : zZ} {d d' wl : Nat} {s w v : Int} {μ ρ : Mu} {N F : Nat → Nat} {L : Nat → Nat → Nat} (hd : 6 ≤ d) (hd' : 5 ≤ d') (hB : BT μ ρ N F L wl) : QU z d d' 103 261 [(2, 0), (0, s), (0, w), (0, v)] [(2, 86), (0, s), (0, w), (0, v)] μ ρ := by
  obtain ⟨e, rfl, he⟩ := pred_of (k := 5) hd
  obtain ⟨e', rfl, he'⟩ := pred_of (k := 4) hd'
  unfold QU
  obtain ⟨hC, hR, _⟩ := hB
  have hno : f_W_place_29 z e μ = some (-1, μ) := by rw [e_W_place_29]
  have hno' : f_M_place_18 z e' ρ = some (-1, ρ) := by rw [e_M_place_18]
  rw [c_W_place, c_M_place, s_isSide (by omega)]
  simp -implicitDefEqProofs only [ob]
  rw [cB]
  by_cases h1 : s = 0 ∨ s = 1
  · rw [decide_eq_true h1, cond_true]
    obtain ⟨t, rfl, ht⟩ : ∃ t : Nat, s = (t : Int) ∧ t < 2 := ⟨s.toNat, by omega, by omega⟩
    have ht' : 1 - t < 2 := by omega
    obtain ⟨a1, a2, a3, a4, a5, a6, a7, a8, a9, _⟩ := hC t ht
    obtain ⟨k1, k2, k3, k4, k5, k6, k7, k8, k9, _⟩ := hC (1 - t) ht'
    obtain ⟨b1, b2, b3, b4, b5, b6, b7⟩ := hR t ht
    obtain ⟨q1, q2, q3, q4, q5, q6, q7⟩ := hR (1 - t) ht'
    rw [e_W_place_7 _ _ _ _ _ _ (by omega), Int.toNat_natCast, s_hasWord (by omega) (o9 ht) a1 a2, t_isWord (by omega) ht, b2.1]
    simp -implicitDefEqProofs only [ob]
    rw [cB, cB]
    by_cases h2 : 0 ≤ w ∧ w < (N t : Int)
    · obtain ⟨i, rfl, hi⟩ : ∃ i : Nat, w = (i : Int) ∧ i < N t := ⟨w.toNat, by omega, by omega⟩
      rw [decide_eq_true h2, cond_true, cond_true, t_in (by omega)]
      simp -implicitDefEqProofs only [ob]
      rw [nB]
      by_cases h3 : v < 0
      · rw [cT h3, decide_eq_false (show ¬ ((0 : Int) ≤ v ∧ v ≤ 1) by omega), cond_false, hno, hno']
        exact ⟨_, _, _, rfl, rfl, QC_refl _, QR_refl _⟩
      · rw [cF h3]
        by_cases h4 : v ≤ 1
        · rw [cT h4, decide_eq_true (show (0 : Int) ≤ v ∧ v ≤ 1 by omega), cond_true, e_W_place_31 _ _ _ _ _ _ (by omega), Int.toNat_natCast]
          by_cases h5 : v = 0
          · rw [nT h5, nT h5, s_place (by omega) (o9 ht) (o9 ht) a1 a2 hi a8, t_place (by omega) ht ht b2 hi a8 (fun k hk => by
              have := b7 k hk
              rw [Nat.zero_add] at this
              exact this)]
            exact ⟨_, _, _, rfl, rfl, QC_refl _, QR_refl _⟩
          · rw [nF h5, nF h5, e_W_place_48 _ _ _ _ _ _ (o9 ht) (by omega), z1s ht, Int.toNat_natCast, s_place (by omega) (o9 ht) (o9 ht') a1 a2 hi k8, t_place (by omega) ht ht' b2 hi k8 (fun k hk => by
              have := q7 k hk
              rw [Nat.zero_add] at this
              exact this)]
            exact ⟨_, _, _, rfl, rfl, QC_refl _, QR_refl _⟩
        · rw [cF h4, decide_eq_false (show ¬ ((0 : Int) ≤ v ∧ v ≤ 1) by omega), cond_false, hno, hno']
          exact ⟨_, _, _, rfl, rfl, QC_refl _, QR_refl _⟩
    · rw [decide_eq_false h2, cond_false, cond_false, hno, hno']
      exact ⟨_, _, _, rfl, rfl, QC_refl _, QR_refl _⟩
  · rw [decide_eq_false h1, cond_false, hno, t_isWord_no (by omega) h1]
    simp -implicitDefEqProofs only [ob]
    rw [cTt, hno']
    exact ⟨_, _, _, rfl, rfl, QC_refl _, QR_refl _⟩
