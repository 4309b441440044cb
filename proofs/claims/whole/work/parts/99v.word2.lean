/-! word in both -/
theorem word_both {z : zZ} {d d' wl : Nat} {s w v : Int} {μ ρ : Mu} {N F : Nat → Nat} {L : Nat → Nat → Nat} (hd : 8 ≤ d) (hd' : 6 ≤ d') (hv : v < 2147483648) (hB : BT μ ρ N F L wl) : QU z d d' 99 256 [(2, 0), (0, s), (0, w), (0, v)] [(2, 86), (0, s), (0, w), (0, v)] μ ρ := by
  obtain ⟨e, rfl, he⟩ := pred_of (k := 7) hd
  obtain ⟨e', rfl, he'⟩ := pred_of (k := 5) hd'
  unfold QU
  obtain ⟨hC, hR, ⟨c1, c2, c3, c4⟩, ⟨c5, c6⟩, ⟨c7, _, _⟩, hw, c8, Nn, lt, Dv, Dc, l1, l2, l3, l4⟩ := hB
  have hno : f_W_word_20 z e μ = some (-1, μ) := by rw [e_W_word_20]
  rw [c_W_word, c_M_word, s_isSide (by omega)]
  simp -implicitDefEqProofs only [ob]
  rw [cB]
  by_cases h1 : s = 0 ∨ s = 1
  · rw [decide_eq_true h1, cond_true]
    obtain ⟨t, rfl, ht⟩ : ∃ t : Nat, s = (t : Int) ∧ t < 2 := ⟨s.toNat, by omega, by omega⟩
    obtain ⟨a1, a2, a3, a4, a5, a6, a7, a8, a9, _⟩ := hC t ht
    obtain ⟨b1, b2, b3, b4, b5, b6, b7⟩ := hR t ht
    rw [e_W_word_7 _ _ _ _ _ _ (by omega), Int.toNat_natCast, s_hasWord (by omega) (o9 ht) a1 a2, t_isWord (by omega) ht, b2.1]
    simp -implicitDefEqProofs only [ob]
    rw [nB, nB]
    by_cases h2 : 0 ≤ w ∧ w < (N t : Int)
    · obtain ⟨i, rfl, hi⟩ : ∃ i : Nat, w = (i : Int) ∧ i < N t := ⟨w.toNat, by omega, by omega⟩
      obtain ⟨g1, g2, g3⟩ := b2.2.2 i hi
      have hn8 := g3.1.2.1
      rw [decide_eq_true h2, cond_true, cond_true, e_W_word_22 _ _ _ _ _ _ (by omega), gI_ok (by omega) (by omega), Int.toNat_natCast, Int.toNat_natCast]
      by_cases k0 : v = 0
      · rw [cT k0, cT k0, e_W_word_76, s_sizeOf (by omega) (a9 i hi).1, e_M_word_48, t_longOf (by omega) ht (by omega), g2]
        simp -implicitDefEqProofs only [ob]
        exact ⟨_, _, _, rfl, rfl, QC_refl _, QR_refl _⟩
      · rw [cF k0, cF k0]
        by_cases k1 : v = 1
        · rw [cT k1, cT k1, e_W_word_82, s_strengthOf (by omega) c5, e_M_word_55, t_strengthIn (by omega) ht b2 hi c5 c6]
          simp -implicitDefEqProofs only [ob]
          exact ⟨_, _, _, rfl, rfl, QC_refl _, QR_refl _⟩
        · rw [cF k1, cF k1]
          by_cases k2 : v = 2
          · rw [cT k2, cT k2, e_W_word_89 _ _ _ _ _ (o9 ht), s_stands (by omega) (o9 ht) a1 a2 a3 (f4096 a4 a2), e_M_word_62, t_fieldOf (by omega) ht, b1]
            simp -implicitDefEqProofs only [ob]
            rw [t_has (by omega) (by have := f4096 a4 a2; omega) (by omega)]
            simp -implicitDefEqProofs only [ob]
            rw [decide_eq_true (show (0 : Int) ≤ (i : Int) ∧ (i : Int) < (N t : Int) by omega), Bool.true_and, Int.toNat_natCast, cB, cB]
            cases (F t).testBit i
            · rw [cond_false, cond_false, e_W_word_103, e_M_word_79]
              exact ⟨_, _, _, rfl, rfl, QC_refl _, QR_refl _⟩
            · rw [cond_true, cond_true, e_W_word_103, e_M_word_79]
              exact ⟨_, _, _, rfl, rfl, QC_refl _, QR_refl _⟩
          · rw [cF k2, cF k2]
            by_cases k3 : v = 3
            · have hcf : mC z e 72 [(2, ((4 + 9 * t : Nat) : Int)), (0, (i : Int))] μ = some (bi (cfb (F t) i (μ (4 + 9 * t + 4) i) (μ (4 + 9 * t + 3)) 0), μ) := s_canForm (by omega) (o9 ht) a1 a2 a3 (f4096 a4 a2) hi
              rw [cT k3, cT k3, e_W_word_104 _ _ _ _ _ (o9 ht), hcf, e_M_word_80, t_canForm (by omega) ht b2 hi b1 (f4096 a4 a2), cfb_pt b3]
              simp -implicitDefEqProofs only [ob]
              rw [cB, cB]
              cases cfb (F t) i (μ (4 + 9 * t + 4) i) (μ (4 + 9 * t + 3)) 0
              · rw [cond_false, cond_false, e_W_word_118, e_M_word_94]
                exact ⟨_, _, _, rfl, rfl, QC_refl _, QR_refl _⟩
              · rw [cond_true, cond_true, e_W_word_118, e_M_word_94]
                exact ⟨_, _, _, rfl, rfl, QC_refl _, QR_refl _⟩
            · rw [cF k3, cF k3]
              by_cases k4 : v = 4
              · obtain ⟨M, m1, m2⟩ := s_worthOf (z := z) (d := e) (s := (t : Int)) (by omega) hw c8 l1 l3 l4 (a9 i hi).1 c5
                obtain ⟨P, p1, p2⟩ := t_worthOf (z := z) (d := e') (by omega) ht b2 hi l2 l3 l4 c5 c6
                rw [cT k4, cT k4, e_W_word_119, m1, e_M_word_95, p1, c1]
                simp -implicitDefEqProofs only [ob]
                exact ⟨_, _, _, rfl, rfl, QC_lfa hw m2, ⟨fun a q1 q2 q3 _ => p2 a q2 q3, fun k _ => by rw [p2 86 (by omega) (by omega)]⟩⟩
              · rw [cF k4, cF k4, e_W_word_127, e_M_word_102, t_longOf (by omega) ht (by omega), g2]
                simp -implicitDefEqProofs only [ob]
                rw [t_in (by omega), zw_id (x := 9 + (L t i : Int)) (by omega) (by omega)]
                simp -implicitDefEqProofs only [ob]
                rw [cB]
                by_cases k5 : 10 ≤ v
                · rw [cT k5, s_letterAt (by omega), zw_id (x := v - 10) (by omega) (by omega)]
                  simp -implicitDefEqProofs only [ob]
                  rw [e_W_word_146]
                  by_cases k6 : v ≤ 9 + (L t i : Int)
                  · obtain ⟨j, hj⟩ : ∃ j : Nat, v - 10 = (j : Int) := ⟨(v - 10).toNat, by omega⟩
                    have e1 : zw (zw (((8 * (12 * t + i) : Nat) : Int) + v) - 10) = ((8 * (12 * t + i) + j : Nat) : Int) := by
                      rw [zw_id (x := ((8 * (12 * t + i) : Nat) : Int) + v) (by omega) (by omega), zw_id (by omega) (by omega)]
                      omega
                    rw [decide_eq_true (show (10 : Int) ≤ v ∧ v ≤ 9 + (L t i : Int) by omega), cond_true, t_beginOf (by omega) ht (by omega)]
                    simp -implicitDefEqProofs only [ob]
                    rw [e1, gI_ok (by omega) (by omega), Int.toNat_natCast, e_M_word_139, g3.2 j (by omega), hj, letc_nat (by omega)]
                    exact ⟨_, _, _, rfl, rfl, QC_refl _, QR_refl _⟩
                  · rw [decide_eq_false (show ¬ ((10 : Int) ≤ v ∧ v ≤ 9 + (L t i : Int)) by omega), cond_false, e_M_word_139]
                    have e2 : letc (μ (4 + 9 * t + 4) i) (v - 10) = -1 := by
                      by_cases k7 : v - 10 < 8
                      · obtain ⟨j, hj⟩ : ∃ j : Nat, v - 10 = (j : Int) := ⟨(v - 10).toNat, by omega⟩
                        rw [hj, letc_nat (by omega), g3.1.2.2.2 j (by omega)]
                        rfl
                      · exact letc_out (by omega)
                    rw [e2]
                    exact ⟨_, _, _, rfl, rfl, QC_refl _, QR_refl _⟩
                · rw [cF k5, decide_eq_false (show ¬ ((10 : Int) ≤ v ∧ v ≤ 9 + (L t i : Int)) by omega), cond_false, e_W_word_146, e_M_word_139]
                  exact ⟨_, _, _, rfl, rfl, QC_refl _, QR_refl _⟩
    · rw [decide_eq_false h2, cond_false, cond_false, hno]
      exact ⟨_, _, _, rfl, rfl, QC_refl _, QR_refl _⟩
  · rw [decide_eq_false h1, cond_false, hno, t_isWord_no (by omega) h1]
    simp -implicitDefEqProofs only [ob]
    rw [nTt]
    exact ⟨_, _, _, rfl, rfl, QC_refl _, QR_refl _⟩
