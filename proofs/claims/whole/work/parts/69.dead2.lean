/-! the reference's line of the dead -/
theorem t_deadline {z : zZ} {e s : Nat} {wh : Int} {r : Row} {μ : Mu} (hs : s < 2) (hh : hr (μ 91)) (hr1 : rkr r) (hrr : ∀ k, k < 12 → μ 88 (12 * s + k) = r k) (h0 : 0 ≤ wh) (hw : wh < lnS (μ 91) r (12 * s) 12) : f_M_dead_99 z e (s : Int) wh 0 μ = some (lin (μ 91) r (12 * s) wh, μ) := by
  have hstep : ∀ k : Nat, k < 12 → f_M_dead_99 z e (s : Int) (wh - lnS (μ 91) r (12 * s) k) (k : Int) μ = bif decide (wh < lnS (μ 91) r (12 * s) (k + 1)) then some (r k, μ) else f_M_dead_99 z e (s : Int) (wh - lnS (μ 91) r (12 * s) (k + 1)) ((k + 1 : Nat) : Int) μ := by
    intro k hk
    have h1 := hr1 k
    obtain ⟨l, hl⟩ : ∃ l : Nat, r k = (l : Int) := ⟨(r k).toNat, by omega⟩
    have h2 := hh (12 * s + l)
    have h3 : 0 ≤ lnS (μ 91) r (12 * s) k ∧ lnS (μ 91) r (12 * s) k ≤ k * 999 := sm_bound (g := fun j => μ 91 (12 * s + (r j).toNat)) (b := 999) (fun j => hh _) k
    have h5 : 0 ≤ lnS (μ 91) r (12 * s) 12 ∧ lnS (μ 91) r (12 * s) 12 ≤ 12 * 999 := sm_bound (g := fun j => μ 91 (12 * s + (r j).toNat)) (b := 999) (fun j => hh _) 12
    have e2 : lnS (μ 91) r (12 * s) (k + 1) = lnS (μ 91) r (12 * s) k + μ 91 (12 * s + l) := by
      show sm _ k + μ 91 (12 * s + (r k).toNat) = _
      rw [hl, Int.toNat_natCast]
      rfl
    have hq := hrr k hk
    rw [hl] at hq
    rw [e_M_dead_99, zi12 (by omega) (by omega), gI_ok (by omega) (by omega)]
    simp -implicitDefEqProofs only [Int.toNat_natCast, hq]
    rw [zi12 (by omega) (by omega), gI_ok (by omega) (by omega)]
    simp -implicitDefEqProofs only [Int.toNat_natCast]
    by_cases hc : wh < lnS (μ 91) r (12 * s) (k + 1)
    · rw [cT hc, cT (by omega), e_M_dead_162, zi12 (by omega) (by omega), gI_ok (by omega) (by omega), Int.toNat_natCast, hq, hl]
    · rw [cF hc, cF (by omega), gI_ok (by omega) (by omega), gI_ok (by omega) (by omega), zw_id (by omega) (by omega), zwc (by omega), e2]
      rw [show wh - lnS (μ 91) r (12 * s) k - μ 91 (12 * s + l) = wh - (lnS (μ 91) r (12 * s) k + μ 91 (12 * s + l)) by omega]
  unfold lin
  rcases fst1_sp (fun i => decide (wh < lnS (μ 91) r (12 * s) (i + 1))) 12 with ⟨g1, g2⟩ | ⟨u, g1, g2, g3, g4⟩
  · have := g2 11 (by omega)
    simp at this
    omega
  · rw [g1, if_neg (by omega), Int.toNat_natCast]
    have H := down (n := u) (P := fun k => f_M_dead_99 z e (s : Int) (wh - lnS (μ 91) r (12 * s) k) (k : Int) μ = some (r u, μ))
      (by
        rw [hstep u g2, g3]
        rfl)
      (by
        intro k hk ih
        rw [hstep k (by omega), g4 k hk]
        exact ih)
    have H0 := H 0 (by omega)
    have e0 : wh - lnS (μ 91) r (12 * s) 0 = wh := by
      have : lnS (μ 91) r (12 * s) 0 = 0 := rfl
      omega
    rw [e0] at H0
    exact H0
