/-! soldiers: how many, and one more -/
theorem zi4 {i c : Nat} (hi : i < 1000) (hc : c < 1000) : zw (zw (4 * (i : Int)) + (c : Int)) = ((4 * i + c : Nat) : Int) := by
  rw [zw_id (x := 4 * (i : Int)) (by omega) (by omega), zw_id (by omega) (by omega)]; omega
theorem s_enlisted {z : zZ} {d : Nat} {μ : Mu} (hd : 1 ≤ d) : mC z d 179 [(2, 65)] μ = some (((cnt (fun i => decide (0 < μ 67 (4 * i + 3))) 24 : Nat) : Int), μ) := by
  obtain ⟨e, rfl, he⟩ := pred_of hd
  rw [c_Sol_enlisted]
  have H := down (n := 24) (P := fun k => f_Sol_enlisted_4 z e ((cnt (fun i => decide (0 < μ 67 (4 * i + 3))) k : Nat) : Int) (k : Int) μ = some (((cnt (fun i => decide (0 < μ 67 (4 * i + 3))) 24 : Nat) : Int), μ))
    (by rw [e_Sol_enlisted_4, cT (by omega)])
    (by
      intro k hk ih
      have hc := cnt_le (fun i => decide (0 < μ 67 (4 * i + 3))) k
      have e3 := zi4 (i := k) (c := 3) (by omega) (by omega)
      simp -implicitDefEqProofs only [Int.cast_ofNat_Int] at e3
      rw [e_Sol_enlisted_4, cF (by omega), e3]
      clear e3
      rw [gI_ok (by omega) (by omega), Int.toNat_natCast]
      by_cases h : 0 < μ 67 (4 * k + 3)
      · rw [cF (by omega), e_Sol_enlisted_26, zwc (by omega), zwc (by omega)]
        simpa [cnt, h] using ih
      · rw [cT (by omega), e_Sol_enlisted_26, zwc (by omega)]
        simpa [cnt, h] using ih)
  exact H 0 (by omega)
theorem t_soldierMany {z : zZ} {d : Nat} {μ : Mu} (hd : 1 ≤ d) : mC z d 309 [(2, 86)] μ = some (((cnt (fun i => decide (μ 132 i ≠ -1)) 24 : Nat) : Int), μ) := by
  obtain ⟨e, rfl, he⟩ := pred_of hd
  rw [c_M_soldierMany]
  have H := down (n := 24) (P := fun k => f_M_soldierMany_4 z e ((cnt (fun i => decide (μ 132 i ≠ -1)) k : Nat) : Int) (k : Int) μ = some (((cnt (fun i => decide (μ 132 i ≠ -1)) 24 : Nat) : Int), μ))
    (by rw [e_M_soldierMany_4, cT (by omega)])
    (by
      intro k hk ih
      have hc := cnt_le (fun i => decide (μ 132 i ≠ -1)) k
      rw [e_M_soldierMany_4, cF (by omega), gI_ok (by omega) (by omega), Int.toNat_natCast]
      by_cases h : μ 132 k = -1
      · rw [nT h, e_M_soldierMany_26, Int.add_zero, zw_id (by omega) (by omega), zwc (by omega)]
        simpa [cnt, h] using ih
      · rw [nF h, e_M_soldierMany_26, zwc (by omega), zwc (by omega)]
        simpa [cnt, h] using ih)
  exact H 0 (by omega)
theorem s_isOnNet {z : zZ} {d : Nat} {x : Int} {μ : Mu} (hd : 1 ≤ d) : mC z d 155 [(0, x)] μ = some (bi (decide (0 ≤ x ∧ x < 16)), μ) := by
  obtain ⟨e, rfl, he⟩ := pred_of hd
  rw [c_W_isOnNet]
  by_cases h : 0 ≤ x ∧ x < 16
  · rw [cF (by omega), cF (by omega), e_W_isOnNet_15, g01_1, bi_dt h]
  · rw [bi_df h]
    by_cases h1 : x < 0
    · rw [cT h1, e_W_isOnNet_14, e_W_isOnNet_15, g01_0]
    · rw [cF h1, cT (by omega), e_W_isOnNet_14, e_W_isOnNet_15, g01_0]
