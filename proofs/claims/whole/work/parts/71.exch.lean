/-! whether letters can be exchanged -/
theorem z1s {s : Nat} (hs : s < 2) : zw (1 - (s : Int)) = ((1 - s : Nat) : Int) := by rw [zw_id (by omega) (by omega)]; omega
theorem z0l {l : Nat} (hl : l < 1000) : zw (0 + (l : Int)) = (l : Int) := by rw [Int.zero_add, zw_id (by omega) (by omega)]
theorem s_canExchange {z : zZ} {d s g t : Nat} {μ : Mu} (hd : 1 ≤ d) (hs : s < 2) (hg : g < 12) (ht : t < 12) : mC z d 124 [(2, 0), (0, (s : Int)), (0, (g : Int)), (0, (t : Int))] μ = some (bi (decide (g ≠ t ∧ 0 < μ (4 + 9 * s + 3) g ∧ 0 < μ (4 + 9 * (1 - s) + 3) t)), μ) := by
  obtain ⟨e, rfl, he⟩ := pred_of hd
  have hv1 : (s : Int) = 0 ∨ (s : Int) = 1 := by omega
  rw [c_W_canExchange]
  by_cases h1 : g = t
  · rw [cT (by omega), e_W_canExchange_43, e_W_canExchange_44, g01_0, bi_df (fun h => h.1 h1)]
  · rw [cF (by omega), e_W_canExchange_5 _ _ _ _ _ _ hv1, z0l (by omega), gI_ok (by omega) (by omega), Int.toNat_natCast, Int.toNat_natCast]
    by_cases h2 : 0 < μ (4 + 9 * s + 3) g
    · rw [cF (by omega), e_W_canExchange_21 _ _ _ _ _ _ hv1, z0l (by omega), gI_ok (by omega) (by omega), z1s hs, Int.toNat_natCast, Int.toNat_natCast]
      by_cases h3 : 0 < μ (4 + 9 * (1 - s) + 3) t
      · rw [cF (by omega), e_W_canExchange_44, g01_1, bi_dt ⟨h1, h2, h3⟩]
      · rw [cT (by omega), e_W_canExchange_43, e_W_canExchange_44, g01_0, bi_df (fun h => h3 h.2.2)]
    · rw [cT (by omega), e_W_canExchange_43, e_W_canExchange_44, g01_0, bi_df (fun h => h2 h.2.1)]
theorem t_areExchanged {z : zZ} {d s g t : Nat} {μ : Mu} (hd : 1 ≤ d) (hs : s < 2) (hg : g < 12) (ht : t < 12) : mC z d 271 [(2, 86), (0, (s : Int)), (0, (g : Int)), (0, (t : Int))] μ = some (bi (decide (g ≠ t ∧ 0 < μ 90 (12 * s + g) ∧ 0 < μ 90 (12 * (1 - s) + t))), μ) := by
  obtain ⟨e, rfl, he⟩ := pred_of hd
  rw [c_M_areExchanged, z1s hs]
  by_cases h1 : g = t
  · rw [cT (by omega), e_M_areExchanged_39, e_M_areExchanged_40, g01_0, bi_df (fun h => h.1 h1)]
  · rw [cF (by omega), zi12 (by omega) (by omega), gI_ok (by omega) (by omega), Int.toNat_natCast]
    by_cases h2 : 0 < μ 90 (12 * s + g)
    · rw [cF (by omega), zi12 (by omega) (by omega), gI_ok (by omega) (by omega), Int.toNat_natCast]
      by_cases h3 : 0 < μ 90 (12 * (1 - s) + t)
      · rw [cF (by omega), e_M_areExchanged_40, g01_1, bi_dt ⟨h1, h2, h3⟩]
      · rw [cT (by omega), e_M_areExchanged_39, e_M_areExchanged_40, g01_0, bi_df (fun h => h3 h.2.2)]
    · rw [cT (by omega), e_M_areExchanged_39, e_M_areExchanged_40, g01_0, bi_df (fun h => h2 h.2.1)]
