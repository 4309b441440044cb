theorem t1 (X : Nat → Int) (XL d : Nat) (side row fr n : Int) (μ : Nat → Nat → Int) : zE zP X XL d q_M_isThere 0 [(2, 86), (0, side), (2, row), (0, fr), (0, n), (9, 0), (9, 0), (9, 0)] [] (zLAY, μ) = zE zP X XL d q_M_isThere 3 [(2, 86), (0, side), (2, row), (0, fr), (0, n), (0, 0), (9, 0), (9, 0)] [] (zLAY, μ) := by
  rw [zE_bk (M := q_M_isThere) (by decide +kernel) [3, 16] 100]
  rfl
theorem t2 (X : Nat → Int) (XL d : Nat) (side row fr n k need q : Int) (μ : Nat → Nat → Int) : zE zP X XL d q_M_isThere 16 [(2, 86), (0, side), (2, row), (0, fr), (0, n), (0, k), (0, need), (0, q)] [] (zLAY, μ) = 
  bif decide (n ≤ q) then
     (bif z_ix (zLAY, μ) 12 row (zw (fr + k)) then
       bif z_ix (zLAY, μ) 12 90 (zw (zw (12 * side) + μ row.toNat (zw (fr + k)).toNat)) then
        bif decide (need ≤ μ 90 (zw (zw (12 * side) + μ row.toNat (zw (fr + k)).toNat)).toNat) then
          zE zP X XL d q_M_isThere 3 [(2, 86), (0, side), (2, row), (0, fr), (0, n), (0, zw (k + 1)), (9, 0), (9, 0)] [] (zLAY, μ)
        else some (0, (zLAY, μ)) else none else none)
   else (bif z_ix (zLAY, μ) 12 row (zw (fr + q)) then
       bif z_ix (zLAY, μ) 12 row (zw (fr + k)) then
        bif !decide (μ row.toNat (zw (fr + q)).toNat = μ row.toNat (zw (fr + k)).toNat) then zE zP X XL d q_M_isThere 16 [(2, 86), (0, side), (2, row), (0, fr), (0, n), (0, k), (0, zw (need + 0)), (0, zw (q + 1))] [] (zLAY, μ)
        else zE zP X XL d q_M_isThere 16 [(2, 86), (0, side), (2, row), (0, fr), (0, n), (0, k), (0, zw (need + 1)), (0, zw (q + 1))] [] (zLAY, μ) else none else none) := by
  rw [zE_bk (M := q_M_isThere) (by decide +kernel) [3, 16] 100]
  rfl
