/-! the shortest row: the reference's table -/
theorem zy9 {i j : Nat} (hi : i < 20) (hj : j < 20) : zw (zw (9 * (i : Int)) + (j : Int)) = ((9 * i + j : Nat) : Int) := by
  rw [zw_id (x := 9 * (i : Int)) (by omega) (by omega), zw_id (by omega) (by omega)]
  omega
theorem mn2 (A B : Int) : (if A < B then A else B) = A ∧ A ≤ B ∨ (if A < B then A else B) = B ∧ B ≤ A := by
  split
  · left; omega
  · right; omega
theorem t_cell {z : zZ} {e w v i j N0 N1 : Nat} {W0 W1 : Row} {L0 L1 : Nat → Nat} {h : Row} {P : Mu} (he : 1 ≤ e) (hx : lexR P 0 N0 W0 L0) (hx' : lexR P 1 N1 W1 L1) (hw : w < N0) (hv : v < N1) (hi : i ≤ L0 w) (hj : j ≤ L1 v) (hL : LT (fun k => letc (W0 w) (k : Int)) (fun k => letc (W1 v) (k : Int)) (L0 w) (L1 v) h i (j + 1)) (v100 : Int) (h100 : v100 = if i = L0 w ∧ j = L1 v then 0 else 1000000000) : f_M_laysShortest_52 z e (w : Int) (v : Int) (L0 w : Int) (L1 v : Int) (i : Int) (j : Int) v100 (zrow P 126 h) = f_M_laysShortest_27 z e (w : Int) (v : Int) (L0 w : Int) (L1 v : Int) (i : Int) (zw ((j : Int) + (-1))) (zrow P 126 (rup h (9 * i + j) (scs (fun k => letc (W0 w) (k : Int)) (fun k => letc (W1 v) (k : Int)) (L0 w) (L1 v) (L0 w - i) (L1 v - j)))) := by
  obtain ⟨x1, x2, x3⟩ := hx.2.2 w hw
  obtain ⟨y1, y2, y3⟩ := hx'.2.2 v hv
  have m8 := x3.1.2.1
  have n8 := y3.1.2.1
  have h12 := hx.2.1
  have h12' := hx'.2.1
  have hend : ∀ x : Int, x = scs (fun k => letc (W0 w) (k : Int)) (fun k => letc (W1 v) (k : Int)) (L0 w) (L1 v) (L0 w - i) (L1 v - j) → f_M_laysShortest_183 z e (w : Int) (v : Int) (L0 w : Int) (L1 v : Int) (i : Int) (j : Int) x (zrow P 126 h) = f_M_laysShortest_27 z e (w : Int) (v : Int) (L0 w : Int) (L1 v : Int) (i : Int) (zw ((j : Int) + (-1))) (zrow P 126 (rup h (9 * i + j) (scs (fun k => letc (W0 w) (k : Int)) (fun k => letc (W1 v) (k : Int)) (L0 w) (L1 v) (L0 w - i) (L1 v - j)))) := fun x hxx => by
    rw [e_M_laysShortest_183, zy9 (by omega) (by omega), gI_ok (by omega) (by omega), Int.toNat_natCast, zupr, zrow_same, zrow_zrow, hxx]
  by_cases h1 : i < L0 w
  · obtain ⟨p, hp⟩ : ∃ p, L0 w - i = p + 1 := ⟨L0 w - i - 1, by omega⟩
    have v2 := hL (i + 1) j (by omega) (by omega) (Or.inl (by omega))
    rw [show L0 w - (i + 1) = p by omega] at v2
    have r2 := scs_rg (fun k => letc (W0 w) (k : Int)) (fun k => letc (W1 v) (k : Int)) (L0 w) (L1 v) p (L1 v - j)
    rw [if_neg (by omega)] at h100
    subst h100
    rw [e_M_laysShortest_52, cF (by omega), zwc (by omega), zy9 (by omega) (by omega), gI_ok (by omega) (by omega), Int.toNat_natCast, zrow_same, v2, t_min he]
    simp -implicitDefEqProofs only [ob]
    rw [zw_id (by omega) (by omega), if_neg (show ¬ (1000000000 : Int) < 1 + scs (fun k => letc (W0 w) (k : Int)) (fun k => letc (W1 v) (k : Int)) (L0 w) (L1 v) p (L1 v - j) by omega), e_M_laysShortest_84]
    by_cases h2 : j < L1 v
    · obtain ⟨q, hq⟩ : ∃ q, L1 v - j = q + 1 := ⟨L1 v - j - 1, by omega⟩
      have v1 := hL (i + 1) (j + 1) (by omega) (by omega) (Or.inl (by omega))
      have v3 := hL i (j + 1) (by omega) (by omega) (Or.inr ⟨rfl, Nat.le_refl _⟩)
      rw [show L0 w - (i + 1) = p by omega, show L1 v - (j + 1) = q by omega] at v1
      rw [hp, show L1 v - (j + 1) = q by omega] at v3
      have hmin := scs_min (fun k => letc (W0 w) (k : Int)) (fun k => letc (W1 v) (k : Int)) (L0 w) (L1 v) p q
      have hD := scs_D (fun k => letc (W0 w) (k : Int)) (fun k => letc (W1 v) (k : Int)) (L0 w) (L1 v) (p + q) p q rfl
      have r1 := scs_rg (fun k => letc (W0 w) (k : Int)) (fun k => letc (W1 v) (k : Int)) (L0 w) (L1 v) p q
      have r3 := scs_rg (fun k => letc (W0 w) (k : Int)) (fun k => letc (W1 v) (k : Int)) (L0 w) (L1 v) (p + 1) q
      have hss := scs_ss (fun k => letc (W0 w) (k : Int)) (fun k => letc (W1 v) (k : Int)) (L0 w) (L1 v) p q
      rw [show L0 w - (p + 1) = i by omega, show L1 v - (q + 1) = j by omega] at hss
      rw [hp, hq] at hend
      rw [hq] at r2 ⊢
      rw [hp]
      have l0 : P 94 (8 * (12 * 0 + w) + i) = letc (W0 w) (i : Int) := by rw [x3.2 i h1, letc_nat (by omega)]
      have l1' : P 94 (8 * (12 * 1 + v) + j) = letc (W1 v) (j : Int) := by rw [y3.2 j h2, letc_nat (by omega)]
      have hz94 : zrow P 126 h 94 = P 94 := zrow_ne (by omega)
      have b0 := t_beginOf (z := z) (d := e) (s := 0) (w := w) (μ := zrow P 126 h) he (by omega) (by omega)
      have b1 := t_beginOf (z := z) (d := e) (s := 1) (w := v) (μ := zrow P 126 h) he (by omega) (by omega)
      have b0' : mC z e 201 [(0, 0), (0, (w : Int))] (zrow P 126 h) = some (((8 * (12 * 0 + w) : Nat) : Int), zrow P 126 h) := b0
      have b1' : mC z e 201 [(0, 1), (0, (v : Int))] (zrow P 126 h) = some (((8 * (12 * 1 + v) : Nat) : Int), zrow P 126 h) := b1
      rw [cF (by omega), zy9 (by omega) (by omega), zx9b (by omega) (by omega), gI_ok (by omega) (by omega), Int.toNat_natCast, zrow_same, v3, t_min he]
      simp -implicitDefEqProofs only [ob]
      rw [e_M_laysShortest_115, cF (by omega), cF (by omega), b0']
      simp -implicitDefEqProofs only [ob]
      rw [zwa (by omega), gI_ok (by omega) (by omega), b1']
      simp -implicitDefEqProofs only [ob]
      rw [zwa (by omega), gI_ok (by omega) (by omega), Int.toNat_natCast, Int.toNat_natCast, zw_id (x := 1 + scs (fun k => letc (W0 w) (k : Int)) (fun k => letc (W1 v) (k : Int)) (L0 w) (L1 v) (p + 1) q) (by omega) (by omega)]
      by_cases h3 : letc (W0 w) (i : Int) = letc (W1 v) (j : Int)
      · rw [if_pos h3] at hss
        rw [nT (by rw [hz94, l0, l1']; exact h3), zwc (by omega), zy9 (by omega) (by omega), zx9b (by omega) (by omega), gI_ok (by omega) (by omega), Int.toNat_natCast, zrow_same, v1, t_min he]
        simp -implicitDefEqProofs only [ob]
        refine hend _ ?_
        rw [hss, zw_id (by omega) (by omega)]
        split <;> split <;> omega
      · rw [if_neg h3] at hss
        rw [nF (by rw [hz94, l0, l1']; exact h3)]
        refine hend _ ?_
        rw [hss]
        split <;> split <;> omega
    · have hj2 : L1 v - j = 0 := by omega
      rw [cT (by omega), e_M_laysShortest_115, cF (by omega), cT (by omega)]
      refine hend _ ?_
      rw [hj2, hp, scs_p0, scs_p0]
      omega
  · have hi2 : L0 w - i = 0 := by omega
    rw [e_M_laysShortest_52, cT (by omega), e_M_laysShortest_84]
    by_cases h2 : j < L1 v
    · have v3 := hL i (j + 1) (by omega) (by omega) (Or.inr ⟨rfl, Nat.le_refl _⟩)
      rw [hi2, scs_0] at v3
      rw [if_neg (by omega)] at h100
      subst h100
      rw [cF (by omega), zy9 (by omega) (by omega), zx9b (by omega) (by omega), gI_ok (by omega) (by omega), Int.toNat_natCast, zrow_same, v3, t_min he]
      simp -implicitDefEqProofs only [ob]
      rw [e_M_laysShortest_115, cT (by omega)]
      refine hend _ ?_
      rw [hi2, scs_0, zw_id (by omega) (by omega), if_neg (by omega)]
      omega
    · rw [if_pos (by omega)] at h100
      subst h100
      rw [cT (by omega), e_M_laysShortest_115, cT (by omega)]
      refine hend _ ?_
      rw [hi2, scs_0, show L1 v - j = 0 by omega]
      rfl
