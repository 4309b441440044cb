theorem zs9 {i j : Nat} (hi : i < 20) (hj : j < 20) : zw (zw (9 * (i : Int)) + (j : Int)) = ((9 * i + j : Nat) : Int) := zy9 hi hj
/-- one letter is tried: the reference -/
theorem t_pq {z : zZ} {e w v i j k q N0 N1 : Nat} {many : Int} {W0 W1 : Row} {L0 L1 : Nat → Nat} {P : Mu} (he : 1 ≤ e) (hx : lexR P 0 N0 W0 L0) (hx' : lexR P 1 N1 W1 L1) (hw : w < N0) (hv : v < N1) (hi : i ≤ L0 w) (hj : j ≤ L1 v) (hq : q < 12) (hk : k < 16) (hm0 : 0 ≤ many) (hm1 : many ≤ 16) (i' j' : Nat) (hi' : i' = if i < L0 w ∧ letc (W0 w) (i : Int) = P 88 q then i + 1 else i) (hj' : j' = if j < L1 v ∧ letc (W1 v) (j : Int) = P 88 q then j + 1 else j) : f_M_laysPeace_48 z e (w : Int) (v : Int) (L0 w : Int) (L1 v : Int) (i : Int) (j : Int) many (k : Int) (q : Int) P = if i' + j' = i + j ∨ P 126 (9 * i' + j') ≠ many - (k : Int) - 1 then f_M_laysPeace_48 z e (w : Int) (v : Int) (L0 w : Int) (L1 v : Int) (i : Int) (j : Int) many (k : Int) ((q + 1 : Nat) : Int) P else f_M_laysPeace_38 z e (w : Int) (v : Int) (L0 w : Int) (L1 v : Int) (i' : Int) (j' : Int) many ((k + 1 : Nat) : Int) (zup P 127 k (P 88 q)) := by
  obtain ⟨x1, x2, x3⟩ := hx.2.2 w hw
  obtain ⟨y1, y2, y3⟩ := hx'.2.2 v hv
  have m8 := x3.1.2.1
  have n8 := y3.1.2.1
  have N0b := hx.2.1
  have N1b := hx'.2.1
  have h130 : ∀ (b : Nat) (i1 : Nat), b ≤ 1 → i1 ≤ L0 w → j + b ≤ L1 v → f_M_laysPeace_130 z e (w : Int) (v : Int) (L0 w : Int) (L1 v : Int) (i : Int) (j : Int) many (k : Int) (q : Int) (P 88 q) (i1 : Int) (j : Int) (b : Int) P = if i1 + (j + b) = i + j ∨ P 126 (9 * i1 + (j + b)) ≠ many - (k : Int) - 1 then f_M_laysPeace_48 z e (w : Int) (v : Int) (L0 w : Int) (L1 v : Int) (i : Int) (j : Int) many (k : Int) ((q + 1 : Nat) : Int) P else f_M_laysPeace_38 z e (w : Int) (v : Int) (L0 w : Int) (L1 v : Int) (i1 : Int) ((j + b : Nat) : Int) many ((k + 1 : Nat) : Int) (zup P 127 k (P 88 q)) := by
    intro b i1 hb hi1 hjb
    have hsum : Unit → zw ((j : Int) + (b : Int)) = ((j + b : Nat) : Int) := fun _ => zwa (by omega)
    have h192 : f_M_laysPeace_192 z e (w : Int) (v : Int) (L0 w : Int) (L1 v : Int) (i : Int) (j : Int) many (k : Int) (q : Int) P = f_M_laysPeace_48 z e (w : Int) (v : Int) (L0 w : Int) (L1 v : Int) (i : Int) (j : Int) many (k : Int) ((q + 1 : Nat) : Int) P := by rw [e_M_laysPeace_192, zwc (by omega)]
    rw [e_M_laysPeace_130, hsum (), zwa (i := i1) (k := j + b) (by omega), zwa (i := i) (k := j) (by omega)]
    by_cases c1 : i1 + (j + b) = i + j
    · rw [cT (by omega), if_pos (Or.inl c1), h192]
    · rw [cF (by omega), zs9 (by omega) (by omega), gI_ok (by omega) (by omega), Int.toNat_natCast, zw_id (x := many - (k : Int)) (by omega) (by omega), zw_id (x := many - (k : Int) - 1) (by omega) (by omega)]
      by_cases c2 : P 126 (9 * i1 + (j + b)) = many - (k : Int) - 1
      · rw [cT c2, if_neg (fun q => q.elim c1 (fun q => q c2)), e_M_laysPeace_172, gI_ok (by omega) (by omega), Int.toNat_natCast, e_M_laysPeace_198, zwc (by omega)]
      · rw [cF c2, if_pos (Or.inr c2), h192]
  have h95 : ∀ (a1 : Nat), a1 ≤ 1 → i + a1 ≤ L0 w → f_M_laysPeace_95 z e (w : Int) (v : Int) (L0 w : Int) (L1 v : Int) (i : Int) (j : Int) many (k : Int) (q : Int) (P 88 q) (i : Int) (a1 : Int) P = if (i + a1) + j' = i + j ∨ P 126 (9 * (i + a1) + j') ≠ many - (k : Int) - 1 then f_M_laysPeace_48 z e (w : Int) (v : Int) (L0 w : Int) (L1 v : Int) (i : Int) (j : Int) many (k : Int) ((q + 1 : Nat) : Int) P else f_M_laysPeace_38 z e (w : Int) (v : Int) (L0 w : Int) (L1 v : Int) ((i + a1 : Nat) : Int) (j' : Int) many ((k + 1 : Nat) : Int) (zup P 127 k (P 88 q)) := by
    intro a1 ha1 hia
    have hsum : Unit → zw ((i : Int) + (a1 : Int)) = ((i + a1 : Nat) : Int) := fun _ => zwa (by omega)
    rw [e_M_laysPeace_95, hsum ()]
    by_cases c1 : j < L1 v
    · have hb := t_beginOf (z := z) (d := e) (s := 1) (w := v) (μ := P) he (by omega) (by omega)
      have hrd := y3.2 j c1
      have hl : letc (W1 v) (j : Int) = (nib (W1 v) j : Int) - 1 := letc_nat (by omega)
      have hrl := hrd.trans hl.symm
      rw [show ((1 : Nat) : Int) = 1 from rfl] at hb
      rw [cF (by omega), hb]
      simp -implicitDefEqProofs only [ob]
      rw [zwa (by omega), gI_ok (by omega) (by omega), Int.toNat_natCast]
      by_cases c2 : letc (W1 v) (j : Int) = P 88 q
      · rw [if_pos ⟨c1, c2⟩] at hj'
        have := h130 1 (i + a1) (by omega) hia (by omega)
        rw [show ((1 : Nat) : Int) = 1 from rfl] at this
        rw [nT (hrl.trans c2), this, hj']
      · rw [if_neg (fun q => c2 q.2)] at hj'
        have := h130 0 (i + a1) (by omega) hia (by omega)
        rw [show ((0 : Nat) : Int) = 0 from rfl, Nat.add_zero] at this
        rw [nF (fun qq => c2 (hrl.symm.trans qq)), e_M_laysPeace_129, this, hj']
    · rw [if_neg (fun q => c1 q.1)] at hj'
      have := h130 0 (i + a1) (by omega) hia (by omega)
      rw [show ((0 : Nat) : Int) = 0 from rfl, Nat.add_zero] at this
      rw [cT (by omega), e_M_laysPeace_129, this, hj']
  rw [e_M_laysPeace_48, cF (by omega), gI_ok (by omega) (by omega), Int.toNat_natCast]
  by_cases c1 : i < L0 w
  · have hb := t_beginOf (z := z) (d := e) (s := 0) (w := w) (μ := P) he (by omega) (by omega)
    have hrd := x3.2 i c1
    have hl : letc (W0 w) (i : Int) = (nib (W0 w) i : Int) - 1 := letc_nat (by omega)
    have hrl := hrd.trans hl.symm
    rw [show ((0 : Nat) : Int) = 0 from rfl] at hb
    rw [cF (by omega), hb]
    simp -implicitDefEqProofs only [ob]
    rw [zwa (by omega), gI_ok (by omega) (by omega), Int.toNat_natCast]
    by_cases c2 : letc (W0 w) (i : Int) = P 88 q
    · rw [if_pos ⟨c1, c2⟩] at hi'
      have := h95 1 (by omega) (by omega)
      rw [show ((1 : Nat) : Int) = 1 from rfl] at this
      rw [nT (hrl.trans c2), this, hi']
    · rw [if_neg (fun q => c2 q.2)] at hi'
      have := h95 0 (by omega) (by omega)
      rw [show ((0 : Nat) : Int) = 0 from rfl, Nat.add_zero] at this
      rw [nF (fun qq => c2 (hrl.symm.trans qq)), e_M_laysPeace_94, this, hi']
  · rw [if_neg (fun q => c1 q.1)] at hi'
    have := h95 0 (by omega) (by omega)
    rw [show ((0 : Nat) : Int) = 0 from rfl, Nat.add_zero] at this
    rw [cT (by omega), e_M_laysPeace_94, this, hi']
