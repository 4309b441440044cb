/-! keep in both -/
theorem ia128 : iar 128 24 := ⟨⟨by omega, rfl⟩, rfl⟩
theorem ia129 : iar 129 24 := ⟨⟨by omega, rfl⟩, rfl⟩
theorem ia132 : iar 132 24 := ⟨⟨by omega, rfl⟩, rfl⟩
theorem ia133 : iar 133 24 := ⟨⟨by omega, rfl⟩, rfl⟩
theorem ia134 : iar 134 24 := ⟨⟨by omega, rfl⟩, rfl⟩
theorem ia135 : iar 135 24 := ⟨⟨by omega, rfl⟩, rfl⟩
theorem ia140 : iar 140 24 := ⟨⟨by omega, rfl⟩, rfl⟩
theorem ia141 : iar 141 24 := ⟨⟨by omega, rfl⟩, rfl⟩
theorem ia142 : iar 142 24 := ⟨⟨by omega, rfl⟩, rfl⟩
theorem ia146 : iar 146 24 := ⟨⟨by omega, rfl⟩, rfl⟩
theorem ia147 : iar 147 24 := ⟨⟨by omega, rfl⟩, rfl⟩
theorem ia148 : iar 148 24 := ⟨⟨by omega, rfl⟩, rfl⟩
theorem ia149 : iar 149 24 := ⟨⟨by omega, rfl⟩, rfl⟩
theorem ia150 : iar 150 24 := ⟨⟨by omega, rfl⟩, rfl⟩
theorem ia151 : iar 151 24 := ⟨⟨by omega, rfl⟩, rfl⟩
/-- the class keeps -/
theorem s_keep {z : zZ} {d : Nat} {μ : Mu} {N F : Nat → Nat} {L : Nat → Nat → Nat} (hd : 5 ≤ d) (hC : ∀ s, s < 2 → SDc μ s (N s) (F s) (L s)) : ∃ M, mC z d 168 [(2, 0)] μ = some (zw (sm (fun k => μ 7 (0 + k)) 12 + sm (fun k => μ 16 (0 + k)) 12), M) ∧ (∀ s, s < 2 → (∀ j, j < 36 → M (74 + 3 * s) j = μ (4 + 9 * s + 3) j) ∧ (∀ j, 36 ≤ j → M (74 + 3 * s) j = μ (74 + 3 * s) j) ∧ M (75 + 3 * s) = stB (μ (75 + 3 * s)) (F s) (μ (4 + 9 * s + 4)) (N s) ∧ M (73 + 3 * s) 2 = ((cnt (F s).testBit (N s) : Nat) : Int)) ∧ (∀ j, j < 24 → M 60 j = μ 59 j) ∧ M 58 1 = μ 58 0 ∧ (∀ j, j < 96 → M 68 j = μ 67 j) ∧ M 0 15 = 1 ∧ M 0 16 = μ 0 18 ∧ M 0 17 = μ 0 19 ∧ (∀ k, k ≠ 15 → k ≠ 16 → k ≠ 17 → M 0 k = μ 0 k) ∧ (∀ k, k ≠ 1 → M 58 k = μ 58 k) ∧ ∀ a, a ≠ 0 → a ≠ 58 → a ≠ 60 → a ≠ 68 → (a < 73 ∨ 78 < a) → M a = μ a := by
  obtain ⟨e, rfl, he⟩ := pred_of (k := 4) hd
  obtain ⟨a1, a2, a3, a4, a5, a6, a7, a8, a9, a10, a11, a12⟩ := hC 0 (by omega)
  obtain ⟨i1, i2, i3, i4, i5, i6, i7, i8, i9, i10, i11, i12⟩ := hC 1 (by omega)
  have u1 := s_saveTo (z := z) (d := e) (o := 4) (c := 73) (N := N 0) (f := F 0) (μ := μ) (by omega) (Or.inl rfl) (Or.inr (Or.inr (Or.inl rfl))) a1 a2 a3 (f4096 a4 a2) a5
  rw [show ((4 : Nat) : Int) = 4 from rfl, show ((73 : Nat) : Int) = 73 from rfl] at u1
  generalize hR1 : zrow (zrow (zrow μ (73 + 1) (cpy (μ (4 + 3)) (μ (73 + 1)) 36)) (73 + 2) (stB (μ (73 + 2)) (F 0) (μ (4 + 4)) (N 0))) 73 (rup (μ 73) 2 ((cnt (F 0).testBit (N 0) : Nat) : Int)) = R1 at u1
  have r1 : ∀ a, a ≠ 73 → a ≠ 74 → a ≠ 75 → R1 a = μ a := fun a q1 q2 q3 => by subst hR1; rw [zrow_ne q1, zrow_ne (by omega), zrow_ne (by omega)]
  have r73 : R1 73 2 = ((cnt (F 0).testBit (N 0) : Nat) : Int) := by subst hR1; rw [zrow_same, rup_same]
  have r74 : R1 74 = cpy (μ 7) (μ 74) 36 := by subst hR1; rw [zrow_ne (by omega), zrow_ne (by omega), zrow_same]
  have r75 : R1 75 = stB (μ 75) (F 0) (μ 8) (N 0) := by subst hR1; rw [zrow_ne (by omega), zrow_same]
  clear hR1
  have e13 : R1 13 = μ 13 := r1 13 (by omega) (by omega) (by omega)
  have u2 := s_saveTo (z := z) (d := e) (o := 13) (c := 76) (N := N 1) (f := F 1) (μ := R1) (by omega) (Or.inr rfl) (Or.inr (Or.inr (Or.inr (Or.inl rfl)))) (by rw [e13]; exact i1) i2 (by rw [e13]; exact i3) (f4096 i4 i2) i5
  rw [show ((13 : Nat) : Int) = 13 from rfl, show ((76 : Nat) : Int) = 76 from rfl] at u2
  generalize hR2 : zrow (zrow (zrow R1 (76 + 1) (cpy (R1 (13 + 3)) (R1 (76 + 1)) 36)) (76 + 2) (stB (R1 (76 + 2)) (F 1) (R1 (13 + 4)) (N 1))) 76 (rup (R1 76) 2 ((cnt (F 1).testBit (N 1) : Nat) : Int)) = R2 at u2
  have t1 : ∀ a, a ≠ 76 → a ≠ 77 → a ≠ 78 → R2 a = R1 a := fun a q1 q2 q3 => by subst hR2; rw [zrow_ne q1, zrow_ne (by omega), zrow_ne (by omega)]
  have t76 : R2 76 2 = ((cnt (F 1).testBit (N 1) : Nat) : Int) := by subst hR2; rw [zrow_same, rup_same]
  have t77 : R2 77 = cpy (μ 16) (μ 77) 36 := by subst hR2; rw [zrow_ne (by omega), zrow_ne (by omega), zrow_same, r1 16 (by omega) (by omega) (by omega), r1 77 (by omega) (by omega) (by omega)]
  have t78 : R2 78 = stB (μ 78) (F 1) (μ 17) (N 1) := by subst hR2; rw [zrow_ne (by omega), zrow_same, r1 17 (by omega) (by omega) (by omega), r1 78 (by omega) (by omega) (by omega)]
  clear hR2
  obtain ⟨e2, rfl, he2⟩ := pred_of (k := 3) he
  generalize hR4 : zup (zup (zup (zcpy (zup (zcpy R2 59 0 60 0 24) 58 1 (R2 58 0)) 67 0 68 0 96) 0 16 (zcpy (zup (zcpy R2 59 0 60 0 24) 58 1 (R2 58 0)) 67 0 68 0 96 0 18)) 0 17 (zcpy (zup (zcpy R2 59 0 60 0 24) 58 1 (R2 58 0)) 67 0 68 0 96 0 19)) 0 15 1 = R4
  have hr : mC z (e2 + 1 + 1) 168 [(2, 0)] μ = (mC z (e2 + 1) 165 [(2, 4), (0, 0)] R4).bind fun q5 => (f_W_keep_75 z (e2 + 1) q5.1 q5.2) := by
    rw [c_W_keep, u1]
    simp -implicitDefEqProofs only [ob]
    rw [u2]
    simp -implicitDefEqProofs only [ob]
    rw [c_Fig_save]
    simp -implicitDefEqProofs only [ob]
    rw [c_Sol_save]
    simp -implicitDefEqProofs only [ob]
    subst hR4
    rfl
  rw [zcpy0, zcpy0] at hR4
  have v0 : ∀ k, k ≠ 15 → k ≠ 16 → k ≠ 17 → R4 0 k = μ 0 k := fun k q1 q2 q3 => by subst hR4; rw [zup_nk q1, zup_nk q3, zup_nk q2, zrow_ne (by omega), zup_ro (by omega), zrow_ne (by omega), t1 0 (by omega) (by omega) (by omega), r1 0 (by omega) (by omega) (by omega)]
  have v15 : R4 0 15 = 1 := by subst hR4; exact zup_hit
  have v17 : R4 0 17 = μ 0 19 := by subst hR4; rw [zup_nk (by omega), zup_hit, zrow_ne (by omega), zup_ro (by omega), zrow_ne (by omega), t1 0 (by omega) (by omega) (by omega), r1 0 (by omega) (by omega) (by omega)]
  have v16 : R4 0 16 = μ 0 18 := by subst hR4; rw [zup_nk (by omega), zup_nk (by omega), zup_hit, zrow_ne (by omega), zup_ro (by omega), zrow_ne (by omega), t1 0 (by omega) (by omega) (by omega), r1 0 (by omega) (by omega) (by omega)]
  have v58 : ∀ k, k ≠ 1 → R4 58 k = μ 58 k := fun k q => by subst hR4; rw [zup_ro (by omega), zup_ro (by omega), zup_ro (by omega), zrow_ne (by omega), zup_nk q, zrow_ne (by omega), t1 58 (by omega) (by omega) (by omega), r1 58 (by omega) (by omega) (by omega)]
  have v581 : R4 58 1 = μ 58 0 := by subst hR4; rw [zup_ro (by omega), zup_ro (by omega), zup_ro (by omega), zrow_ne (by omega), zup_hit, t1 58 (by omega) (by omega) (by omega), r1 58 (by omega) (by omega) (by omega)]
  have v60 : ∀ j, j < 24 → R4 60 j = μ 59 j := fun j hj => by
    subst hR4
    rw [zup_ro (by omega), zup_ro (by omega), zup_ro (by omega), zrow_ne (by omega), zup_ro (by omega), zrow_same, t1 59 (by omega) (by omega) (by omega), r1 59 (by omega) (by omega) (by omega)]
    unfold cpy
    rw [if_pos hj]
  have v68 : ∀ j, j < 96 → R4 68 j = μ 67 j := fun j hj => by
    subst hR4
    rw [zup_ro (by omega), zup_ro (by omega), zup_ro (by omega), zrow_same, zup_ro (by omega), zrow_ne (by omega), t1 67 (by omega) (by omega) (by omega), r1 67 (by omega) (by omega) (by omega)]
    unfold cpy
    rw [if_pos hj]
  have vr : ∀ a, a ≠ 0 → a ≠ 58 → a ≠ 60 → a ≠ 68 → R4 a = R2 a := fun a q1 q2 q3 q4 => by subst hR4; rw [zup_ro q1, zup_ro q1, zup_ro q1, zrow_ne q4, zup_ro q2, zrow_ne q3]
  clear hR4
  have w7 : R4 7 = μ 7 := by rw [vr 7 (by omega) (by omega) (by omega) (by omega), t1 7 (by omega) (by omega) (by omega), r1 7 (by omega) (by omega) (by omega)]
  have w16 : R4 16 = μ 16 := by rw [vr 16 (by omega) (by omega) (by omega) (by omega), t1 16 (by omega) (by omega) (by omega), r1 16 (by omega) (by omega) (by omega)]
  have k1 := s_total (z := z) (d := e2 + 1) (o := 4) (b := 0) (μ := R4) (by omega) (Or.inl rfl) (by omega) (by rw [show (4 + 3 : Nat) = 7 from rfl, w7]; exact a6)
  have k2 := s_total (z := z) (d := e2 + 1) (o := 13) (b := 0) (μ := R4) (by omega) (Or.inr rfl) (by omega) (by rw [show (13 + 3 : Nat) = 16 from rfl, w16]; exact i6)
  rw [show ((4 : Nat) : Int) = 4 from rfl, show ((0 : Nat) : Int) = 0 from rfl, show (4 + 3 : Nat) = 7 from rfl, w7] at k1
  rw [show ((13 : Nat) : Int) = 13 from rfl, show ((0 : Nat) : Int) = 0 from rfl, show (13 + 3 : Nat) = 16 from rfl, w16] at k2
  have hfin : mC z (e2 + 1 + 1) 168 [(2, 0)] μ = some (zw (sm (fun k => μ 7 (0 + k)) 12 + sm (fun k => μ 16 (0 + k)) 12), R4) := by
    rw [hr, k1]
    simp -implicitDefEqProofs only [ob]
    rw [e_W_keep_75, k2]
    simp -implicitDefEqProofs only [ob]
  refine ⟨R4, hfin, fun s hs => ?_, v60, v581, v68, v15, v16, v17, v0, v58, fun a q1 q2 q3 q4 q5 => by rw [vr a q1 q2 q3 q4, t1 a (by omega) (by omega) (by omega), r1 a (by omega) (by omega) (by omega)]⟩
  have hs2 : s = 0 ∨ s = 1 := by omega
  rcases hs2 with h | h
  · subst h
    refine ⟨fun j hj => ?_, fun j hj => ?_, ?_, ?_⟩
    · show R4 74 j = μ 7 j
      rw [vr 74 (by omega) (by omega) (by omega) (by omega), t1 74 (by omega) (by omega) (by omega), r74]
      unfold cpy
      rw [if_pos hj]
    · show R4 74 j = μ 74 j
      rw [vr 74 (by omega) (by omega) (by omega) (by omega), t1 74 (by omega) (by omega) (by omega), r74]
      unfold cpy
      rw [if_neg (by omega)]
    · show R4 75 = _
      rw [vr 75 (by omega) (by omega) (by omega) (by omega), t1 75 (by omega) (by omega) (by omega), r75]
    · show R4 73 2 = _
      rw [vr 73 (by omega) (by omega) (by omega) (by omega), t1 73 (by omega) (by omega) (by omega), r73]
  · subst h
    refine ⟨fun j hj => ?_, fun j hj => ?_, ?_, ?_⟩
    · show R4 77 j = μ 16 j
      rw [vr 77 (by omega) (by omega) (by omega) (by omega), t77]
      unfold cpy
      rw [if_pos hj]
    · show R4 77 j = μ 77 j
      rw [vr 77 (by omega) (by omega) (by omega) (by omega), t77]
      unfold cpy
      rw [if_neg (by omega)]
    · show R4 78 = _
      rw [vr 78 (by omega) (by omega) (by omega) (by omega), t78]
    · show R4 76 2 = _
      rw [vr 76 (by omega) (by omega) (by omega) (by omega), t76]
/-- the reference keeps -/
theorem t_keep {z : zZ} {d : Nat} {ρ : Mu} {N F : Nat → Nat} {L : Nat → Nat → Nat} {W : Nat → Row} (hd : 4 ≤ d) (hx : ∀ s, s < 2 → lexR ρ s (N s) (W s) (L s)) (hf : ∀ s, s < 2 → ρ 86 (16 + s) = (F s : Int) ∧ F s < 4096 ∧ cnt (F s).testBit 12 ≤ 6) (h90 : hr (ρ 90)) : ∃ P, mC z d 301 [(2, 86)] ρ = some (zw (sm (fun k => ρ 90 (12 * 0 + k)) 12 + sm (fun k => ρ 90 (12 * 1 + k)) 12), P) ∧ (∀ j, j < 24 → P 140 j = ρ 90 j ∧ P 141 j = ρ 91 j ∧ P 142 j = ρ 92 j ∧ P 146 j = ρ 128 j ∧ P 147 j = ρ 129 j ∧ P 148 j = ρ 132 j ∧ P 149 j = ρ 133 j ∧ P 150 j = ρ 134 j ∧ P 151 j = ρ 135 j) ∧ (∀ s, s < 2 → P 143 s = ((cnt (F s).testBit (N s) : Nat) : Int) ∧ ∀ v, v < N s → (F s).testBit v = true → P 145 (6 * s + cnt (F s).testBit v) = (L s v : Int) ∧ rwd P 144 (8 * (6 * s + cnt (F s).testBit v)) (L s v) (W s v)) ∧ (P 86 76 = 1 ∧ P 86 77 = ρ 86 0 ∧ P 86 78 = ρ 86 1 ∧ P 86 79 = ρ 86 67) ∧ (∀ k, k < 76 → P 86 k = ρ 86 k) ∧ ∀ a, a ≠ 86 → (a < 140 ∨ 151 < a) → P a = ρ a := by
  obtain ⟨e, rfl, he⟩ := pred_of (k := 3) hd
  generalize hZ : zup (zup (zup (zup ρ 86 76 1) 86 77 (ρ 86 0)) 86 78 (ρ 86 1)) 86 79 (ρ 86 67) = Z
  have z1 : ∀ a, a ≠ 86 → Z a = ρ a := fun a q => by subst hZ; rw [zup_ro q, zup_ro q, zup_ro q, zup_ro q]
  have z2 : ∀ k, k < 76 → Z 86 k = ρ 86 k := fun k q => by subst hZ; rw [zup_nk (by omega), zup_nk (by omega), zup_nk (by omega), zup_nk (by omega)]
  have z3 : Z 86 76 = 1 ∧ Z 86 77 = ρ 86 0 ∧ Z 86 78 = ρ 86 1 ∧ Z 86 79 = ρ 86 67 := by
    subst hZ
    refine ⟨?_, ?_, ?_, zup_hit⟩
    · rw [zup_nk (by omega), zup_nk (by omega), zup_nk (by omega), zup_hit]
    · rw [zup_nk (by omega), zup_nk (by omega), zup_hit]
    · rw [zup_nk (by omega), zup_hit]
  obtain ⟨P1, p1, a1, _, b1⟩ := t_cp (z := z) (d := e) (a := 90) (b := 140) (va := 90) (vb := 140) (P := Z) (by omega) rfl rfl ia90 ia140 (by omega)
  obtain ⟨P2, p2, a2, _, b2⟩ := t_cp (z := z) (d := e) (a := 91) (b := 141) (va := 91) (vb := 141) (P := P1) (by omega) rfl rfl ia91 ia141 (by omega)
  obtain ⟨P3, p3, a3, _, b3⟩ := t_cp (z := z) (d := e) (a := 92) (b := 142) (va := 92) (vb := 142) (P := P2) (by omega) rfl rfl ia92 ia142 (by omega)
  obtain ⟨P4, p4, a4, _, b4⟩ := t_cp (z := z) (d := e) (a := 128) (b := 146) (va := 128) (vb := 146) (P := P3) (by omega) rfl rfl ia128 ia146 (by omega)
  obtain ⟨P5, p5, a5, _, b5⟩ := t_cp (z := z) (d := e) (a := 129) (b := 147) (va := 129) (vb := 147) (P := P4) (by omega) rfl rfl ia129 ia147 (by omega)
  obtain ⟨P6, p6, a6, _, b6⟩ := t_cp (z := z) (d := e) (a := 132) (b := 148) (va := 132) (vb := 148) (P := P5) (by omega) rfl rfl ia132 ia148 (by omega)
  obtain ⟨P7, p7, a7, _, b7⟩ := t_cp (z := z) (d := e) (a := 133) (b := 149) (va := 133) (vb := 149) (P := P6) (by omega) rfl rfl ia133 ia149 (by omega)
  obtain ⟨P8, p8, a8, _, b8⟩ := t_cp (z := z) (d := e) (a := 134) (b := 150) (va := 134) (vb := 150) (P := P7) (by omega) rfl rfl ia134 ia150 (by omega)
  obtain ⟨P9, p9, a9, _, b9⟩ := t_cp (z := z) (d := e) (a := 135) (b := 151) (va := 135) (vb := 151) (P := P8) (by omega) rfl rfl ia135 ia151 (by omega)
  have fr : ∀ c, (c < 140 ∨ 151 < c) → P9 c = Z c := fun c q => by rw [b9 c (by omega), b8 c (by omega), b7 c (by omega), b6 c (by omega), b5 c (by omega), b4 c (by omega), b3 c (by omega), b2 c (by omega), b1 c (by omega)]
  have c140 : ∀ j, j < 24 → P9 140 j = ρ 90 j := fun j hj => by rw [b9 140 (by omega), b8 140 (by omega), b7 140 (by omega), b6 140 (by omega), b5 140 (by omega), b4 140 (by omega), b3 140 (by omega), b2 140 (by omega), a1 j hj, z1 90 (by omega)]
  have c141 : ∀ j, j < 24 → P9 141 j = ρ 91 j := fun j hj => by rw [b9 141 (by omega), b8 141 (by omega), b7 141 (by omega), b6 141 (by omega), b5 141 (by omega), b4 141 (by omega), b3 141 (by omega), a2 j hj, b1 91 (by omega), z1 91 (by omega)]
  have c142 : ∀ j, j < 24 → P9 142 j = ρ 92 j := fun j hj => by rw [b9 142 (by omega), b8 142 (by omega), b7 142 (by omega), b6 142 (by omega), b5 142 (by omega), b4 142 (by omega), a3 j hj, b2 92 (by omega), b1 92 (by omega), z1 92 (by omega)]
  have c146 : ∀ j, j < 24 → P9 146 j = ρ 128 j := fun j hj => by rw [b9 146 (by omega), b8 146 (by omega), b7 146 (by omega), b6 146 (by omega), b5 146 (by omega), a4 j hj, b3 128 (by omega), b2 128 (by omega), b1 128 (by omega), z1 128 (by omega)]
  have c147 : ∀ j, j < 24 → P9 147 j = ρ 129 j := fun j hj => by rw [b9 147 (by omega), b8 147 (by omega), b7 147 (by omega), b6 147 (by omega), a5 j hj, b4 129 (by omega), b3 129 (by omega), b2 129 (by omega), b1 129 (by omega), z1 129 (by omega)]
  have c148 : ∀ j, j < 24 → P9 148 j = ρ 132 j := fun j hj => by rw [b9 148 (by omega), b8 148 (by omega), b7 148 (by omega), a6 j hj, b5 132 (by omega), b4 132 (by omega), b3 132 (by omega), b2 132 (by omega), b1 132 (by omega), z1 132 (by omega)]
  have c149 : ∀ j, j < 24 → P9 149 j = ρ 133 j := fun j hj => by rw [b9 149 (by omega), b8 149 (by omega), a7 j hj, b6 133 (by omega), b5 133 (by omega), b4 133 (by omega), b3 133 (by omega), b2 133 (by omega), b1 133 (by omega), z1 133 (by omega)]
  have c150 : ∀ j, j < 24 → P9 150 j = ρ 134 j := fun j hj => by rw [b9 150 (by omega), a8 j hj, b7 134 (by omega), b6 134 (by omega), b5 134 (by omega), b4 134 (by omega), b3 134 (by omega), b2 134 (by omega), b1 134 (by omega), z1 134 (by omega)]
  have c151 : ∀ j, j < 24 → P9 151 j = ρ 135 j := fun j hj => by rw [a9 j hj, b8 135 (by omega), b7 135 (by omega), b6 135 (by omega), b5 135 (by omega), b4 135 (by omega), b3 135 (by omega), b2 135 (by omega), b1 135 (by omega), z1 135 (by omega)]
  have hxq : ∀ Q : Mu, (∀ k, k < 76 → Q 86 k = ρ 86 k) → Q 94 = ρ 94 → Q 95 = ρ 95 → ∀ s, s < 2 → lexR Q s (N s) (W s) (L s) := fun Q q1 q2 q3 s hs => by
    obtain ⟨y1, y2, y3⟩ := hx s hs
    refine ⟨by rw [q1 _ (by omega)]; exact y1, y2, fun w hw => ?_⟩
    obtain ⟨x1, x2, x3⟩ := y3 w hw
    exact ⟨x1, by rw [q3]; exact x2, rwd_congr x3 (fun k _ => by rw [q2])⟩
  have f86 : ∀ k, k < 76 → P9 86 k = ρ 86 k := fun k q => by rw [fr 86 (by omega)]; exact z2 k q
  obtain ⟨Q1, q1, s1, s2, s3, s4, s5⟩ := t_keepsField (z := z) (d := e) (s := 0) (N := N 0) (f := F 0) (μ := P9) (by omega) (by omega) (hxq P9 f86 (by rw [fr 94 (by omega), z1 94 (by omega)]) (by rw [fr 95 (by omega), z1 95 (by omega)]) 0 (by omega)) (by rw [f86 _ (by omega)]; exact (hf 0 (by omega)).1) (hf 0 (by omega)).2.1 (hf 0 (by omega)).2.2
  have f86b : ∀ k, k < 76 → Q1 86 k = ρ 86 k := fun k q => by rw [s5 86 (by omega) (by omega) (by omega)]; exact f86 k q
  obtain ⟨Q2, q2, t1, t2, t3, t4, t5⟩ := t_keepsField (z := z) (d := e) (s := 1) (N := N 1) (f := F 1) (μ := Q1) (by omega) (by omega) (hxq Q1 f86b (by rw [s5 94 (by omega) (by omega) (by omega), fr 94 (by omega), z1 94 (by omega)]) (by rw [s5 95 (by omega) (by omega) (by omega), fr 95 (by omega), z1 95 (by omega)]) 1 (by omega)) (by rw [f86b _ (by omega)]; exact (hf 1 (by omega)).1) (hf 1 (by omega)).2.1 (hf 1 (by omega)).2.2
  rw [show ((0 : Nat) : Int) = 0 from rfl] at q1
  rw [show ((1 : Nat) : Int) = 1 from rfl] at q2
  have gr : ∀ c, c ≠ 143 → c ≠ 144 → c ≠ 145 → Q2 c = P9 c := fun c r1 r2 r3 => by rw [t5 c r1 r2 r3, s5 c r1 r2 r3]
  have g90 : Q2 90 = ρ 90 := by rw [gr 90 (by omega) (by omega) (by omega), fr 90 (by omega), z1 90 (by omega)]
  have k1 := t_sumOf (z := z) (d := e) (s := 0) (a := 90) (μ := Q2) (by omega) (by omega) ia90 (by rw [g90]; exact h90)
  have k2 := t_sumOf (z := z) (d := e) (s := 1) (a := 90) (μ := Q2) (by omega) (by omega) ia90 (by rw [g90]; exact h90)
  rw [show ((0 : Nat) : Int) = 0 from rfl, show ((90 : Nat) : Int) = 90 from rfl, g90] at k1
  rw [show ((1 : Nat) : Int) = 1 from rfl, show ((90 : Nat) : Int) = 90 from rfl, g90] at k2
  have hfin : mC z (e + 1) 301 [(2, 86)] ρ = some (zw (sm (fun k => ρ 90 (12 * 0 + k)) 12 + sm (fun k => ρ 90 (12 * 1 + k)) 12), Q2) := by
    rw [c_M_keep, hZ, p1]
    simp -implicitDefEqProofs only [ob]
    rw [p2]
    simp -implicitDefEqProofs only [ob]
    rw [p3]
    simp -implicitDefEqProofs only [ob]
    rw [p4]
    simp -implicitDefEqProofs only [ob]
    rw [p5]
    simp -implicitDefEqProofs only [ob]
    rw [e_M_keep_94, p6]
    simp -implicitDefEqProofs only [ob]
    rw [p7]
    simp -implicitDefEqProofs only [ob]
    rw [p8]
    simp -implicitDefEqProofs only [ob]
    rw [p9]
    simp -implicitDefEqProofs only [ob]
    rw [q1]
    simp -implicitDefEqProofs only [ob]
    rw [q2]
    simp -implicitDefEqProofs only [ob]
    rw [k1]
    simp -implicitDefEqProofs only [ob]
    rw [k2]
    simp -implicitDefEqProofs only [ob]
  have g86 : Q2 86 = Z 86 := by rw [gr 86 (by omega) (by omega) (by omega), fr 86 (by omega)]
  refine ⟨Q2, hfin, fun j hj => ?_, fun s hs => ?_, by rw [g86]; exact z3, fun k hk => by rw [g86]; exact z2 k hk, fun a r1 r2 => by rw [gr a (by omega) (by omega) (by omega), fr a r2, z1 a r1]⟩
  · rw [gr 140 (by omega) (by omega) (by omega), gr 141 (by omega) (by omega) (by omega), gr 142 (by omega) (by omega) (by omega), gr 146 (by omega) (by omega) (by omega), gr 147 (by omega) (by omega) (by omega), gr 148 (by omega) (by omega) (by omega), gr 149 (by omega) (by omega) (by omega), gr 150 (by omega) (by omega) (by omega), gr 151 (by omega) (by omega) (by omega)]
    exact ⟨c140 j hj, c141 j hj, c142 j hj, c146 j hj, c147 j hj, c148 j hj, c149 j hj, c150 j hj, c151 j hj⟩
  · have hs2 : s = 0 ∨ s = 1 := by omega
    rcases hs2 with h | h
    · subst h
      refine ⟨by rw [t1, rup_ne (by omega), s1, rup_same], fun v hv hb => ?_⟩
      obtain ⟨w1, w2⟩ := s2 v hv hb
      have hc := cnt_mono (F 0).testBit (show v ≤ 12 by have := (hx 0 (by omega)).2.1; omega)
      have hc6 : cnt (F 0).testBit v < 6 := by
        have h1 := cnt_lt (p := (F 0).testBit) (v := v) (w := N 0) hv hb
        have h2 := cnt_mono (F 0).testBit (hx 0 (by omega)).2.1
        have h3 := (hf 0 (by omega)).2.2
        omega
      refine ⟨by rw [t4 _ (by omega)]; exact w1, rwd_congr w2 (fun k hk => t3 _ ?_)⟩
      have := w2.1.2.1
      omega
    · subst h
      refine ⟨by rw [t1, rup_same], fun v hv hb => t2 v hv hb⟩
