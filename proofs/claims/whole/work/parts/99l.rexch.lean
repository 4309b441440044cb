/-! exchanges: the reference really exchanges, and takes it back -/
theorem ia119 : iar 119 24 := ⟨⟨by omega, rfl⟩, rfl⟩
theorem ia120 : iar 120 24 := ⟨⟨by omega, rfl⟩, rfl⟩
theorem ia121 : iar 121 24 := ⟨⟨by omega, rfl⟩, rfl⟩
def xgR (h : Row) (s a b : Nat) : Row := addN (addN (rup (rup h (12 * s + a) (h (12 * s + a) - 1)) (12 * (1 - s) + b) (h (12 * (1 - s) + b) - 1)) (12 * s + b) 1) (12 * (1 - s) + a) 1
theorem hr_rup {h : Row} {i : Nat} {v : Int} (hh : hr h) (h0 : 0 ≤ v) (h1 : v ≤ 999) : hr (rup h i v) := fun j => by
  by_cases e : j = i
  · subst e; rw [rup_same]; exact ⟨h0, h1⟩
  · rw [rup_ne e]; exact hh j
theorem hr_xgR {h : Row} {s a b : Nat} (hh : hr h) (h1 : 0 < h (12 * s + a)) (h2 : 0 < h (12 * (1 - s) + b)) : hr (xgR h s a b) := by
  have q1 := hh (12 * s + a)
  have q2 := hh (12 * (1 - s) + b)
  exact hr_addN (hr_addN (hr_rup (hr_rup hh (by omega) (by omega)) (by omega) (by omega)) (by omega)) (by omega)
theorem xg_own {h : Row} {s a b x : Nat} (hs : s < 2) (ha : a < 12) (hb : b < 12) (hx : x < 12) (hne : a ≠ b) : xgR h s a b (12 * s + x) = if x = a then h (12 * s + x) - 1 else if x = b then (if h (12 * s + x) + 1 < 999 then h (12 * s + x) + 1 else 999) else h (12 * s + x) := by
  have d1 : 12 * s + x ≠ 12 * (1 - s) + a := by omega
  have d2 : 12 * s + x ≠ 12 * (1 - s) + b := by omega
  unfold xgR
  rw [addN_ne d1]
  by_cases e : x = a
  · subst e
    rw [if_pos rfl, addN_ne (by omega), rup_ne d2, rup_same]
  · rw [if_neg e]
    by_cases e2 : x = b
    · subst e2
      rw [if_pos rfl, addN_at, rup_ne d2, rup_ne (by omega)]
    · rw [if_neg e2, addN_ne (by omega), rup_ne d2, rup_ne (by omega)]
theorem xg_oth {h : Row} {s a b x : Nat} (hs : s < 2) (ha : a < 12) (hb : b < 12) (hx : x < 12) (hne : a ≠ b) : xgR h s a b (12 * (1 - s) + x) = if x = b then h (12 * (1 - s) + x) - 1 else if x = a then (if h (12 * (1 - s) + x) + 1 < 999 then h (12 * (1 - s) + x) + 1 else 999) else h (12 * (1 - s) + x) := by
  have d1 : 12 * (1 - s) + x ≠ 12 * s + a := by omega
  have d2 : 12 * (1 - s) + x ≠ 12 * s + b := by omega
  unfold xgR
  by_cases e : x = b
  · subst e
    rw [if_pos rfl, addN_ne (by omega), addN_ne d2, rup_same]
  · rw [if_neg e]
    by_cases e2 : x = a
    · subst e2
      rw [if_pos rfl, addN_at, addN_ne d2, rup_ne (by omega), rup_ne d1]
    · rw [if_neg e2, addN_ne (by omega), addN_ne d2, rup_ne (by omega), rup_ne d1]
theorem xg_out {h : Row} {s a b k : Nat} (hs : s < 2) (ha : a < 12) (hb : b < 12) (hk : 24 ≤ k) : xgR h s a b k = h k := by
  unfold xgR
  rw [addN_ne (by omega), addN_ne (by omega), rup_ne (by omega), rup_ne (by omega)]
theorem t_exchanges {z : zZ} {d s a b : Nat} {ρ : Mu} (hd : 3 ≤ d) (hs : s < 2) (ha : a < 12) (hb : b < 12) (hne : a ≠ b) (hh : hr (ρ 90)) (h1 : 0 < ρ 90 (12 * s + a)) (h2 : 0 < ρ 90 (12 * (1 - s) + b)) : mC z d 272 [(2, 86), (0, (s : Int)), (0, (a : Int)), (0, (b : Int))] ρ = some (0, zrow ρ 90 (xgR (ρ 90) s a b)) := by
  obtain ⟨e, rfl, he⟩ := pred_of (k := 2) hd
  have hs' : 1 - s < 2 := by omega
  have q1 := hh (12 * s + a)
  have q2 := hh (12 * (1 - s) + b)
  have hz1 : zw (12 * (s : Int)) = ((12 * s : Nat) : Int) := by rw [zw_id (by omega) (by omega)]; omega
  have hz2 : zw (12 * ((1 - s : Nat) : Int)) = ((12 * (1 - s) : Nat) : Int) := by rw [zw_id (by omega) (by omega)]; omega
  have g1 : hr (rup (rup (ρ 90) (12 * s + a) (ρ 90 (12 * s + a) - 1)) (12 * (1 - s) + b) (ρ 90 (12 * (1 - s) + b) - 1)) := hr_rup (hr_rup hh (by omega) (by omega)) (by omega) (by omega)
  have hA := t_adds (z := z) (d := e) (a := 90) (i := 12 * s + b) (n := 1) (μ := zrow ρ 90 (rup (rup (ρ 90) (12 * s + a) (ρ 90 (12 * s + a) - 1)) (12 * (1 - s) + b) (ρ 90 (12 * (1 - s) + b) - 1))) he ia90 (by omega) (by rw [zrow_same]; exact g1) (by omega) (by omega)
  have hB := t_adds (z := z) (d := e) (a := 90) (i := 12 * (1 - s) + a) (n := 1) (μ := zrow ρ 90 (addN (rup (rup (ρ 90) (12 * s + a) (ρ 90 (12 * s + a) - 1)) (12 * (1 - s) + b) (ρ 90 (12 * (1 - s) + b) - 1)) (12 * s + b) 1)) he ia90 (by omega) (by rw [zrow_same]; exact hr_addN g1 (by omega)) (by omega) (by omega)
  rw [show ((90 : Nat) : Int) = 90 from rfl, zrow_same, zrow_zrow] at hA hB
  rw [c_M_exchanges, z1s hs, hz1, hz2, zwa (by omega), zwa (by omega), gI_ok (by omega) (by omega), gI_ok (by omega) (by omega), gI_ok (by omega) (by omega), gI_ok (by omega) (by omega), Int.toNat_natCast, Int.toNat_natCast, zup_nk (by omega), zw_id (x := ρ 90 (12 * s + a) - 1) (by omega) (by omega), zw_id (x := ρ 90 (12 * (1 - s) + b) - 1) (by omega) (by omega), zupr, zupr, zrow_same, zrow_zrow, zwa (by omega), hA]
  simp -implicitDefEqProofs only [ob]
  rw [e_M_exchanges_66, zwa (by omega), hB]
  simp -implicitDefEqProofs only [ob]
  rfl
theorem cpy_24 {h g : Row} {j : Nat} (hj : j < 24) : cpy h g 24 j = h j := by unfold cpy; rw [if_pos hj]
/-- what the reference keeps while it tries -/
def XR (ρ P : Mu) : Prop := QR ρ P ∧ (P 86 53 = ρ 86 0 ∧ P 86 54 = ρ 86 16 ∧ P 86 55 = ρ 86 17) ∧ ∀ j, j < 24 → P 119 j = ρ 90 j ∧ P 120 j = ρ 91 j ∧ P 121 j = ρ 92 j
theorem t_begins {z : zZ} {d : Nat} {ρ P0 : Mu} (hd : 2 ≤ d) (hQ : QR ρ P0) : ∃ P, mC z d 252 [(2, 86)] P0 = some (0, P) ∧ XR ρ P := by
  obtain ⟨e, rfl, he⟩ := pred_of hd
  have k0 := hQ.2 0 (Or.inl (by omega))
  have k16 := hQ.2 16 (Or.inl (by omega))
  have k17 := hQ.2 17 (Or.inl (by omega))
  have r90 : P0 90 = ρ 90 := hQ.1 90 (by omega) (by omega) (by omega) (Or.inl (by omega))
  have r91 : P0 91 = ρ 91 := hQ.1 91 (by omega) (by omega) (by omega) (Or.inl (by omega))
  have r92 : P0 92 = ρ 92 := hQ.1 92 (by omega) (by omega) (by omega) (Or.inl (by omega))
  rw [c_M_begins]
  generalize hX : zup (zup (zup P0 86 53 (P0 86 0)) 86 54 (P0 86 16)) 86 55 (P0 86 17) = X
  have xr : ∀ a, a ≠ 86 → X a = P0 a := fun a q => by subst hX; rw [zup_ro q, zup_ro q, zup_ro q]
  have xk : ∀ k, k ≠ 53 → k ≠ 54 → k ≠ 55 → X 86 k = P0 86 k := fun k q1 q2 q3 => by subst hX; rw [zup_nk q3, zup_nk q2, zup_nk q1]
  have x53 : X 86 53 = P0 86 0 := by subst hX; rw [zup_nk (by omega), zup_nk (by omega)]; exact zup_hit
  have x54 : X 86 54 = P0 86 16 := by subst hX; rw [zup_nk (by omega)]; exact zup_hit
  have x55 : X 86 55 = P0 86 17 := by subst hX; exact zup_hit
  clear hX
  have c1 := t_copies (z := z) (d := e) (a := 90) (b := 119) (n := 24) (μ := X) he ia90 ia119 (by omega) (by omega) (by omega) (by omega)
  have c2 := t_copies (z := z) (d := e) (a := 91) (b := 120) (n := 24) (μ := zrow X 119 (cpy (X 90) (X 119) 24)) he ia91 ia120 (by omega) (by omega) (by omega) (by omega)
  have c3 := t_copies (z := z) (d := e) (a := 92) (b := 121) (n := 24) (μ := zrow (zrow X 119 (cpy (X 90) (X 119) 24)) 120 (cpy (zrow X 119 (cpy (X 90) (X 119) 24) 91) (zrow X 119 (cpy (X 90) (X 119) 24) 120) 24)) he ia92 ia121 (by omega) (by omega) (by omega) (by omega)
  rw [show ((90 : Nat) : Int) = 90 from rfl, show ((119 : Nat) : Int) = 119 from rfl, show ((24 : Nat) : Int) = 24 from rfl] at c1
  rw [show ((91 : Nat) : Int) = 91 from rfl, show ((120 : Nat) : Int) = 120 from rfl, show ((24 : Nat) : Int) = 24 from rfl] at c2
  rw [show ((92 : Nat) : Int) = 92 from rfl, show ((121 : Nat) : Int) = 121 from rfl, show ((24 : Nat) : Int) = 24 from rfl] at c3
  rw [c1]
  simp -implicitDefEqProofs only [ob]
  rw [c2]
  simp -implicitDefEqProofs only [ob]
  rw [c3]
  simp -implicitDefEqProofs only [ob]
  refine ⟨_, rfl, ⟨fun a q1 q2 q3 q4 => ?_, fun k q => ?_⟩, ⟨?_, ?_, ?_⟩, fun j hj => ⟨?_, ?_, ?_⟩⟩
  · rw [zrow_ne (by omega), zrow_ne (by omega), zrow_ne (by omega), xr a q1]
    exact hQ.1 a q1 q2 q3 q4
  · rw [zrow_ne (by omega), zrow_ne (by omega), zrow_ne (by omega), xk k (by omega) (by omega) (by omega)]
    exact hQ.2 k q
  · rw [zrow_ne (by omega), zrow_ne (by omega), zrow_ne (by omega), x53]; exact k0
  · rw [zrow_ne (by omega), zrow_ne (by omega), zrow_ne (by omega), x54]; exact k16
  · rw [zrow_ne (by omega), zrow_ne (by omega), zrow_ne (by omega), x55]; exact k17
  · rw [zrow_ne (by omega), zrow_ne (by omega), zrow_same, cpy_24 hj, xr 90 (by omega), r90]
  · rw [zrow_ne (by omega), zrow_same, cpy_24 hj, zrow_ne (by omega), xr 91 (by omega), r91]
  · rw [zrow_same, cpy_24 hj, zrow_ne (by omega), zrow_ne (by omega), xr 92 (by omega), r92]
/-- memories that differ from the begun one in the rows that are put back -/
def XR9 (ρ P : Mu) : Prop := (∀ a, a ≠ 86 → a ≠ 90 → a ≠ 91 → a ≠ 92 → a ≠ 109 → a ≠ 110 → (a < 118 ∨ 127 < a) → P a = ρ a) ∧ (∀ k, k ≠ 0 → k ≠ 16 → k ≠ 17 → (k < 53 ∨ 66 < k) → P 86 k = ρ 86 k) ∧ (∀ j, 24 ≤ j → P 90 j = ρ 90 j ∧ P 91 j = ρ 91 j ∧ P 92 j = ρ 92 j) ∧ (P 86 53 = ρ 86 0 ∧ P 86 54 = ρ 86 16 ∧ P 86 55 = ρ 86 17) ∧ ∀ j, j < 24 → P 119 j = ρ 90 j ∧ P 120 j = ρ 91 j ∧ P 121 j = ρ 92 j
theorem t_again {z : zZ} {d : Nat} {ρ P0 : Mu} (hd : 2 ≤ d) (hX9 : XR9 ρ P0) : ∃ P, mC z d 254 [(2, 86)] P0 = some (0, P) ∧ XR ρ P := by
  obtain ⟨e, rfl, he⟩ := pred_of hd
  obtain ⟨n1, n2, n3, ⟨n4, n5, n6⟩, n7⟩ := hX9
  rw [c_M_again]
  generalize hX : zup (zup (zup P0 86 0 (P0 86 53)) 86 16 (P0 86 54)) 86 17 (P0 86 55) = X
  have xr : ∀ a, a ≠ 86 → X a = P0 a := fun a q => by subst hX; rw [zup_ro q, zup_ro q, zup_ro q]
  have xk : ∀ k, k ≠ 0 → k ≠ 16 → k ≠ 17 → X 86 k = P0 86 k := fun k q1 q2 q3 => by subst hX; rw [zup_nk q3, zup_nk q2, zup_nk q1]
  have x0 : X 86 0 = ρ 86 0 := by subst hX; rw [zup_nk (by omega), zup_nk (by omega), zup_hit]; exact n4
  have x16 : X 86 16 = ρ 86 16 := by subst hX; rw [zup_nk (by omega), zup_hit]; exact n5
  have x17 : X 86 17 = ρ 86 17 := by subst hX; rw [zup_hit]; exact n6
  clear hX
  have c1 := t_copies (z := z) (d := e) (a := 119) (b := 90) (n := 24) (μ := X) he ia119 ia90 (by omega) (by omega) (by omega) (by omega)
  have c2 := t_copies (z := z) (d := e) (a := 120) (b := 91) (n := 24) (μ := zrow X 90 (cpy (X 119) (X 90) 24)) he ia120 ia91 (by omega) (by omega) (by omega) (by omega)
  have c3 := t_copies (z := z) (d := e) (a := 121) (b := 92) (n := 24) (μ := zrow (zrow X 90 (cpy (X 119) (X 90) 24)) 91 (cpy (zrow X 90 (cpy (X 119) (X 90) 24) 120) (zrow X 90 (cpy (X 119) (X 90) 24) 91) 24)) he ia121 ia92 (by omega) (by omega) (by omega) (by omega)
  rw [show ((90 : Nat) : Int) = 90 from rfl, show ((119 : Nat) : Int) = 119 from rfl, show ((24 : Nat) : Int) = 24 from rfl] at c1
  rw [show ((91 : Nat) : Int) = 91 from rfl, show ((120 : Nat) : Int) = 120 from rfl, show ((24 : Nat) : Int) = 24 from rfl] at c2
  rw [show ((92 : Nat) : Int) = 92 from rfl, show ((121 : Nat) : Int) = 121 from rfl, show ((24 : Nat) : Int) = 24 from rfl] at c3
  rw [c1]
  simp -implicitDefEqProofs only [ob]
  rw [c2]
  simp -implicitDefEqProofs only [ob]
  rw [c3]
  simp -implicitDefEqProofs only [ob]
  have y90 : cpy (X 119) (X 90) 24 = ρ 90 := by
    funext j
    unfold cpy
    by_cases h : j < 24
    · rw [if_pos h, xr 119 (by omega)]; exact (n7 j h).1
    · rw [if_neg h, xr 90 (by omega)]; exact (n3 j (by omega)).1
  rw [y90]
  have y91 : cpy (zrow X 90 (ρ 90) 120) (zrow X 90 (ρ 90) 91) 24 = ρ 91 := by
    funext j
    unfold cpy
    rw [zrow_ne (by omega), zrow_ne (by omega)]
    by_cases h : j < 24
    · rw [if_pos h, xr 120 (by omega)]; exact (n7 j h).2.1
    · rw [if_neg h, xr 91 (by omega)]; exact (n3 j (by omega)).2.1
  rw [y91]
  have y92 : cpy (zrow (zrow X 90 (ρ 90)) 91 (ρ 91) 121) (zrow (zrow X 90 (ρ 90)) 91 (ρ 91) 92) 24 = ρ 92 := by
    funext j
    unfold cpy
    rw [zrow_ne (by omega), zrow_ne (by omega), zrow_ne (by omega), zrow_ne (by omega)]
    by_cases h : j < 24
    · rw [if_pos h, xr 121 (by omega)]; exact (n7 j h).2.2
    · rw [if_neg h, xr 92 (by omega)]; exact (n3 j (by omega)).2.2
  rw [y92]
  refine ⟨_, rfl, ⟨fun a q1 q2 q3 q4 => ?_, fun k q => ?_⟩, ⟨?_, ?_, ?_⟩, fun j hj => ⟨?_, ?_, ?_⟩⟩
  · by_cases e2 : a = 92
    · subst e2; exact zrow_same
    · rw [zrow_ne e2]
      by_cases e1 : a = 91
      · subst e1; exact zrow_same
      · rw [zrow_ne e1]
        by_cases e0 : a = 90
        · subst e0; exact zrow_same
        · rw [zrow_ne e0, xr a q1]
          exact n1 a q1 e0 e1 e2 q2 q3 q4
  · rw [zrow_ne (by omega), zrow_ne (by omega), zrow_ne (by omega)]
    by_cases e0 : k = 0
    · subst e0; exact x0
    · by_cases e1 : k = 16
      · subst e1; exact x16
      · by_cases e2 : k = 17
        · subst e2; exact x17
        · rw [xk k e0 e1 e2]; exact n2 k e0 e1 e2 q
  · rw [zrow_ne (by omega), zrow_ne (by omega), zrow_ne (by omega), xk 53 (by omega) (by omega) (by omega)]; exact n4
  · rw [zrow_ne (by omega), zrow_ne (by omega), zrow_ne (by omega), xk 54 (by omega) (by omega) (by omega)]; exact n5
  · rw [zrow_ne (by omega), zrow_ne (by omega), zrow_ne (by omega), xk 55 (by omega) (by omega) (by omega)]; exact n6
  · rw [zrow_ne (by omega), zrow_ne (by omega), zrow_ne (by omega), xr 119 (by omega)]; exact (n7 j hj).1
  · rw [zrow_ne (by omega), zrow_ne (by omega), zrow_ne (by omega), xr 120 (by omega)]; exact (n7 j hj).2.1
  · rw [zrow_ne (by omega), zrow_ne (by omega), zrow_ne (by omega), xr 121 (by omega)]; exact (n7 j hj).2.2
