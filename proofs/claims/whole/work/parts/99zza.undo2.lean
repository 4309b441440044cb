/-! undo in both -/
theorem t_undo {z : zZ} {d m0 m1 : Nat} {ρ : Mu} {N : Nat → Nat} {L : Nat → Nat → Nat} {W st : Nat → Row} {Lk : Nat → Nat → Nat} (hd : 5 ≤ d) (hx : ∀ s, s < 2 → lexR ρ s (N s) (W s) (L s)) (h76 : ρ 86 76 = 1) (h0 : ρ 143 0 = (m0 : Int)) (h06 : m0 ≤ 6) (h1 : ρ 143 1 = (m1 : Int)) (h16 : m1 ≤ 6) (hk0 : ∀ q, q < m0 → ρ 145 (6 * 0 + q) = (Lk 0 q : Int) ∧ rwd ρ 144 (8 * (6 * 0 + q)) (Lk 0 q) (st 0 q)) (hk1 : ∀ q, q < m1 → ρ 145 (6 * 1 + q) = (Lk 1 q : Int) ∧ rwd ρ 144 (8 * (6 * 1 + q)) (Lk 1 q) (st 1 q)) (h90 : hr (ρ 90)) (h140 : ∀ j, j < 24 → 0 ≤ ρ 140 j ∧ ρ 140 j ≤ 999) : ∃ (P : Mu) (h : Row), mC z d 304 [(2, 86)] ρ = some (1, P) ∧ (∀ j, j < 24 → h j = ρ 140 j) ∧ (∀ j, 24 ≤ j → h j = ρ 90 j) ∧ P 90 = ldH (ldH h (W 0) (st 0) (N 0) (12 * 0) m0) (W 1) (st 1) (N 1) (12 * 1) m1 ∧ (∀ j, j < 24 → P 91 j = ρ 141 j ∧ P 92 j = ρ 142 j ∧ P 128 j = ρ 146 j ∧ P 129 j = ρ 147 j ∧ P 132 j = ρ 148 j ∧ P 133 j = ρ 149 j ∧ P 134 j = ρ 150 j ∧ P 135 j = ρ 151 j) ∧ (∀ j, 24 ≤ j → P 91 j = ρ 91 j ∧ P 92 j = ρ 92 j) ∧ (P 86 16 = ((ldF (W 0) (st 0) (N 0) m0 : Nat) : Int) ∧ P 86 17 = ((ldF (W 1) (st 1) (N 1) m1 : Nat) : Int) ∧ P 86 0 = ρ 86 77 ∧ P 86 1 = ρ 86 78 ∧ P 86 67 = ρ 86 79) ∧ (∀ k, k ≠ 0 → k ≠ 1 → k ≠ 16 → k ≠ 17 → k ≠ 67 → P 86 k = ρ 86 k) ∧ ∀ a, a ≠ 86 → a ≠ 90 → a ≠ 91 → a ≠ 92 → a ≠ 128 → a ≠ 129 → (a < 132 ∨ 135 < a) → P a = ρ a := by
  obtain ⟨e, rfl, he⟩ := pred_of (k := 4) hd
  generalize hZ : zup (zup (zup ρ 86 0 (ρ 86 77)) 86 1 (ρ 86 78)) 86 67 (ρ 86 79) = Z
  have z1 : ∀ a, a ≠ 86 → Z a = ρ a := fun a q => by subst hZ; rw [zup_ro q, zup_ro q, zup_ro q]
  have z2 : ∀ k, k ≠ 0 → k ≠ 1 → k ≠ 67 → Z 86 k = ρ 86 k := fun k q1 q2 q3 => by subst hZ; rw [zup_nk q3, zup_nk q2, zup_nk q1]
  have z3 : Z 86 0 = ρ 86 77 ∧ Z 86 1 = ρ 86 78 ∧ Z 86 67 = ρ 86 79 := by
    subst hZ
    exact ⟨by rw [zup_nk (by omega), zup_nk (by omega), zup_hit], by rw [zup_nk (by omega), zup_hit], zup_hit⟩
  obtain ⟨P1, p1, a1, d1, b1⟩ := t_cp (z := z) (d := e) (a := 140) (b := 90) (va := 140) (vb := 90) (P := Z) (by omega) rfl rfl ia140 ia90 (by omega)
  obtain ⟨P2, p2, a2, d2, b2⟩ := t_cp (z := z) (d := e) (a := 141) (b := 91) (va := 141) (vb := 91) (P := P1) (by omega) rfl rfl ia141 ia91 (by omega)
  obtain ⟨P3, p3, a3, d3, b3⟩ := t_cp (z := z) (d := e) (a := 142) (b := 92) (va := 142) (vb := 92) (P := P2) (by omega) rfl rfl ia142 ia92 (by omega)
  obtain ⟨P4, p4, a4, _, b4⟩ := t_cp (z := z) (d := e) (a := 146) (b := 128) (va := 146) (vb := 128) (P := P3) (by omega) rfl rfl ia146 ia128 (by omega)
  obtain ⟨P5, p5, a5, _, b5⟩ := t_cp (z := z) (d := e) (a := 147) (b := 129) (va := 147) (vb := 129) (P := P4) (by omega) rfl rfl ia147 ia129 (by omega)
  obtain ⟨P6, p6, a6, _, b6⟩ := t_cp (z := z) (d := e) (a := 148) (b := 132) (va := 148) (vb := 132) (P := P5) (by omega) rfl rfl ia148 ia132 (by omega)
  obtain ⟨P7, p7, a7, _, b7⟩ := t_cp (z := z) (d := e) (a := 149) (b := 133) (va := 149) (vb := 133) (P := P6) (by omega) rfl rfl ia149 ia133 (by omega)
  obtain ⟨P8, p8, a8, _, b8⟩ := t_cp (z := z) (d := e) (a := 150) (b := 134) (va := 150) (vb := 134) (P := P7) (by omega) rfl rfl ia150 ia134 (by omega)
  obtain ⟨P9, p9, a9, _, b9⟩ := t_cp (z := z) (d := e) (a := 151) (b := 135) (va := 151) (vb := 135) (P := P8) (by omega) rfl rfl ia151 ia135 (by omega)
  have fr : ∀ c, c ≠ 90 → c ≠ 91 → c ≠ 92 → c ≠ 128 → c ≠ 129 → (c < 132 ∨ 135 < c) → P9 c = Z c := fun c q1 q2 q3 q4 q5 q6 => by rw [b9 c (by omega), b8 c (by omega), b7 c (by omega), b6 c (by omega), b5 c (by omega), b4 c (by omega), b3 c (by omega), b2 c (by omega), b1 c (by omega)]
  have f90 : P9 90 = P1 90 := by rw [b9 90 (by omega), b8 90 (by omega), b7 90 (by omega), b6 90 (by omega), b5 90 (by omega), b4 90 (by omega), b3 90 (by omega), b2 90 (by omega)]
  have f91 : P9 91 = P2 91 := by rw [b9 91 (by omega), b8 91 (by omega), b7 91 (by omega), b6 91 (by omega), b5 91 (by omega), b4 91 (by omega), b3 91 (by omega)]
  have f92 : P9 92 = P3 92 := by rw [b9 92 (by omega), b8 92 (by omega), b7 92 (by omega), b6 92 (by omega), b5 92 (by omega), b4 92 (by omega)]
  have c90 : ∀ j, j < 24 → P9 90 j = ρ 140 j := fun j hj => by rw [f90, a1 j hj, z1 140 (by omega)]
  have c90b : ∀ j, 24 ≤ j → P9 90 j = ρ 90 j := fun j hj => by rw [f90, d1 j hj, z1 90 (by omega)]
  have c91 : ∀ j, j < 24 → P9 91 j = ρ 141 j := fun j hj => by rw [f91, a2 j hj, b1 141 (by omega), z1 141 (by omega)]
  have c91b : ∀ j, 24 ≤ j → P9 91 j = ρ 91 j := fun j hj => by rw [f91, d2 j hj, b1 91 (by omega), z1 91 (by omega)]
  have c92 : ∀ j, j < 24 → P9 92 j = ρ 142 j := fun j hj => by rw [f92, a3 j hj, b2 142 (by omega), b1 142 (by omega), z1 142 (by omega)]
  have c92b : ∀ j, 24 ≤ j → P9 92 j = ρ 92 j := fun j hj => by rw [f92, d3 j hj, b2 92 (by omega), b1 92 (by omega), z1 92 (by omega)]
  have c128 : ∀ j, j < 24 → P9 128 j = ρ 146 j := fun j hj => by rw [b9 128 (by omega), b8 128 (by omega), b7 128 (by omega), b6 128 (by omega), b5 128 (by omega), a4 j hj, b3 146 (by omega), b2 146 (by omega), b1 146 (by omega), z1 146 (by omega)]
  have c129 : ∀ j, j < 24 → P9 129 j = ρ 147 j := fun j hj => by rw [b9 129 (by omega), b8 129 (by omega), b7 129 (by omega), b6 129 (by omega), a5 j hj, b4 147 (by omega), b3 147 (by omega), b2 147 (by omega), b1 147 (by omega), z1 147 (by omega)]
  have c132 : ∀ j, j < 24 → P9 132 j = ρ 148 j := fun j hj => by rw [b9 132 (by omega), b8 132 (by omega), b7 132 (by omega), a6 j hj, b5 148 (by omega), b4 148 (by omega), b3 148 (by omega), b2 148 (by omega), b1 148 (by omega), z1 148 (by omega)]
  have c133 : ∀ j, j < 24 → P9 133 j = ρ 149 j := fun j hj => by rw [b9 133 (by omega), b8 133 (by omega), a7 j hj, b6 149 (by omega), b5 149 (by omega), b4 149 (by omega), b3 149 (by omega), b2 149 (by omega), b1 149 (by omega), z1 149 (by omega)]
  have c134 : ∀ j, j < 24 → P9 134 j = ρ 150 j := fun j hj => by rw [b9 134 (by omega), a8 j hj, b7 150 (by omega), b6 150 (by omega), b5 150 (by omega), b4 150 (by omega), b3 150 (by omega), b2 150 (by omega), b1 150 (by omega), z1 150 (by omega)]
  have c135 : ∀ j, j < 24 → P9 135 j = ρ 151 j := fun j hj => by rw [a9 j hj, b8 151 (by omega), b7 151 (by omega), b6 151 (by omega), b5 151 (by omega), b4 151 (by omega), b3 151 (by omega), b2 151 (by omega), b1 151 (by omega), z1 151 (by omega)]
  have g : ∀ c, c = 143 ∨ c = 144 ∨ c = 145 ∨ c = 94 ∨ c = 95 → P9 c = ρ c := fun c q => by rw [fr c (by omega) (by omega) (by omega) (by omega) (by omega) (by omega)]; exact z1 c (by omega)
  have g86 : P9 86 = Z 86 := fr 86 (by omega) (by omega) (by omega) (by omega) (by omega) (by omega)
  have hh9 : hr (P9 90) := fun j => by
    by_cases hj : j < 24
    · rw [c90 j hj]; exact h140 j hj
    · rw [c90b j (by omega)]; exact h90 j
  have hx9 : ∀ s, s < 2 → lexR P9 s (N s) (W s) (L s) := fun s hs => by
    obtain ⟨y1, y2, y3⟩ := hx s hs
    refine ⟨by rw [g86, z2 _ (by omega) (by omega) (by omega)]; exact y1, y2, fun w hw => ?_⟩
    obtain ⟨x1, x2, x3⟩ := y3 w hw
    exact ⟨x1, by rw [g 95 (by omega)]; exact x2, rwd_congr x3 (fun k _ => by rw [g 94 (by omega)])⟩
  have q1 := t_undoesField (z := z) (d := e) (s := 0) (N := N 0) (m := m0) (st := st 0) (Lk := Lk 0) (μ := P9) (by omega) (by omega) (hx9 0 (by omega)) (by rw [g 143 (by omega)]; exact h0) h06 (fun q hq => by rw [g 145 (by omega)]; exact ⟨(hk0 q hq).1, rwd_congr (hk0 q hq).2 (fun k _ => by rw [g 144 (by omega)])⟩) hh9
  generalize hQ : zrow (zrow P9 90 (ldH (P9 90) (W 0) (st 0) (N 0) (12 * 0) m0)) 86 (rup (P9 86) (16 + 0) ((ldF (W 0) (st 0) (N 0) m0 : Nat) : Int)) = Q at q1
  have Q1 : ∀ a, a ≠ 86 → a ≠ 90 → Q a = P9 a := fun a r1 r2 => by subst hQ; rw [zrow_ne r1, zrow_ne r2]
  have Q90 : Q 90 = ldH (P9 90) (W 0) (st 0) (N 0) (12 * 0) m0 := by subst hQ; rw [zrow_ne (by omega), zrow_same]
  have Q86 : Q 86 = rup (P9 86) 16 ((ldF (W 0) (st 0) (N 0) m0 : Nat) : Int) := by subst hQ; rw [zrow_same]
  clear hQ
  have hhQ : hr (Q 90) := by rw [Q90]; exact hr_ldH hh9 _
  have q2 := t_undoesField (z := z) (d := e) (s := 1) (N := N 1) (m := m1) (st := st 1) (Lk := Lk 1) (μ := Q) (by omega) (by omega) (by
    obtain ⟨y1, y2, y3⟩ := hx9 1 (by omega)
    refine ⟨by rw [Q86, rup_ne (by omega)]; exact y1, y2, fun w hw => ?_⟩
    obtain ⟨x1, x2, x3⟩ := y3 w hw
    exact ⟨x1, by rw [Q1 95 (by omega) (by omega)]; exact x2, rwd_congr x3 (fun k _ => by rw [Q1 94 (by omega) (by omega)])⟩) (by rw [Q1 143 (by omega) (by omega), g 143 (by omega)]; exact h1) h16 (fun q hq => by rw [Q1 145 (by omega) (by omega), g 145 (by omega)]; exact ⟨(hk1 q hq).1, rwd_congr (hk1 q hq).2 (fun k _ => by rw [Q1 144 (by omega) (by omega), g 144 (by omega)])⟩) hhQ
  generalize hR : zrow (zrow Q 90 (ldH (Q 90) (W 1) (st 1) (N 1) (12 * 1) m1)) 86 (rup (Q 86) (16 + 1) ((ldF (W 1) (st 1) (N 1) m1 : Nat) : Int)) = R at q2
  have R1 : ∀ a, a ≠ 86 → a ≠ 90 → R a = P9 a := fun a r1 r2 => by subst hR; rw [zrow_ne r1, zrow_ne r2, Q1 a r1 r2]
  have R90 : R 90 = ldH (ldH (P9 90) (W 0) (st 0) (N 0) (12 * 0) m0) (W 1) (st 1) (N 1) (12 * 1) m1 := by subst hR; rw [zrow_ne (by omega), zrow_same, Q90]
  have R86 : R 86 = rup (rup (Z 86) 16 ((ldF (W 0) (st 0) (N 0) m0 : Nat) : Int)) 17 ((ldF (W 1) (st 1) (N 1) m1 : Nat) : Int) := by subst hR; rw [zrow_same, Q86, g86]
  clear hR
  rw [show ((0 : Nat) : Int) = 0 from rfl] at q1
  rw [show ((1 : Nat) : Int) = 1 from rfl] at q2
  have hfin : mC z (e + 1) 304 [(2, 86)] ρ = some (1, R) := by
    rw [c_M_undo, nF (by omega), hZ, p1]
    simp -implicitDefEqProofs only [ob]
    rw [p2]
    simp -implicitDefEqProofs only [ob]
    rw [p3]
    simp -implicitDefEqProofs only [ob]
    rw [p4]
    simp -implicitDefEqProofs only [ob]
    rw [p5]
    simp -implicitDefEqProofs only [ob]
    rw [e_M_undo_98, p6]
    simp -implicitDefEqProofs only [ob]
    rw [p7]
    simp -implicitDefEqProofs only [ob]
    rw [p8]
    simp -implicitDefEqProofs only [ob]
    rw [p9]
    simp -implicitDefEqProofs only [ob]
    rw [q1]
    simp -implicitDefEqProofs only [ob]
    rw [q2]
    simp -implicitDefEqProofs only [ob]
  refine ⟨R, P9 90, hfin, c90, c90b, R90, fun j hj => ?_, fun j hj => ?_, ⟨?_, ?_, ?_, ?_, ?_⟩, fun k r1 r2 r3 r4 r5 => by rw [R86, rup_ne r4, rup_ne r3, z2 k r1 r2 r5], fun a r1 r2 r3 r4 r5 r6 r7 => by rw [R1 a r1 r2, fr a r2 r3 r4 r5 r6 r7, z1 a r1]⟩
  · rw [R1 91 (by omega) (by omega), R1 92 (by omega) (by omega), R1 128 (by omega) (by omega), R1 129 (by omega) (by omega), R1 132 (by omega) (by omega), R1 133 (by omega) (by omega), R1 134 (by omega) (by omega), R1 135 (by omega) (by omega)]
    exact ⟨c91 j hj, c92 j hj, c128 j hj, c129 j hj, c132 j hj, c133 j hj, c134 j hj, c135 j hj⟩
  · rw [R1 91 (by omega) (by omega), R1 92 (by omega) (by omega)]
    exact ⟨c91b j hj, c92b j hj⟩
  · rw [R86, rup_ne (by omega), rup_same]
  · rw [R86, rup_same]
  · rw [R86, rup_ne (by omega), rup_ne (by omega)]; exact z3.1
  · rw [R86, rup_ne (by omega), rup_ne (by omega)]; exact z3.2.1
  · rw [R86, rup_ne (by omega), rup_ne (by omega)]; exact z3.2.2
theorem undo_both {z : zZ} {d d' wl n0 : Nat} {A B : Nat → Nat} {μ ρ : Mu} {N F : Nat → Nat} {L : Nat → Nat → Nat} (hd : 6 ≤ d) (hd' : 5 ≤ d') (hB : BT μ ρ N F L wl) (hT : TI μ ρ) (hFc : FIc A B n0 μ) (hFr : FIr A B n0 ρ) (hS : SOr (μ 67) (ρ 132) (ρ 133) (ρ 134) (ρ 135)) (hK : KT μ ρ) : ∃ (r : Int) (M P : Mu), mC z d 171 [(2, 0)] μ = some (r, M) ∧ mC z d' 304 [(2, 86)] ρ = some (r, P) ∧ (∃ F', BT M P N F' L wl) ∧ TI M P ∧ (∃ A B n, FIc A B n M ∧ FIr A B n P) ∧ SOr (M 67) (P 132) (P 133) (P 134) (P 135) ∧ KT M P ∧ M 0 7 = μ 0 7 ∧ (∀ a, 86 ≤ a → M a = μ a) ∧ ∀ a, a < 86 → P a = ρ a := by
  rcases hK with ⟨h1, h2⟩ | ⟨h1, h2, h3, ⟨h41, h42, h43⟩, ⟨Ak, Bk, nk, h5, h6, h7, h8, h9⟩, h10, h11⟩
  · obtain ⟨e, rfl, he⟩ := pred_of (k := 5) hd
    obtain ⟨e', rfl, he'⟩ := pred_of (k := 4) hd'
    refine ⟨0, μ, ρ, ?_, ?_, ⟨F, hB⟩, hT, ⟨A, B, n0, hFc, hFr⟩, hS, Or.inl ⟨h1, h2⟩, rfl, fun _ _ => rfl, fun _ _ => rfl⟩
    · rw [c_W_undo, nT h1]
    · rw [c_M_undo, nT h2]
  · obtain ⟨hC, hR, ⟨c1, c2, c3, c4⟩, ⟨c5, c6⟩, ⟨w1, w2, w3⟩, hG⟩ := id hB
    obtain ⟨k01, k02, k03, k04, m0, k05, k06, k07, k08⟩ := h11 0 (by omega)
    obtain ⟨k11, k12, k13, k14, m1, k15, k16, k17, k18⟩ := h11 1 (by omega)
    have hcp : ∀ (s : Nat), s < 2 → (∀ j, j < 36 → 0 ≤ μ (74 + 3 * s) j ∧ μ (74 + 3 * s) j ≤ 999) → hr (cpy (μ (74 + 3 * s)) (μ (4 + 9 * s + 3)) 36) := fun s hs hk j => by
      unfold cpy
      by_cases hj : j < 36
      · rw [if_pos hj]; exact hk j hj
      · rw [if_neg hj]; exact (hC s hs).2.2.2.2.2.1 j
    have hh0 := hcp 0 (by omega) k01
    have hh1 := hcp 1 (by omega) k11
    obtain ⟨M, u0, u1, u2, u3, u4, u5, u6, u7, u8, u9, u10, u11, u12, u13, u14⟩ := s_undo (z := z) (d := d) (m0 := m0) (m1 := m1) hd hC h1 k06 k05 k16 k15 hh0 hh1
    have h140 : ∀ j, j < 24 → (0 ≤ ρ 140 j ∧ ρ 140 j ≤ 999) ∧ (0 ≤ ρ 141 j ∧ ρ 141 j ≤ 999) ∧ (0 ≤ ρ 142 j ∧ ρ 142 j ≤ 999) := fun j hj => by
      by_cases hj2 : j < 12
      · have e1 := k02 j hj2
        have e2 := k03 j hj2
        have e3 := k04 j hj2
        rw [show 12 * 0 + j = j by omega] at e1 e2 e3
        rw [e1, e2, e3]
        exact ⟨k01 _ (by omega), k01 _ (by omega), k01 _ (by omega)⟩
      · have e1 := k12 (j - 12) (by omega)
        have e2 := k13 (j - 12) (by omega)
        have e3 := k14 (j - 12) (by omega)
        rw [show 12 * 1 + (j - 12) = j by omega] at e1 e2 e3
        rw [e1, e2, e3]
        exact ⟨k11 _ (by omega), k11 _ (by omega), k11 _ (by omega)⟩
    obtain ⟨P, h, v0, v1, v2, v3, v4, v5, v6, v7, v8⟩ := t_undo (z := z) (d := d') (m0 := m0) (m1 := m1) (ρ := ρ) (N := N) (L := L) (W := fun s => μ (4 + 9 * s + 4)) (st := fun s => μ (75 + 3 * s)) (Lk := fun s q => (ρ 145 (6 * s + q)).toNat) hd' (fun s hs => (hR s hs).2.1) h2 k07 k05 k17 k15 (fun q hq => ⟨by have := (k08 q hq).1; omega, (k08 q hq).2⟩) (fun q hq => ⟨by have := (k18 q hq).1; omega, (k18 q hq).2⟩) w1 (fun j hj => (h140 j hj).1)
    have hhh : hr h := fun j => by
      by_cases hj : j < 24
      · rw [v1 j hj]; exact (h140 j hj).1
      · rw [v2 j (by omega)]; exact w1 j
    have hh91 : hr (P 91) := fun j => by
      by_cases hj : j < 24
      · rw [(v4 j hj).1]; exact (h140 j hj).2.1
      · rw [(v5 j (by omega)).1]; exact w2 j
    have hh92 : hr (P 92) := fun j => by
      by_cases hj : j < 24
      · rw [(v4 j hj).2.1]; exact (h140 j hj).2.2
      · rw [(v5 j (by omega)).2]; exact w3 j
    have mr : ∀ a, a ≠ 0 → a ≠ 4 → a ≠ 7 → a ≠ 13 → a ≠ 16 → a ≠ 58 → a ≠ 59 → a ≠ 67 → M a = μ a := u14
    have pq : ∀ a, a ≠ 86 → a ≠ 90 → a ≠ 91 → a ≠ 92 → a ≠ 128 → a ≠ 129 → (a < 132 ∨ 135 < a) → P a = ρ a := v8
    have hBT : BT M P N (fun s => if s = 0 then ldF (μ 8) (μ 75) (N 0) m0 else ldF (μ 17) (μ 78) (N 1) m1) L wl := by
      refine bt_hf hB (u13 6 (by omega) (by omega)) (fun a q => mr a (by omega) (by omega) (by omega) (by omega) (by omega) (by omega) (by omega) (by omega)) (fun s hs => ?_) (fun a q => pq a (by omega) (by omega) (by omega) (by omega) (by omega) (by omega) (by omega)) (fun k q => v7 k (by omega) (by omega) (by omega) (by omega) (by omega)) (fun s hs => ?_) (fun s hs => ?_) ⟨by rw [v3]; exact hr_ldH (hr_ldH hhh _) _, hh91, hh92⟩ (fun s hs => ?_) ⟨by rw [u11, v6.2.2.2.1]; exact h3, by rw [u12, v6.2.2.1]; exact h41, by rw [u12]; exact h42, by rw [u12]; exact h43⟩
      · have hs2 : s = 0 ∨ s = 1 := by omega
        rcases hs2 with q | q
        · subst q
          show M 4 6 = μ 4 6
          rw [u3, rup_ne (by omega)]
        · subst q
          show M 13 6 = μ 13 6
          rw [u4, rup_ne (by omega)]
      · have hs2 : s = 0 ∨ s = 1 := by omega
        rcases hs2 with q | q
        · subst q
          have hc := ldF_cnt (W := μ 8) (st := μ 75) (N := N 0) (n := 12) m0
          refine ⟨?_, ?_, ?_, ?_⟩
          · show M 4 7 = _
            rw [u3, rup_same]; rfl
          · exact ldF_lt2 _
          · show cnt (ldF (μ 8) (μ 75) (N 0) m0).testBit 12 ≤ 6
            omega
          · exact v6.1
        · subst q
          have hc := ldF_cnt (W := μ 17) (st := μ 78) (N := N 1) (n := 12) m1
          refine ⟨?_, ?_, ?_, ?_⟩
          · show M 13 7 = _
            rw [u4, rup_same]; rfl
          · exact ldF_lt2 _
          · show cnt (ldF (μ 17) (μ 78) (N 1) m1).testBit 12 ≤ 6
            omega
          · exact v6.2.1
      · have hs2 : s = 0 ∨ s = 1 := by omega
        rcases hs2 with q | q
        · subst q
          show hr (M 7)
          rw [u1]; exact hr_ldH hh0 _
        · subst q
          show hr (M 16)
          rw [u2]; exact hr_ldH hh1 _
      · have hs2 : s = 0 ∨ s = 1 := by omega
        have hin : ∀ (s k : Nat), k < 36 → cpy (μ (74 + 3 * s)) (μ (4 + 9 * s + 3)) 36 k = μ (74 + 3 * s) k := fun s k hk => by unfold cpy; rw [if_pos hk]
        rcases hs2 with q | q
        · subst q
          have hp0 : pt h (12 * 0) (cpy (μ 74) (μ 7) 36) 0 := fun k hk => by
            rw [v1 _ (by omega), hin 0 _ (by omega)]
            exact k02 k hk
          refine ⟨fun k hk => ?_, fun k hk => ?_, fun k hk => ?_⟩
          · show P 90 (12 * 0 + k) = M 7 (0 + k)
            rw [v3, u1, ldH_out (by omega)]
            exact ldH_pt hp0 m0 k hk
          · show P 91 (12 * 0 + k) = M 7 (12 + k)
            rw [u1, ldH_out (by omega), hin 0 _ (by omega), (v4 _ (by omega)).1]
            exact k03 k hk
          · show P 92 (12 * 0 + k) = M 7 (24 + k)
            rw [u1, ldH_out (by omega), hin 0 _ (by omega), (v4 _ (by omega)).2.1]
            exact k04 k hk
        · subst q
          have hp1 : pt (ldH h (μ 8) (μ 75) (N 0) (12 * 0) m0) (12 * 1) (cpy (μ 77) (μ 16) 36) 0 := fun k hk => by
            rw [ldH_out (by omega), v1 _ (by omega), hin 1 _ (by omega)]
            exact k12 k hk
          refine ⟨fun k hk => ?_, fun k hk => ?_, fun k hk => ?_⟩
          · show P 90 (12 * 1 + k) = M 16 (0 + k)
            rw [v3, u2]
            exact ldH_pt hp1 m1 k hk
          · show P 91 (12 * 1 + k) = M 16 (12 + k)
            rw [u2, ldH_out (by omega), hin 1 _ (by omega), (v4 _ (by omega)).1]
            exact k13 k hk
          · show P 92 (12 * 1 + k) = M 16 (24 + k)
            rw [u2, ldH_out (by omega), hin 1 _ (by omega), (v4 _ (by omega)).2.1]
            exact k14 k hk
    refine ⟨1, M, P, u0, v0, ⟨_, hBT⟩, ?_, ⟨Ak, Bk, nk, ⟨h5, ?_, fun i hi => ?_, Or.inl u7, Or.inl u8⟩, h5, ?_, fun i hi => ?_, fun i hi => ?_⟩, ?_, ?_, u13 7 (by omega) (by omega), fun a q => mr a (by omega) (by omega) (by omega) (by omega) (by omega) (by omega) (by omega) (by omega), fun a q => pq a (by omega) (by omega) (by omega) (by omega) (by omega) (by omega) (by omega)⟩
    · exact TI_rows (mr 1 (by omega) (by omega) (by omega) (by omega) (by omega) (by omega) (by omega) (by omega)) (mr 2 (by omega) (by omega) (by omega) (by omega) (by omega) (by omega) (by omega) (by omega)) (v7 9 (by omega) (by omega) (by omega) (by omega) (by omega)) (pq 93 (by omega) (by omega) (by omega) (by omega) (by omega) (by omega) (by omega)) hT
    · rw [u6]; exact h6
    · rw [u5 i (by omega)]; exact h8 i hi
    · rw [v6.2.2.2.2]; exact h7
    · exact ⟨(h8 i hi).1, (h8 i hi).2.1⟩
    · rw [(v4 i (by omega)).2.2.1, (v4 i (by omega)).2.2.2.1]; exact h9 i hi
    · exact SOr_congr h10 u10 (fun j hj => (v4 j hj).2.2.2.2.1) (fun j hj => (v4 j hj).2.2.2.2.2.1) (fun j hj => (v4 j hj).2.2.2.2.2.2.1) (fun j hj => (v4 j hj).2.2.2.2.2.2.2)
    · exact KT_rows (fun k q1 q2 => u13 k (by omega) (by omega)) (u9 1 (by omega) (by omega) (by omega)) (fun a q => mr a (by omega) (by omega) (by omega) (by omega) (by omega) (by omega) (by omega) (by omega)) (fun k q1 q2 => v7 k (by omega) (by omega) (by omega) (by omega) (by omega)) (fun a q => pq a (by omega) (by omega) (by omega) (by omega) (by omega) (by omega) (by omega)) (Or.inr ⟨h1, h2, h3, ⟨h41, h42, h43⟩, ⟨Ak, Bk, nk, h5, h6, h7, h8, h9⟩, h10, h11⟩)
