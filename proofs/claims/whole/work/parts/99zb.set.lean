/-! strength and seed in both -/
theorem SDc_rows {μ M : Mu} {s N f : Nat} {L : Nat → Nat} (r : ∀ i, i ≤ 4 → M (4 + 9 * s + i) = μ (4 + 9 * s + i)) (hS : SDc μ s N f L) : SDc M s N f L := by
  have r0 : M (4 + 9 * s) = μ (4 + 9 * s) := r 0 (by omega)
  unfold SDc
  rw [r0, r 1 (by omega), r 2 (by omega), r 3 (by omega), r 4 (by omega)]
  exact hS
theorem SDr_rows {μ ρ M P : Mu} {s N f : Nat} {L : Nat → Nat} (hs : s < 2) (r : ∀ i, i ≤ 4 → M (4 + 9 * s + i) = μ (4 + 9 * s + i)) (p : ∀ a, 88 ≤ a → a ≤ 95 → P a = ρ a) (p86 : ∀ k, 14 ≤ k → k ≤ 17 → P 86 k = ρ 86 k) (hS : SDr μ ρ s N f L) : SDr M P s N f L := by
  obtain ⟨b1, b2, b3, b4, b5, b6, b7⟩ := hS
  unfold SDr
  rw [r 1 (by omega), r 2 (by omega), r 3 (by omega), r 4 (by omega), p 88 (by omega) (by omega), p 89 (by omega) (by omega), p 90 (by omega) (by omega), p 91 (by omega) (by omega), p 92 (by omega) (by omega), p86 (16 + s) (by omega) (by omega)]
  refine ⟨b1, ⟨by rw [p86 (14 + s) (by omega) (by omega)]; exact b2.1, b2.2.1, fun w hw => ?_⟩, b3, b4, b5, b6, b7⟩
  obtain ⟨k1, k2, k3⟩ := b2.2.2 w hw
  exact ⟨k1, by rw [p 95 (by omega) (by omega)]; exact k2, rwd_congr k3 (fun k _ => by rw [p 94 (by omega) (by omega)])⟩
theorem GL_rows {μ ρ M P : Mu} {wl : Nat} (m6 : M 0 6 = μ 0 6) (r : ∀ a, 41 ≤ a → a ≤ 52 → M a = μ a) (p27 : P 86 27 = ρ 86 27) (p : ∀ a, 104 ≤ a → a ≤ 108 → P a = ρ a) (h : GL μ ρ wl) : GL M P wl := by
  obtain ⟨hw, c8, Nn, lt, Dv, Dc, l1, l2, l3⟩ := h
  have hwr : ∀ i, i ≤ 4 → M (wl + i) = μ (wl + i) := fun i hi => r _ (by rcases hw with h | h <;> omega) (by rcases hw with h | h <;> omega)
  have hw0 : M wl = μ wl := hwr 0 (by omega)
  exact ⟨hw, by rw [m6]; exact c8, Nn, lt, Dv, Dc, lawC_congr l1 (by rw [hw0]) (by rw [hw0]) (hwr 1 (by omega)) (hwr 2 (by omega)) (hwr 3 (by omega)) (hwr 4 (by omega)), lawR_congr l2 p27 (p _ (by omega) (by omega)) (p _ (by omega) (by omega)) (p _ (by omega) (by omega)) (p _ (by omega) (by omega)) (p _ (by omega) (by omega)), l3⟩
theorem strength_both {z : zZ} {d d' wl : Nat} {l v : Int} {μ ρ : Mu} {N F : Nat → Nat} {L : Nat → Nat → Nat} (hd : 2 ≤ d) (hd' : 2 ≤ d') (hB : BT μ ρ N F L wl) (hT : TI μ ρ) : GO z d d' 12 181 [(0, l), (0, v)] [(0, l), (0, v)] μ ρ (fun M P => BT M P N F L wl ∧ TI M P) := by
  obtain ⟨e, rfl, he⟩ := pred_of (k := 1) hd
  obtain ⟨e', rfl, he'⟩ := pred_of (k := 1) hd'
  have hKF : KF μ μ := ⟨fun _ _ _ => rfl, fun _ _ _ => rfl, fun _ _ => rfl⟩
  have hKR : KR ρ ρ := ⟨fun _ _ => rfl, fun _ _ => rfl, fun _ _ => rfl⟩
  unfold GO
  rw [c_W_strength, c_M_strength, s_isLetter he, t_isLetter he']
  simp -implicitDefEqProofs only [ob]
  rw [cB, cB]
  by_cases h1 : 0 ≤ l ∧ l < 12
  · rw [decide_eq_true h1, cond_true, cond_true, t_in he']
    simp -implicitDefEqProofs only [ob]
    rw [nB]
    by_cases h2 : v < 0
    · rw [cT h2, decide_eq_false (show ¬ ((0 : Int) ≤ v ∧ v ≤ 99) by omega), cond_false, e_W_strength_17, e_M_strength_17]
      exact ⟨_, _, _, rfl, rfl, ⟨hB, hT⟩, hKF, hKR⟩
    · rw [cF h2]
      by_cases h3 : v ≤ 99
      · obtain ⟨i, rfl, hi⟩ : ∃ i : Nat, l = (i : Int) ∧ i < 12 := ⟨l.toNat, by omega, by omega⟩
        rw [cT h3, decide_eq_true (show (0 : Int) ≤ v ∧ v ≤ 99 by omega), cond_true, gI_ok (by omega) (by omega), gI_ok (by omega) (by omega), Int.toNat_natCast]
        refine ⟨_, _, _, rfl, rfl, ⟨?_, ?_⟩, ⟨fun a q1 q2 => zup_ro (by omega), fun k _ _ => by rw [zup_ro (by omega)], fun a q => zup_ro (by omega)⟩, ⟨fun a q => zup_ro (by omega), fun k _ => by rw [zup_ro (by omega)], fun a q => zup_ro (by omega)⟩⟩
        · obtain ⟨hC, hR, ⟨c1, c2, c3, c4⟩, ⟨c5, c6⟩, c7, hG⟩ := hB
          refine ⟨fun t ht => SDc_rows (fun j hj => zup_ro (by omega)) (hC t ht), fun t ht => SDr_rows ht (fun j hj => zup_ro (by omega)) (fun a q1 q2 => zup_ro (by omega)) (fun k _ _ => by rw [zup_ro (by omega)]) (hR t ht), ⟨?_, ?_, ?_, ?_⟩, ⟨fun k => ?_, fun k hk => ?_⟩, ?_, GL_rows (by rw [zup_ro (by omega)]) (fun a q1 q2 => zup_ro (by omega)) (by rw [zup_ro (by omega)]) (fun a q1 q2 => zup_ro (by omega)) hG⟩
          · rw [zup_ro (by omega), zup_ro (by omega)]; exact c1
          · rw [zup_ro (by omega), zup_ro (by omega)]; exact c2
          · rw [zup_ro (by omega)]; exact c3
          · rw [zup_ro (by omega)]; exact c4
          · by_cases e1 : k = i
            · subst e1; rw [zup_hit]; omega
            · rw [zup_nk e1]; exact c5 k
          · by_cases e1 : k = i
            · subst e1; rw [zup_hit, zup_hit]
            · rw [zup_nk e1, zup_nk e1]; exact c6 k hk
          · rw [zup_ro (by omega), zup_ro (by omega), zup_ro (by omega)]; exact c7
        · obtain ⟨sz, t1, t2, t3, t4⟩ := hT
          refine ⟨sz, t1, by rw [zup_ro (by omega)]; exact t2, by rw [zup_ro (by omega)]; exact t3, ?_⟩
          rw [zup_ro (show (2 : Nat) ≠ 35 by omega)]
          unfold tpe at t4 ⊢
          rw [zup_ro (show (93 : Nat) ≠ 87 by omega)]
          exact t4
      · rw [cF h3, decide_eq_false (show ¬ ((0 : Int) ≤ v ∧ v ≤ 99) by omega), cond_false, e_W_strength_17, e_M_strength_17]
        exact ⟨_, _, _, rfl, rfl, ⟨hB, hT⟩, hKF, hKR⟩
  · rw [decide_eq_false h1, cond_false, cond_false, e_W_strength_17, e_M_strength_17]
    exact ⟨_, _, _, rfl, rfl, ⟨hB, hT⟩, hKF, hKR⟩
