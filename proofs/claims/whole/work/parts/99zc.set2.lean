/-! seed and reserve in both -/
theorem seed_both {z : zZ} {d d' wl : Nat} {v : Int} {μ ρ : Mu} {N F : Nat → Nat} {L : Nat → Nat → Nat} (hd : 2 ≤ d) (hd' : 2 ≤ d') (hB : BT μ ρ N F L wl) (hT : TI μ ρ) : GO z d d' 62 300 [(0, v)] [(0, v)] μ ρ (fun M P => BT M P N F L wl ∧ TI M P) := by
  obtain ⟨e, rfl, he⟩ := pred_of (k := 1) hd
  obtain ⟨e', rfl, he'⟩ := pred_of (k := 1) hd'
  have hKF : KF μ μ := ⟨fun _ _ _ => rfl, fun _ _ _ => rfl, fun _ _ => rfl⟩
  have hKR : KR ρ ρ := ⟨fun _ _ => rfl, fun _ _ => rfl, fun _ _ => rfl⟩
  unfold GO
  rw [c_W_seed, c_M_seed, t_in he']
  simp -implicitDefEqProofs only [ob]
  rw [nB]
  by_cases h2 : v < 0
  · rw [cT h2, decide_eq_false (show ¬ ((0 : Int) ≤ v ∧ v ≤ 65535) by omega), cond_false, e_W_seed_10]
    exact ⟨_, _, _, rfl, rfl, ⟨hB, hT⟩, hKF, hKR⟩
  · rw [cF h2]
    by_cases h3 : v ≤ 65535
    · rw [cT h3, decide_eq_true (show (0 : Int) ≤ v ∧ v ≤ 65535 by omega), cond_true]
      refine ⟨_, _, _, rfl, rfl, ⟨?_, ?_⟩, ⟨fun a q1 q2 => zup_ro (by omega), fun k _ _ => zup_nk (by omega), fun a q => zup_ro (by omega)⟩, ⟨fun a q => zup_ro (by omega), fun k _ => zup_nk (by omega), fun a q => zup_ro (by omega)⟩⟩
      · obtain ⟨hC, hR, ⟨c1, c2, c3, c4⟩, ⟨c5, c6⟩, c7, hG⟩ := hB
        refine ⟨fun t ht => SDc_rows (fun j hj => zup_ro (by omega)) (hC t ht), fun t ht => SDr_rows ht (fun j hj => zup_ro (by omega)) (fun a q1 q2 => zup_ro (by omega)) (fun k _ _ => zup_nk (by omega)) (hR t ht), ⟨?_, ?_, ?_, ?_⟩, ⟨?_, fun k hk => ?_⟩, ?_, GL_rows (zup_nk (by omega)) (fun a q1 q2 => zup_ro (by omega)) (zup_nk (by omega)) (fun a q1 q2 => zup_ro (by omega)) hG⟩
        · rw [zup_nk (by omega), zup_nk (by omega)]; exact c1
        · rw [zup_hit, zup_hit]
        · rw [zup_hit]; omega
        · rw [zup_hit]; exact h3
        · rw [zup_ro (by omega)]; exact c5
        · rw [zup_ro (by omega), zup_ro (by omega)]; exact c6 k hk
        · rw [zup_ro (by omega), zup_ro (by omega), zup_ro (by omega)]; exact c7
      · obtain ⟨sz, t1, t2, t3, t4⟩ := hT
        refine ⟨sz, t1, by rw [zup_ro (by omega)]; exact t2, by rw [zup_nk (by omega)]; exact t3, ?_⟩
        rw [zup_ro (show (2 : Nat) ≠ 0 by omega)]
        unfold tpe at t4 ⊢
        rw [zup_ro (show (93 : Nat) ≠ 86 by omega)]
        exact t4
    · rw [cF h3, decide_eq_false (show ¬ ((0 : Int) ≤ v ∧ v ≤ 65535) by omega), cond_false, e_W_seed_10]
      exact ⟨_, _, _, rfl, rfl, ⟨hB, hT⟩, hKF, hKR⟩
theorem reserve_both {z : zZ} {d d' wl : Nat} {s l v : Int} {μ ρ : Mu} {N F : Nat → Nat} {L : Nat → Nat → Nat} (hd : 2 ≤ d) (hd' : 2 ≤ d') (hB : BT μ ρ N F L wl) (hT : TI μ ρ) : GO z d d' 14 184 [(0, s), (0, l), (0, v)] [(0, s), (0, l), (0, v)] μ ρ (fun M P => BT M P N F L wl ∧ TI M P) := by
  obtain ⟨e, rfl, he⟩ := pred_of (k := 1) hd
  obtain ⟨e', rfl, he'⟩ := pred_of (k := 1) hd'
  have hKF : KF μ μ := ⟨fun _ _ _ => rfl, fun _ _ _ => rfl, fun _ _ => rfl⟩
  have hKR : KR ρ ρ := ⟨fun _ _ => rfl, fun _ _ => rfl, fun _ _ => rfl⟩
  have hno : f_W_reserve_25 z e μ = some (0, μ) := by rw [e_W_reserve_25]
  have hno' : f_M_reserve_25 z e' ρ = some (0, ρ) := by rw [e_M_reserve_25]
  unfold GO
  rw [c_W_reserve, c_M_reserve, s_isSide he, t_isSide he']
  simp -implicitDefEqProofs only [ob]
  rw [cB, cB]
  by_cases h0 : s = 0 ∨ s = 1
  · rw [decide_eq_true h0, cond_true, cond_true, s_isLetter he, t_isLetter he']
    simp -implicitDefEqProofs only [ob]
    rw [cB, cB]
    by_cases h1 : 0 ≤ l ∧ l < 12
    · rw [decide_eq_true h1, cond_true, cond_true, t_in he']
      simp -implicitDefEqProofs only [ob]
      rw [nB]
      by_cases h2 : v < 0
      · rw [cT h2, decide_eq_false (show ¬ ((0 : Int) ≤ v ∧ v ≤ 999) by omega), cond_false, hno, hno']
        exact ⟨_, _, _, rfl, rfl, ⟨hB, hT⟩, hKF, hKR⟩
      · rw [cF h2]
        by_cases h3 : v ≤ 999
        · obtain ⟨t, rfl, ht⟩ : ∃ t : Nat, s = (t : Int) ∧ t < 2 := ⟨s.toNat, by omega, by omega⟩
          obtain ⟨i, rfl, hi⟩ : ∃ i : Nat, l = (i : Int) ∧ i < 12 := ⟨l.toNat, by omega, by omega⟩
          obtain ⟨a1, a2, a3, a4, a5, a6, a7⟩ := hB.1 t ht
          obtain ⟨b1, b2, b3, b4, b5, b6⟩ := hB.2.1 t ht
          obtain ⟨g1, g2, g3⟩ := hB.2.2.2.2.1
          rw [cT h3, decide_eq_true (show (0 : Int) ≤ v ∧ v ≤ 999 by omega), cond_true, e_W_reserve_27 _ _ _ _ _ _ (by omega), Int.zero_add, zw_id (x := (i : Int)) (by omega) (by omega), gI_ok (by omega) (by omega), zi12 (by omega) (by omega), gI_ok (by omega) (by omega), Int.toNat_natCast, Int.toNat_natCast, Int.toNat_natCast]
          have hN2 : (fun u => if u = t then F t else F u) = F := funext (fun u => by
            by_cases e1 : u = t
            · subst e1; rw [if_pos rfl]
            · rw [if_neg e1])
          have hu := bt_upd (M := zup μ (4 + 9 * t + 3) i v) (P := zup ρ 90 (12 * t + i) v) (f' := F t) hB ht (fun a q1 q2 => zup_ro q2) (fun k q => by rw [zup_ro (by omega)]) (by rw [zup_ro (by omega)]; exact a3) a4 a5 (by rw [zupr, zrow_same]; exact hr_rup a6 (by omega) h3) (fun a q1 q2 q3 q4 q5 => zup_ro q2) (fun k q => by rw [zup_ro (by omega)]) (by rw [zup_ro (by omega)]; exact b1) ⟨by rw [zupr, zrow_same]; exact hr_rup g1 (by omega) h3, by rw [zup_ro (by omega)]; exact g2, by rw [zup_ro (by omega)]; exact g3⟩ (fun k hk => by
            by_cases e1 : k = i
            · subst e1
              rw [zup_hit, Nat.zero_add, zup_hit]
            · rw [zup_nk (by omega), zup_nk (by omega)]
              exact b3 k hk) (fun k hk => by rw [zup_ro (by omega), zup_nk (by omega)]; exact b4 k hk) (fun k hk => by rw [zup_ro (by omega), zup_nk (by omega)]; exact b5 k hk) (fun k hk => ⟨zup_nk (by omega), by rw [zup_ro (by omega)], by rw [zup_ro (by omega)]⟩)
          rw [hN2] at hu
          refine ⟨_, _, _, rfl, rfl, ⟨hu, ?_⟩, ⟨fun a q1 q2 => zup_ro (by omega), fun k _ _ => by rw [zup_ro (by omega)], fun a q => zup_ro (by omega)⟩, ⟨fun a q => zup_ro (by omega), fun k _ => by rw [zup_ro (by omega)], fun a q => zup_ro (by omega)⟩⟩
          obtain ⟨sz, t1, t2, t3, t4⟩ := hT
          refine ⟨sz, t1, by rw [zup_ro (by omega)]; exact t2, by rw [zup_ro (by omega)]; exact t3, ?_⟩
          rw [zup_ro (show (2 : Nat) ≠ 4 + 9 * t + 3 by omega)]
          unfold tpe at t4 ⊢
          rw [zup_ro (show (93 : Nat) ≠ 90 by omega)]
          exact t4
        · rw [cF h3, decide_eq_false (show ¬ ((0 : Int) ≤ v ∧ v ≤ 999) by omega), cond_false, hno, hno']
          exact ⟨_, _, _, rfl, rfl, ⟨hB, hT⟩, hKF, hKR⟩
    · rw [decide_eq_false h1, cond_false, cond_false, hno, hno']
      exact ⟨_, _, _, rfl, rfl, ⟨hB, hT⟩, hKF, hKR⟩
  · rw [decide_eq_false h0, cond_false, cond_false, hno, hno']
    exact ⟨_, _, _, rfl, rfl, ⟨hB, hT⟩, hKF, hKR⟩
