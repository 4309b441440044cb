/-- one letter of a side, in both -/
theorem turn_step {z : zZ} {e e' s l dn wl : Nat} {μ ρ : Mu} {N F : Nat → Nat} {L : Nat → Nat → Nat} (he : 7 ≤ e) (he' : 4 ≤ e') (hs : s < 2) (hl : l < 12) (hdn : dn ≤ 12 * s + l) (hB : BT μ ρ N F L wl) : ∃ (dn' : Nat) (M P : Mu), f_W_turn_11 z e (dn : Int) (s : Int) (l : Int) μ = f_W_turn_11 z e (dn' : Int) (s : Int) ((l + 1 : Nat) : Int) M ∧ f_M_turn_4 z e' (dn : Int) ((12 * s + l : Nat) : Int) ρ = f_M_turn_4 z e' (dn' : Int) ((12 * s + (l + 1) : Nat) : Int) P ∧ dn' ≤ 12 * s + (l + 1) ∧ BT M P N F L wl ∧ CF μ M ∧ RFm ρ P := by
  have hs01 : (s : Int) = 0 ∨ (s : Int) = 1 := by omega
  obtain ⟨⟨g1, g2, g3, g4⟩, ⟨g5, g6⟩, g7, gw, g8, Nn, lt, Dv, Dc, l1, l2, l3, l4⟩ := hB.2.2
  have hwv : wl = 41 ∨ wl = 47 := gw
  obtain ⟨M, m1, m2, m3, m4, m5⟩ := s_deserts (z := z) (d := e) (s := s) (l := l) he hs hl gw g8 l1 l3 l4 g3 g4
  have b3 := (hB.2.1 s hs).2.2.1 l hl
  rw [Nat.zero_add] at b3
  have hz : Unit → z_div ((12 * s + l : Nat) : Int) 12 = (s : Int) ∧ z_rem ((12 * s + l : Nat) : Int) 12 = (l : Int) := fun _ => by
    have q1 : (12 * s + l) / 12 = s := by omega
    have q2 : (12 * s + l) % 12 = l := by omega
    have h := zd12 (12 * s + l) (by omega)
    rw [q1, q2] at h
    exact h
  -- the reference
  have hr : ∃ P, f_M_turn_4 z e' (dn : Int) ((12 * s + l : Nat) : Int) ρ = f_M_turn_60 z e' (dn : Int) ((12 * s + l : Nat) : Int) (s : Int) (nxd (μ 0 19) % 10) (nxd (μ 0 19) % 10) (evl Nn lt Dv Dc (tlD (μ 0 18) (s : Int) (l : Int) (μ (4 + 9 * s + 3) l)) 100 10 Nn 0) P ∧ (∀ a, a ≠ 86 → a ≠ 109 → a ≠ 110 → P a = ρ a) ∧ (∀ k, k ≠ 0 → P 86 k = ρ 86 k) ∧ P 86 0 = nxd (μ 0 19) := by
    rw [e_M_turn_4, cF (by omega), t_draws (by omega) (by rw [← g2]; exact g3) (by rw [← g2]; exact g4)]
    simp -implicitDefEqProofs only [ob]
    rw [(hz ()).1, (hz ()).2, t_feels (by omega), ← g2]
    simp -implicitDefEqProofs only [ob]
    rw [gI_ok (by omega) (by omega), Int.toNat_natCast]
    rw [zrow_ne (show (90 : Nat) ≠ 110 by omega), zup_ro (show (90 : Nat) ≠ 86 by omega), zup_ro (show (110 : Nat) ≠ 86 by omega), zup_nk (show (1 : Nat) ≠ 0 by omega), ← g1, b3]
    generalize hK : zup (zup (zrow (zup ρ 86 0 (nxd (μ 0 19))) 110 (tel (ρ 110) (μ 0 18) (s : Int))) 110 7 (l : Int)) 110 8 (μ (4 + 9 * s + 3) l) = K
    have k1 : ∀ a, a ≠ 86 → a ≠ 110 → K a = ρ a := fun a q1 q2 => by subst hK; rw [zup_ro q2, zup_ro q2, zrow_ne q2, zup_ro q1]
    have k2 : ∀ k, k ≠ 0 → K 86 k = ρ 86 k := fun k q => by subst hK; rw [zup_ro (by omega), zup_ro (by omega), zrow_ne (by omega), zup_nk q]
    have k3 : K 86 0 = nxd (μ 0 19) := by subst hK; rw [zup_ro (by omega), zup_ro (by omega), zrow_ne (by omega), zup_hit]
    have k4 : ∀ i, i < 10 → K 110 i = tlD (μ 0 18) (s : Int) (l : Int) (μ (4 + 9 * s + 3) l) i := fun i hi => by
      subst hK
      rw [zupr, zupr, zrow_same, zrow_same, zrow_same]
      exact tlD_eq i hi
    clear hK
    obtain ⟨P, p1, p2⟩ := t_byLaw (z := z) (d := e') (c := 100) (hi := 10) (μ := K) he' (lawR_congr l2 (k2 27 (by omega)) (k1 _ (by omega) (by omega)) (k1 _ (by omega) (by omega)) (k1 _ (by omega) (by omega)) (k1 _ (by omega) (by omega)) (k1 _ (by omega) (by omega)))
    rw [evl_congr l3 l4 k4] at p1
    rw [p1]
    simp -implicitDefEqProofs only [ob]
    exact ⟨P, rfl, fun a q1 q2 q3 => by rw [p2.1 a q2, k1 a q1 q3], fun k q => by rw [p2.1 86 (by omega), k2 k q], by rw [p2.1 86 (by omega), k3]⟩
  obtain ⟨P, p1, p2, p3, p4⟩ := hr
  obtain ⟨hB1, hC1, hR1⟩ := bt_ask hB m2 m3 m5 p2 p3 ⟨by rw [m4, p4], by rw [m4]; exact (nxd_rg _).1, by rw [m4]; exact (nxd_rg _).2⟩
  have e3 : M (4 + 9 * s + 3) = μ (4 + 9 * s + 3) := m2 _ (by omega) (by omega) (by omega) (by omega)
  have e90 : P 90 (12 * s + l) = μ (4 + 9 * s + 3) l := by rw [p2 90 (by omega) (by omega) (by omega)]; exact b3
  rw [p1, e_W_turn_11, cF (by omega), m1]
  simp -implicitDefEqProofs only [ob]
  rw [cB, e_M_turn_60]
  generalize evl Nn lt Dv Dc (tlD (μ 0 18) (s : Int) (l : Int) (μ (4 + 9 * s + 3) l)) 100 10 Nn 0 = E
  by_cases hc : nxd (μ 0 19) % 10 < E ∧ 0 < μ (4 + 9 * s + 3) l
  · have ho := o9 hs
    have hx := o9 (show 1 - s < 2 by omega)
    have hox : 4 + 9 * (1 - s) + 3 ≠ 4 + 9 * s + 3 := (os_ne hs).1
    have k1 := (hB1.1 s hs).2.2.2.2.2.1
    have k2 := (hB1.1 (1 - s) (by omega)).2.2.2.2.2.1
    obtain ⟨w1, w2, w3⟩ := hB1.2.2.2.2.1
    have ra := k1 l
    rw [e3] at ra
    have z12 : Unit → zw (zw (12 * zw (1 - (s : Int))) + (l : Int)) = ((12 * (1 - s) + l : Nat) : Int) := fun _ => by rw [z1s hs]; exact zi12 (by omega) (by omega)
    rw [decide_eq_true hc, cond_true, cF (by omega), gI_ok (by omega) (by omega), Int.toNat_natCast, e90, nF (by omega), gI_ok (by omega) (by omega), gI_ok (by omega) (by omega), (hz ()).2, z12 (), e_W_turn_26 _ _ _ _ _ _ hs01, Int.toNat_natCast, z1s hs, Int.toNat_natCast, z0l (l := l) (by omega), Int.toNat_natCast, gI_ok (by omega) (by omega), gI_ok (by omega) (by omega), e3, zw_id (x := μ (4 + 9 * s + 3) l - 1) (by omega) (by omega), zupr, zupr, e3]
    have q1 : hr (rup (μ (4 + 9 * s + 3)) l (μ (4 + 9 * s + 3) l - 1)) := by rw [← e3]; exact hr_rup k1 (by rw [e3]; omega) (by rw [e3]; omega)
    have u1 := s_add (z := z) (d := e) (o := 4 + 9 * (1 - s)) (b := 0) (l := l) (n := 1) (μ := zrow M (4 + 9 * s + 3) (rup (μ (4 + 9 * s + 3)) l (μ (4 + 9 * s + 3) l - 1))) (by omega) hx hl (by omega) (by rw [zrow_ne hox]; exact k2) (by omega) (by omega)
    rw [zrow_ne hox, show ((0 : Nat) : Int) = 0 from rfl, Nat.zero_add] at u1
    have q2 : hr (rup (P 90) (12 * s + l) (μ (4 + 9 * s + 3) l - 1)) := hr_rup w1 (by omega) (by omega)
    have u2 := t_adds (z := z) (d := e') (a := 90) (i := 12 * (1 - s) + l) (n := 1) (μ := zrow P 90 (rup (P 90) (12 * s + l) (μ (4 + 9 * s + 3) l - 1))) (by omega) ia90 (by omega) (by rw [zrow_same]; exact q2) (by omega) (by omega)
    rw [zrow_same, zrow_zrow, show ((90 : Nat) : Int) = 90 from rfl] at u2
    rw [u1, u2]
    simp -implicitDefEqProofs only [ob]
    rw [e_W_turn_60, e_M_turn_112, zwc (by omega), zwc (by omega), zwc (by omega)]
    have n1 : ∀ a, a ≠ 7 → a ≠ 16 → zrow (zrow M (4 + 9 * s + 3) (rup (μ (4 + 9 * s + 3)) l (μ (4 + 9 * s + 3) l - 1))) (4 + 9 * (1 - s) + 3) (addN (M (4 + 9 * (1 - s) + 3)) l 1) a = M a := fun a q3 q4 => by rw [zrow_ne (by omega), zrow_ne (by omega)]
    have n2 : ∀ a, a ≠ 90 → a ≠ 91 → a ≠ 92 → zrow P 90 (addN (rup (P 90) (12 * s + l) (μ (4 + 9 * s + 3) l - 1)) (12 * (1 - s) + l) 1) a = P a := fun a q3 _ _ => zrow_ne q3
    have hsd : ∀ t, t < 2 → t = s ∨ t = 1 - s := fun t ht => by omega
    refine ⟨dn + 1, _, _, rfl, rfl, by omega, bt_held hB1 n1 n2 (fun t ht => ?_) ⟨by rw [zrow_same]; exact hr_addN q2 (by omega), by rw [zrow_ne (by omega)]; exact w2, by rw [zrow_ne (by omega)]; exact w3⟩ (fun t ht => ?_), CF_trans hC1 ⟨fun a q1 q2 q3 q4 q5 q6 q7 q8 q9 q10 => n1 a q3 q5, fun k _ => by rw [n1 0 (by omega) (by omega)], fun k _ => ⟨by rw [n1 4 (by omega) (by omega)], by rw [n1 13 (by omega) (by omega)]⟩, fun k _ _ => ⟨by rw [n1 41 (by omega) (by omega)], by rw [n1 47 (by omega) (by omega)]⟩⟩, RFm_trans hR1 ⟨fun a q1 q2 q3 q4 q5 q6 q7 => n2 a q2 q3 q4, fun k _ _ _ => by rw [n2 86 (by omega) (by omega) (by omega)]⟩⟩
    · rcases hsd t ht with h | h
      · rw [h, zrow_ne (Ne.symm hox), zrow_same]; exact q1
      · rw [h, zrow_same]; exact hr_addN k2 (by omega)
    · rw [zrow_same, zrow_ne (show (91 : Nat) ≠ 90 by omega), zrow_ne (show (92 : Nat) ≠ 90 by omega)]
      obtain ⟨_, _, v1, v2, v3, _⟩ := hB1.2.1 t ht
      rcases hsd t ht with h | h
      · subst h
        rw [zrow_ne (Ne.symm hox), zrow_same]
        refine ⟨fun k hk => ?_, fun k hk => ?_, fun k hk => ?_⟩
        · have v := v1 k hk
          rw [Nat.zero_add] at v ⊢
          rw [addN_ne (by omega)]
          by_cases e1 : k = l
          · subst e1; rw [rup_same, rup_same]
          · rw [rup_ne (by omega), rup_ne e1, v, e3]
        · rw [rup_ne (by omega), ← e3]; exact v2 k hk
        · rw [rup_ne (by omega), ← e3]; exact v3 k hk
      · subst h
        rw [zrow_same]
        refine ⟨fun k hk => ?_, fun k hk => ?_, fun k hk => ?_⟩
        · have v := v1 k hk
          rw [Nat.zero_add] at v ⊢
          by_cases e1 : k = l
          · subst e1; rw [addN_at, addN_at, rup_ne (by omega), v]
          · rw [addN_ne (by omega), addN_ne e1, rup_ne (by omega), v]
        · rw [addN_ne (by omega)]; exact v2 k hk
        · rw [addN_ne (by omega)]; exact v3 k hk
  · rw [decide_eq_false hc, cond_false, e_W_turn_60, zwc (by omega)]
    refine ⟨dn, M, P, rfl, ?_, by omega, hB1, hC1, hR1⟩
    have h112 : f_M_turn_112 z e' (dn : Int) ((12 * s + l : Nat) : Int) P = f_M_turn_4 z e' (dn : Int) ((12 * s + (l + 1) : Nat) : Int) P := by rw [e_M_turn_112, zwc (by omega)]; rfl
    by_cases c1 : E ≤ nxd (μ 0 19) % 10
    · rw [cT c1, h112]
    · have ra := (hB1.1 s hs).2.2.2.2.2.1 l
      rw [e3] at ra
      rw [cF c1, gI_ok (by omega) (by omega), Int.toNat_natCast, e90, nT (by omega), h112]
