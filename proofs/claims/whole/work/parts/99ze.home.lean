/-! prisoners come home, in both -/
theorem home_step {z : zZ} {e e' s l wl : Nat} {v : Int} {μ ρ : Mu} {N F : Nat → Nat} {L : Nat → Nat → Nat} (he : 2 ≤ e) (he' : 2 ≤ e') (hs : s < 2) (hl : l < 12) (hv : 1 ≤ v) (hv2 : v ≤ μ (4 + 9 * s + 3) (24 + l)) (hB : BT μ ρ N F L wl) : ∃ M P, f_W_home_54 z e (l : Int) v (s : Int) μ = f_W_home_54 z e (l : Int) v ((s + 1 : Nat) : Int) M ∧ f_M_home_39 z e' (l : Int) v (s : Int) ρ = f_M_home_39 z e' (l : Int) v ((s + 1 : Nat) : Int) P ∧ BT M P N F L wl ∧ (∀ a, a ≠ 4 + 9 * s + 3 → M a = μ a) ∧ ∀ a, a ≠ 90 → a ≠ 92 → P a = ρ a := by
  have hs01 : (s : Int) = 0 ∨ (s : Int) = 1 := by omega
  have ho := o9 hs
  have k1 := (hB.1 s hs).2.2.2.2.2.1
  have ra := k1 (24 + l)
  obtain ⟨w1, w2, w3⟩ := hB.2.2.2.2.1
  have g3 := (hB.2.1 s hs).2.2.1
  have g5 := (hB.2.1 s hs).2.2.2.2.1
  have e24 : zw (24 + (l : Int)) = ((24 + l : Nat) : Int) := by rw [zw_id (by omega) (by omega)]; omega
  have q1 : hr (rup (μ (4 + 9 * s + 3)) (24 + l) (μ (4 + 9 * s + 3) (24 + l) - v)) := hr_rup k1 (by omega) (by omega)
  have u1 := s_add (z := z) (d := e) (o := 4 + 9 * s) (b := 0) (l := l) (n := v) (μ := zrow μ (4 + 9 * s + 3) (rup (μ (4 + 9 * s + 3)) (24 + l) (μ (4 + 9 * s + 3) (24 + l) - v))) he ho hl (by omega) (by rw [zrow_same]; exact q1) (by omega) (by omega)
  rw [zrow_same, zrow_zrow, show ((0 : Nat) : Int) = 0 from rfl, Nat.zero_add] at u1
  have c92 := g5 l hl
  have q2 : hr (rup (ρ 92) (12 * s + l) (ρ 92 (12 * s + l) - v)) := hr_rup w3 (by omega) (by have := w3 (12 * s + l); omega)
  have u2 := t_adds (z := z) (d := e') (a := 90) (i := 12 * s + l) (n := v) (μ := zrow ρ 92 (rup (ρ 92) (12 * s + l) (ρ 92 (12 * s + l) - v))) he' ia90 (by omega) (by rw [zrow_ne (by omega)]; exact w1) (by omega) (by omega)
  rw [zrow_ne (by omega), show ((90 : Nat) : Int) = 90 from rfl] at u2
  refine ⟨zrow μ (4 + 9 * s + 3) (addN (rup (μ (4 + 9 * s + 3)) (24 + l) (μ (4 + 9 * s + 3) (24 + l) - v)) l v), zrow (zrow ρ 92 (rup (ρ 92) (12 * s + l) (ρ 92 (12 * s + l) - v))) 90 (addN (ρ 90) (12 * s + l) v), ?_, ?_, ?_, fun a q => zrow_ne q, fun a q3 q4 => by rw [zrow_ne q3, zrow_ne q4]⟩
  · rw [e_W_home_54, cF (by omega), e_W_home_59 _ _ _ _ _ _ hs01, Int.toNat_natCast, e24, Int.toNat_natCast, gI_ok (by omega) (by omega), gI_ok (by omega) (by omega), zw_id (x := μ (4 + 9 * s + 3) (24 + l) - v) (by omega) (by omega), zupr, u1]
    simp -implicitDefEqProofs only [ob]
    rw [zwc (by omega)]
  · have r9 := w3 (12 * s + l)
    rw [e_M_home_39, cF (by omega), zi12 (by omega) (by omega), Int.toNat_natCast, gI_ok (by omega) (by omega), gI_ok (by omega) (by omega), zw_id (x := ρ 92 (12 * s + l) - v) (by omega) (by omega), zupr, u2]
    simp -implicitDefEqProofs only [ob]
    rw [zwc (by omega)]
  · refine bt_held hB (fun a q3 q4 => zrow_ne (by omega)) (fun a q3 q4 q5 => by rw [zrow_ne q3, zrow_ne q5]) (fun t ht => ?_) ⟨by rw [zrow_same]; exact hr_addN w1 (by omega), by rw [zrow_ne (by omega), zrow_ne (by omega)]; exact w2, by rw [zrow_ne (by omega), zrow_same]; exact q2⟩ (fun t ht => ?_)
    · by_cases h : t = s
      · subst h
        rw [zrow_same]; exact hr_addN q1 (by omega)
      · rw [zrow_ne (by omega)]; exact (hB.1 t ht).2.2.2.2.2.1
    · rw [zrow_same, zrow_ne (show (91 : Nat) ≠ 90 by omega), zrow_ne (show (91 : Nat) ≠ 92 by omega), zrow_ne (show (92 : Nat) ≠ 90 by omega), zrow_same]
      obtain ⟨_, _, g90, g91, g92, _⟩ := hB.2.1 t ht
      by_cases h : t = s
      · subst h
        rw [zrow_same]
        refine ⟨fun k hk => ?_, fun k hk => ?_, fun k hk => ?_⟩
        · rw [Nat.zero_add]
          have gk := g90 k hk
          rw [Nat.zero_add] at gk
          by_cases h2 : k = l
          · subst h2
            rw [addN_at, addN_at, rup_ne (by omega), gk]
          · rw [addN_ne (by omega), addN_ne (by omega), rup_ne (by omega), gk]
        · rw [addN_ne (by omega), rup_ne (by omega)]; exact g91 k hk
        · have gk := g92 k hk
          by_cases h2 : k = l
          · subst h2
            rw [rup_same, addN_ne (by omega), rup_same, gk]
          · rw [rup_ne (by omega), addN_ne (by omega), rup_ne (by omega), gk]
      · rw [zrow_ne (by omega)]
        refine ⟨fun k hk => ?_, g91, fun k hk => ?_⟩
        · rw [addN_ne (by omega)]; exact g90 k hk
        · rw [rup_ne (by omega)]; exact g92 k hk
theorem home_both {z : zZ} {d d' wl : Nat} {l v : Int} {μ ρ : Mu} {N F : Nat → Nat} {L : Nat → Nat → Nat} (hd : 4 ≤ d) (hd' : 4 ≤ d') (hB : BT μ ρ N F L wl) (hT : TI μ ρ) : GO z d d' 127 274 [(0, l), (0, v)] [(0, l), (0, v)] μ ρ (fun M P => BT M P N F L wl ∧ TI M P) := by
  obtain ⟨e, rfl, he⟩ := pred_of (k := 3) hd
  obtain ⟨e', rfl, he'⟩ := pred_of (k := 3) hd'
  unfold GO
  rw [c_W_home, c_M_home, s_isLetter (by omega), t_isLetter (by omega)]
  simp -implicitDefEqProofs only [ob]
  rw [cB, cB]
  by_cases h1 : 0 ≤ l ∧ l < 12
  · rw [decide_eq_true h1, cond_true, cond_true]
    by_cases h2 : 1 ≤ v
    · obtain ⟨l, rfl, hl⟩ : ∃ t : Nat, l = (t : Int) ∧ t < 12 := ⟨l.toNat, by omega, by omega⟩
      have g0 := (hB.2.1 0 (by omega)).2.2.2.2.1 l hl
      have g1 := (hB.2.1 1 (by omega)).2.2.2.2.1 l hl
      rw [show 12 * 0 + l = l by omega, show 4 + 9 * 0 + 3 = 7 from rfl] at g0
      rw [show 12 * 1 + l = 12 + l by omega, show 4 + 9 * 1 + 3 = 16 from rfl] at g1
      have e24 : zw (24 + (l : Int)) = ((24 + l : Nat) : Int) := by rw [zw_id (by omega) (by omega)]; omega
      have e12 : zw (12 + (l : Int)) = ((12 + l : Nat) : Int) := by rw [zw_id (by omega) (by omega)]; omega
      rw [cT h2, cF (show ¬ v < 1 by omega), e24, e12, gI_ok (by omega) (by omega), gI_ok (by omega) (by omega), gI_ok (by omega) (by omega), gI_ok (by omega) (by omega), Int.toNat_natCast, Int.toNat_natCast, Int.toNat_natCast]
      by_cases h3 : μ 7 (24 + l) < v
      · rw [cT h3, cT (show ρ 92 l < v by omega), e_W_home_50, e_M_home_35]
        exact ⟨_, _, _, rfl, rfl, ⟨hB, hT⟩, KF_refl μ, KR_refl ρ⟩
      · rw [cF h3, cF (show ¬ ρ 92 l < v by omega)]
        by_cases h4 : v ≤ μ 16 (24 + l)
        · obtain ⟨M1, P1, a1, a2, a3, a4, a5⟩ := home_step (z := z) (e := e) (e' := e') (s := 0) (l := l) (v := v) (by omega) (by omega) (by omega) hl h2 (by rw [show 4 + 9 * 0 + 3 = 7 from rfl]; omega) hB
          obtain ⟨M2, P2, b1, b2, b3, b4, b5⟩ := home_step (z := z) (e := e) (e' := e') (s := 1) (l := l) (v := v) (by omega) (by omega) (by omega) hl h2 (by rw [show 4 + 9 * 1 + 3 = 16 from rfl, a4 16 (by omega)]; exact h4) a3
          have n1 : ∀ a, a ≠ 7 → a ≠ 16 → M2 a = μ a := fun a q1 q2 => by rw [b4 a (by omega), a4 a (by omega)]
          have n2 : ∀ a, a ≠ 90 → a ≠ 91 → a ≠ 92 → P2 a = ρ a := fun a q1 _ q2 => by rw [b5 a q1 q2, a5 a q1 q2]
          rw [cT h4, cT (show v ≤ ρ 92 (12 + l) by omega), e_W_home_52, e_M_home_37]
          rw [show ((0 : Nat) : Int) = 0 from rfl, show ((0 + 1 : Nat) : Int) = ((1 : Nat) : Int) from rfl] at a1 a2
          rw [a1, a2, b1, b2, e_W_home_54, e_M_home_39, cT (by omega), cT (by omega)]
          exact ⟨_, _, _, rfl, rfl, ⟨b3, TI_held n1 n2 hT⟩, KF_held n1, KR_held n2⟩
        · rw [cF h4, cF (show ¬ v ≤ ρ 92 (12 + l) by omega), e_W_home_50, e_M_home_35]
          exact ⟨_, _, _, rfl, rfl, ⟨hB, hT⟩, KF_refl μ, KR_refl ρ⟩
    · rw [cF h2, cT (show v < 1 by omega), e_W_home_12, e_M_home_35]
      exact ⟨_, _, _, rfl, rfl, ⟨hB, hT⟩, KF_refl μ, KR_refl ρ⟩
  · rw [decide_eq_false h1, cond_false, cond_false, e_W_home_12, e_M_home_35]
    exact ⟨_, _, _, rfl, rfl, ⟨hB, hT⟩, KF_refl μ, KR_refl ρ⟩
