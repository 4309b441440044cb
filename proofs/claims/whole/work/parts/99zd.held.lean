/-! letters that are held change, nothing else -/
theorem TI_rows {μ ρ M P : Mu} (m1 : M 1 = μ 1) (m2 : M 2 = μ 2) (p9 : P 86 9 = ρ 86 9) (p93 : P 93 = ρ 93) (hT : TI μ ρ) : TI M P := by
  obtain ⟨sz, t1, t2, t3, t4⟩ := hT
  refine ⟨sz, t1, by rw [m1]; exact t2, by rw [p9]; exact t3, ?_⟩
  rw [m2]
  exact tpe_congr t4 p93
theorem bt_held {μ ρ M P : Mu} {N F : Nat → Nat} {L : Nat → Nat → Nat} {wl : Nat} (hB : BT μ ρ N F L wl) (m1 : ∀ a, a ≠ 7 → a ≠ 16 → M a = μ a) (p1 : ∀ a, a ≠ 90 → a ≠ 91 → a ≠ 92 → P a = ρ a) (hM : ∀ s, s < 2 → hr (M (4 + 9 * s + 3))) (hP : hr (P 90) ∧ hr (P 91) ∧ hr (P 92)) (q : ∀ s, s < 2 → pt (P 90) (12 * s) (M (4 + 9 * s + 3)) 0 ∧ pt (P 91) (12 * s) (M (4 + 9 * s + 3)) 12 ∧ pt (P 92) (12 * s) (M (4 + 9 * s + 3)) 24) : BT M P N F L wl := by
  obtain ⟨hC, hR, ⟨c1, c2, c3, c4⟩, ⟨c5, c6⟩, c7, hw, c8, Nn, lt, Dv, Dc, l1, l2, l3⟩ := hB
  have r0 : ∀ s, s < 2 → M (4 + 9 * s) = μ (4 + 9 * s) := fun s hs => m1 _ (by omega) (by omega)
  have r1 : ∀ s, s < 2 → M (4 + 9 * s + 1) = μ (4 + 9 * s + 1) := fun s hs => m1 _ (by omega) (by omega)
  have r2 : ∀ s, s < 2 → M (4 + 9 * s + 2) = μ (4 + 9 * s + 2) := fun s hs => m1 _ (by omega) (by omega)
  have r4 : ∀ s, s < 2 → M (4 + 9 * s + 4) = μ (4 + 9 * s + 4) := fun s hs => m1 _ (by omega) (by omega)
  have p86 : P 86 = ρ 86 := p1 86 (by omega) (by omega) (by omega)
  have m0 : M 0 = μ 0 := m1 0 (by omega) (by omega)
  have mw : ∀ i, i ≤ 4 → M (wl + i) = μ (wl + i) := fun i hi => m1 _ (by rcases hw with h | h <;> omega) (by rcases hw with h | h <;> omega)
  have mw0 : M wl = μ wl := mw 0 (by omega)
  refine ⟨fun s hs => ?_, fun s hs => ?_, ⟨by rw [m0, p86]; exact c1, by rw [m0, p86]; exact c2, by rw [m0]; exact c3, by rw [m0]; exact c4⟩, ⟨by rw [m1 35 (by omega) (by omega)]; exact c5, fun k hk => by rw [m1 35 (by omega) (by omega), p1 87 (by omega) (by omega) (by omega)]; exact c6 k hk⟩, hP, hw, by rw [m0]; exact c8, Nn, lt, Dv, Dc, lawC_congr l1 (by rw [mw0]) (by rw [mw0]) (mw 1 (by omega)) (mw 2 (by omega)) (mw 3 (by omega)) (mw 4 (by omega)), lawR_congr l2 (by rw [p86]) ?_ ?_ ?_ ?_ ?_, l3⟩
  · obtain ⟨a1, a2, a3, a4, a5, a6, a7, a8, a9, a10, a11, a12⟩ := hC s hs
    exact ⟨by rw [r0 s hs]; exact a1, a2, by rw [r0 s hs]; exact a3, a4, a5, hM s hs, by rw [r1 s hs]; exact a7, by rw [r2 s hs]; exact a8, by rw [r4 s hs]; exact a9, by rw [r4 s hs]; exact a10, by rw [r1 s hs, r2 s hs]; exact a11, by rw [r1 s hs, r2 s hs]; exact a12⟩
  · obtain ⟨b1, b2, b3, b4, b5, b6, b7⟩ := hR s hs
    exact ⟨by rw [p86]; exact b1, by rw [r4 s hs]; exact lexR_congr b2 p86 (p1 94 (by omega) (by omega) (by omega)) (p1 95 (by omega) (by omega) (by omega)), (q s hs).1, (q s hs).2.1, (q s hs).2.2, by rw [r1 s hs, p1 88 (by omega) (by omega) (by omega)]; exact b6, by rw [r2 s hs, p1 89 (by omega) (by omega) (by omega)]; exact b7⟩
  all_goals exact p1 _ (by omega) (by omega) (by omega)
theorem KF_held {μ M : Mu} (m1 : ∀ a, a ≠ 7 → a ≠ 16 → M a = μ a) : KF μ M := ⟨fun a q1 q2 => m1 a (by omega) (by omega), fun k _ _ => by rw [m1 0 (by omega) (by omega)], fun a q => m1 a (by omega) (by omega)⟩
theorem KR_held {ρ P : Mu} (p1 : ∀ a, a ≠ 90 → a ≠ 91 → a ≠ 92 → P a = ρ a) : KR ρ P := ⟨fun a q => p1 a (by omega) (by omega) (by omega), fun k _ => by rw [p1 86 (by omega) (by omega) (by omega)], fun a q => p1 a (by omega) (by omega) (by omega)⟩
theorem TI_held {μ ρ M P : Mu} (m1 : ∀ a, a ≠ 7 → a ≠ 16 → M a = μ a) (p1 : ∀ a, a ≠ 90 → a ≠ 91 → a ≠ 92 → P a = ρ a) (hT : TI μ ρ) : TI M P := TI_rows (m1 1 (by omega) (by omega)) (m1 2 (by omega) (by omega)) (by rw [p1 86 (by omega) (by omega) (by omega)]) (p1 93 (by omega) (by omega) (by omega)) hT
/-- the class exchanges -/
theorem s_exch33 {z : zZ} {e s a b : Nat} {μ : Mu} (he : 2 ≤ e) (hs : s < 2) (ha : a < 12) (hb : b < 12) (hne : a ≠ b) (hh : ∀ t, t < 2 → hr (μ (4 + 9 * t + 3))) (h1 : 0 < μ (4 + 9 * s + 3) a) (h2 : 0 < μ (4 + 9 * (1 - s) + 3) b) : ∃ M, f_W_exchanged_33 z e (s : Int) (a : Int) (b : Int) μ = some (1, M) ∧ (∀ c, c ≠ 4 + 9 * s + 3 → c ≠ 4 + 9 * (1 - s) + 3 → M c = μ c) ∧ (hr (M (4 + 9 * s + 3)) ∧ hr (M (4 + 9 * (1 - s) + 3))) ∧ (∀ x, M (4 + 9 * s + 3) x = if x = a then μ (4 + 9 * s + 3) x - 1 else if x = b then (if μ (4 + 9 * s + 3) x + 1 < 999 then μ (4 + 9 * s + 3) x + 1 else 999) else μ (4 + 9 * s + 3) x) ∧ ∀ x, M (4 + 9 * (1 - s) + 3) x = if x = b then μ (4 + 9 * (1 - s) + 3) x - 1 else if x = a then (if μ (4 + 9 * (1 - s) + 3) x + 1 < 999 then μ (4 + 9 * (1 - s) + 3) x + 1 else 999) else μ (4 + 9 * (1 - s) + 3) x := by
  have hs01 : (s : Int) = 0 ∨ (s : Int) = 1 := by omega
  have ho := o9 hs
  have hx := o9 (show 1 - s < 2 by omega)
  have hox : 4 + 9 * (1 - s) + 3 ≠ 4 + 9 * s + 3 := (os_ne hs).1
  have k1 := hh s hs
  have k2 := hh (1 - s) (by omega)
  have ra := k1 a
  have rb := k2 b
  rw [e_W_exchanged_33 _ _ _ _ _ _ hs01, Int.toNat_natCast, z1s hs, Int.toNat_natCast, z0l (l := a) (by omega), z0l (l := b) (by omega), Int.toNat_natCast, Int.toNat_natCast]
  generalize hO : 4 + 9 * s = o at *
  generalize hX : 4 + 9 * (1 - s) = x at *
  have q1 : hr (rup (μ (o + 3)) a (μ (o + 3) a - 1)) := hr_rup k1 (by omega) (by omega)
  rw [gI_ok (by omega) (by omega), gI_ok (by omega) (by omega), zw_id (x := μ (o + 3) a - 1) (by omega) (by omega), zupr]
  have u1 := s_add (z := z) (d := e) (o := x) (b := 0) (l := a) (n := 1) (μ := zrow μ (o + 3) (rup (μ (o + 3)) a (μ (o + 3) a - 1))) he hx ha (by omega) (by rw [zrow_ne hox]; exact k2) (by omega) (by omega)
  rw [zrow_ne hox] at u1
  rw [show ((0 : Nat) : Int) = 0 from rfl] at u1
  rw [u1]
  simp -implicitDefEqProofs only [ob]
  rw [gI_ok (by omega) (by omega), gI_ok (by omega) (by omega), zupr, zrow_same, zrow_zrow, Nat.zero_add]
  have q2 : hr (addN (μ (x + 3)) a 1) := hr_addN k2 (by omega)
  have e1 : addN (μ (x + 3)) a 1 b = μ (x + 3) b := addN_ne (by omega)
  rw [e1, zw_id (x := μ (x + 3) b - 1) (by omega) (by omega)]
  have u2 := s_add (z := z) (d := e) (o := o) (b := 0) (l := b) (n := 1) (μ := zrow (zrow μ (o + 3) (rup (μ (o + 3)) a (μ (o + 3) a - 1))) (x + 3) (rup (addN (μ (x + 3)) a 1) b (μ (x + 3) b - 1))) he ho hb (by omega) (by rw [zrow_ne (Ne.symm hox), zrow_same]; exact q1) (by omega) (by omega)
  rw [zrow_ne (Ne.symm hox), zrow_same, show ((0 : Nat) : Int) = 0 from rfl, Nat.zero_add] at u2
  rw [u2]
  simp -implicitDefEqProofs only [ob]
  rw [e_W_exchanged_95]
  refine ⟨_, rfl, fun c q3 q4 => by rw [zrow_ne q3, zrow_ne q4, zrow_ne q3], ⟨by rw [zrow_same]; exact hr_addN q1 (by omega), by rw [zrow_ne hox, zrow_same]; exact hr_rup q2 (by omega) (by omega)⟩, fun y => ?_, fun y => ?_⟩
  · rw [zrow_same]
    by_cases c1 : y = a
    · subst c1
      rw [if_pos rfl, addN_ne (by omega), rup_same]
    · rw [if_neg c1]
      by_cases c2 : y = b
      · subst c2
        rw [if_pos rfl, addN_at, rup_ne (by omega)]
      · rw [if_neg c2, addN_ne c2, rup_ne c1]
  · rw [zrow_ne hox, zrow_same]
    by_cases c1 : y = b
    · subst c1
      rw [if_pos rfl, rup_same]
    · rw [if_neg c1, rup_ne c1]
      by_cases c2 : y = a
      · subst c2
        rw [if_pos rfl, addN_at]
      · rw [if_neg c2, addN_ne c2]
theorem exchanged_both {z : zZ} {d d' wl : Nat} {s a b : Int} {μ ρ : Mu} {N F : Nat → Nat} {L : Nat → Nat → Nat} (hd : 4 ≤ d) (hd' : 4 ≤ d') (hB : BT μ ρ N F L wl) (hT : TI μ ρ) : GO z d d' 126 273 [(0, s), (0, a), (0, b)] [(0, s), (0, a), (0, b)] μ ρ (fun M P => BT M P N F L wl ∧ TI M P) := by
  obtain ⟨e, rfl, he⟩ := pred_of (k := 3) hd
  obtain ⟨e', rfl, he'⟩ := pred_of (k := 3) hd'
  have hno : f_W_exchanged_31 z e μ = some (0, μ) := by rw [e_W_exchanged_31]
  have hno' : f_M_exchanged_31 z e' ρ = some (0, ρ) := by rw [e_M_exchanged_31]
  unfold GO
  rw [c_W_exchanged, c_M_exchanged, s_isSide (by omega), t_isSide (by omega)]
  simp -implicitDefEqProofs only [ob]
  rw [cB, cB]
  by_cases h0 : s = 0 ∨ s = 1
  · rw [decide_eq_true h0, cond_true, cond_true, s_isLetter (by omega), t_isLetter (by omega)]
    simp -implicitDefEqProofs only [ob]
    rw [cB, cB]
    by_cases h1 : 0 ≤ a ∧ a < 12
    · rw [decide_eq_true h1, cond_true, cond_true, s_isLetter (by omega), t_isLetter (by omega)]
      simp -implicitDefEqProofs only [ob]
      rw [cB, cB]
      by_cases h2 : 0 ≤ b ∧ b < 12
      · rw [decide_eq_true h2, cond_true, cond_true]
        obtain ⟨s, rfl, hs⟩ : ∃ t : Nat, s = (t : Int) ∧ t < 2 := ⟨s.toNat, by omega, by omega⟩
        obtain ⟨a, rfl, ha⟩ : ∃ t : Nat, a = (t : Int) ∧ t < 12 := ⟨a.toNat, by omega, by omega⟩
        obtain ⟨b, rfl, hb⟩ : ∃ t : Nat, b = (t : Int) ∧ t < 12 := ⟨b.toNat, by omega, by omega⟩
        have g3 := (hB.2.1 s hs).2.2.1
        have g3' := (hB.2.1 (1 - s) (by omega)).2.2.1
        have ga := g3 a ha
        have gb := g3' b hb
        rw [Nat.zero_add] at ga gb
        rw [s_canExchange (by omega) hs ha hb, t_areExchanged (by omega) hs ha hb, ga, gb]
        simp -implicitDefEqProofs only [ob]
        rw [nB, nB]
        by_cases h3 : a ≠ b ∧ 0 < μ (4 + 9 * s + 3) a ∧ 0 < μ (4 + 9 * (1 - s) + 3) b
        · rw [decide_eq_true h3, cond_true, cond_true]
          obtain ⟨h4, h5, h6⟩ := h3
          have hhr : ∀ t, t < 2 → hr (μ (4 + 9 * t + 3)) := fun t ht => (hB.1 t ht).2.2.2.2.2.1
          obtain ⟨w1, w2, w3⟩ := hB.2.2.2.2.1
          obtain ⟨M, m1, m2, ⟨m3, m4⟩, m5, m6⟩ := s_exch33 (z := z) (e := e) (by omega) hs ha hb h4 hhr h5 h6
          have r1 := t_exchanges (z := z) (d := e') (by omega) hs ha hb h4 w1 (by rw [ga]; exact h5) (by rw [gb]; exact h6)
          rw [m1, e_M_exchanged_33, r1]
          simp -implicitDefEqProofs only [ob]
          have n1 : ∀ c, c ≠ 7 → c ≠ 16 → M c = μ c := fun c q1 q2 => m2 c (by omega) (by omega)
          have n2 : ∀ c, c ≠ 90 → c ≠ 91 → c ≠ 92 → zrow ρ 90 (xgR (ρ 90) s a b) c = ρ c := fun c q1 _ _ => zrow_ne q1
          have h18 : hr (xgR (ρ 90) s a b) := hr_xgR w1 (by rw [ga]; exact h5) (by rw [gb]; exact h6)
          have hsd : ∀ t, t < 2 → t = s ∨ t = 1 - s := fun t ht => by omega
          refine ⟨_, _, _, rfl, rfl, ⟨bt_held hB n1 n2 (fun t ht => ?_) ⟨by rw [zrow_same]; exact h18, by rw [zrow_ne (by omega)]; exact w2, by rw [zrow_ne (by omega)]; exact w3⟩ (fun t ht => ⟨fun k hk => ?_, fun k hk => ?_, fun k hk => ?_⟩), TI_held n1 n2 hT⟩, KF_held n1, KR_held n2⟩
          · rcases hsd t ht with h | h
            · rw [h]; exact m3
            · rw [h]; exact m4
          · rw [zrow_same, Nat.zero_add]
            rcases hsd t ht with h | h
            · rw [h, xg_own hs ha hb hk h4, m5, g3 k hk, Nat.zero_add]
            · rw [h, xg_oth hs ha hb hk h4, m6, g3' k hk, Nat.zero_add]
          · rw [zrow_ne (by omega)]
            have g4 := (hB.2.1 t ht).2.2.2.1 k hk
            rcases hsd t ht with h | h
            · rw [h] at g4 ⊢
              rw [m5, if_neg (by omega), if_neg (by omega)]; exact g4
            · rw [h] at g4 ⊢
              rw [m6, if_neg (by omega), if_neg (by omega)]; exact g4
          · rw [zrow_ne (by omega)]
            have g4 := (hB.2.1 t ht).2.2.2.2.1 k hk
            rcases hsd t ht with h | h
            · rw [h] at g4 ⊢
              rw [m5, if_neg (by omega), if_neg (by omega)]; exact g4
            · rw [h] at g4 ⊢
              rw [m6, if_neg (by omega), if_neg (by omega)]; exact g4
        · rw [decide_eq_false h3, cond_false, cond_false, hno, hno']
          exact ⟨_, _, _, rfl, rfl, ⟨hB, hT⟩, KF_refl μ, KR_refl ρ⟩
      · rw [decide_eq_false h2, cond_false, cond_false, hno, hno']
        exact ⟨_, _, _, rfl, rfl, ⟨hB, hT⟩, KF_refl μ, KR_refl ρ⟩
    · rw [decide_eq_false h1, cond_false, cond_false, hno, hno']
      exact ⟨_, _, _, rfl, rfl, ⟨hB, hT⟩, KF_refl μ, KR_refl ρ⟩
  · rw [decide_eq_false h0, cond_false, cond_false, hno, hno']
    exact ⟨_, _, _, rfl, rfl, ⟨hB, hT⟩, KF_refl μ, KR_refl ρ⟩
