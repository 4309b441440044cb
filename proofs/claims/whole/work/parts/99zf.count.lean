/-! counting, in both -/
set_option maxRecDepth 100000 in
theorem zand2 : ∀ n : Nat, n < 100 → z_and (n : Int) 1 = ((n % 2 : Nat) : Int) ∧ z_and (n : Int) (-2) = ((n - n % 2 : Nat) : Int) := by decide +kernel
theorem t_cnt122 {z : zZ} {d : Nat} {v : Int} {ρ : Mu} (h : v < 0 ∨ (6 ≤ v ∧ v ≤ 9) ∨ 14 ≤ v) : mC z (d + 1) 308 [(2, 86), (0, v)] ρ = f_M_count_122 z d v ρ := by
  rw [c_M_count, cF (show ¬ v = 0 by omega), cF (show ¬ v = 1 by omega), cF (show ¬ v = 2 by omega), cF (show ¬ v = 3 by omega), cF (show ¬ v = 4 by omega), cF (show ¬ v = 5 by omega)]
  by_cases h6 : v = 6
  · rw [cT h6]
  · rw [cF h6]
    by_cases h7 : v = 7
    · rw [cT h7]
    · rw [cF h7]
      by_cases h8 : v = 8
      · rw [cT h8]
      · rw [cF h8]
        by_cases h9 : v = 9
        · rw [cT h9]
        · rw [cF h9, cF (show ¬ v = 10 by omega), cF (show ¬ v = 11 by omega), cF (show ¬ v = 12 by omega), cF (show ¬ v = 13 by omega)]
theorem t_cnt194 {z : zZ} {e : Nat} {v : Int} {ρ : Mu} (he : 1 ≤ e) (h : ¬ (14 ≤ v ∧ v ≤ 19)) : f_M_count_122 z e v ρ = f_M_count_194 z e v ρ := by
  rw [e_M_count_122, t_in he]
  simp -implicitDefEqProofs only [ob]
  rw [cB, decide_eq_false (show ¬ ((14 : Int) ≤ v ∧ v ≤ 15) by omega), cond_false, t_in he]
  simp -implicitDefEqProofs only [ob]
  rw [cB, decide_eq_false (show ¬ ((16 : Int) ≤ v ∧ v ≤ 17) by omega), cond_false, t_in he]
  simp -implicitDefEqProofs only [ob]
  rw [cB, decide_eq_false (show ¬ ((18 : Int) ≤ v ∧ v ≤ 19) by omega), cond_false]
theorem t_cnt263 {z : zZ} {e : Nat} {v : Int} {ρ : Mu} (he : 1 ≤ e) (h1 : ¬ (100 ≤ v ∧ v ≤ 123)) (h2 : ¬ (130 ≤ v ∧ v ≤ 153)) (h3 : ¬ (160 ≤ v ∧ v ≤ 183)) : f_M_count_194 z e v ρ = f_M_count_263 z e v ρ := by
  rw [e_M_count_194, t_in he]
  simp -implicitDefEqProofs only [ob]
  rw [cB, decide_eq_false h1, cond_false, t_in he]
  simp -implicitDefEqProofs only [ob]
  rw [cB, decide_eq_false h2, cond_false, t_in he]
  simp -implicitDefEqProofs only [ob]
  rw [cB, decide_eq_false h3, cond_false]
theorem t_cntno {z : zZ} {e : Nat} {v : Int} {ρ : Mu} (he : 1 ≤ e) (h0 : v < 0 ∨ (6 ≤ v ∧ v ≤ 9) ∨ 20 ≤ v) (h1 : ¬ (100 ≤ v ∧ v ≤ 123)) (h2 : ¬ (130 ≤ v ∧ v ≤ 153)) (h3 : ¬ (160 ≤ v ∧ v ≤ 183)) (h4 : ¬ (190 ≤ v ∧ v ≤ 213)) (h5 : ¬ (220 ≤ v ∧ v ≤ 231)) : mC z (e + 1) 308 [(2, 86), (0, v)] ρ = some (-1, ρ) := by
  rw [t_cnt122 (by omega), t_cnt194 he (by omega), t_cnt263 he h1 h2 h3, e_M_count_263, t_in he]
  simp -implicitDefEqProofs only [ob]
  rw [cB, decide_eq_false h4, cond_false, t_in he]
  simp -implicitDefEqProofs only [ob]
  rw [cB, decide_eq_false h5, cond_false, e_M_count_314]
theorem s_cnt65 {z : zZ} {e : Nat} {v : Int} {μ : Mu} (h : ¬ (220 ≤ v ∧ v < 232)) (h2 : ¬ (190 ≤ v ∧ v < 214)) : mC z (e + 1) 176 [(2, 0), (0, v)] μ = f_W_count_65 z e v μ := by
  have h3 : f_W_count_25 z e v μ = f_W_count_65 z e v μ := by
    rw [e_W_count_25]
    by_cases q : v < 190
    · rw [cT q]
    · rw [cF q, cT (by omega)]
  rw [c_W_count]
  by_cases q : v < 220
  · rw [cT q, h3]
  · rw [cF q, cT (by omega), h3]
theorem s_held {z : zZ} {d b : Nat} {i : Int} {μ : Mu} (hd : 1 ≤ d) (hb : b ≤ 24) (hi : 0 ≤ i ∧ i < 24) : mC z d 177 [(2, 0), (0, (b : Int)), (0, i)] μ = some (μ (4 + 9 * (i.toNat / 12) + 3) (b + i.toNat % 12), μ) := by
  obtain ⟨e, rfl, he⟩ := pred_of hd
  obtain ⟨k, rfl, hk⟩ : ∃ k : Nat, i = (k : Int) ∧ k < 24 := ⟨i.toNat, by omega, by omega⟩
  have hz := zd12 k (by omega)
  have h01 : ((k / 12 : Nat) : Int) = 0 ∨ ((k / 12 : Nat) : Int) = 1 := by omega
  have e2 : zw ((b : Int) + ((k % 12 : Nat) : Int)) = ((b + k % 12 : Nat) : Int) := zwa (by omega)
  rw [c_W_countHeld, cF (by omega), cT (by omega), hz.1, e_W_countHeld_20 _ _ _ _ _ _ h01, hz.2, e2, gI_ok (by omega) (by omega), Int.toNat_natCast, Int.toNat_natCast, Int.toNat_natCast]
theorem s_held_no {z : zZ} {d : Nat} {b i : Int} {μ : Mu} (hd : 1 ≤ d) (hi : ¬ (0 ≤ i ∧ i < 24)) : mC z d 177 [(2, 0), (0, b), (0, i)] μ = some (-1, μ) := by
  obtain ⟨e, rfl, he⟩ := pred_of hd
  rw [c_W_countHeld]
  by_cases h : i < 0
  · rw [cT h, e_W_countHeld_10]
  · rw [cF h, cF (by omega), e_W_countHeld_10]
/-- what a side has: the class -/
theorem s_side {z : zZ} {d n : Nat} {μ : Mu} (hd : 1 ≤ d) (hn : n < 100) : mC z (d + 1) 178 [(2, 0), (0, (n : Int))] μ = if n - n % 2 = 10 then some (μ (4 + 9 * (n % 2)) 6, μ) else if n - n % 2 = 12 then some (μ (4 + 9 * (n % 2)) 7, μ) else if n - n % 2 = 14 then (mC z d 165 [(2, ((4 + 9 * (n % 2) : Nat) : Int)), (0, 0)] μ).bind fun q1 => (some (q1.1, q1.2)) else if n - n % 2 = 16 then (mC z d 165 [(2, ((4 + 9 * (n % 2) : Nat) : Int)), (0, 12)] μ).bind fun q1 => (some (q1.1, q1.2)) else if n - n % 2 = 18 then (mC z d 165 [(2, ((4 + 9 * (n % 2) : Nat) : Int)), (0, 24)] μ).bind fun q1 => (some (q1.1, q1.2)) else some (-1, μ) := by
  have h01 : ((n % 2 : Nat) : Int) = 0 ∨ ((n % 2 : Nat) : Int) = 1 := by omega
  have ho := o9 (show n % 2 < 2 by omega)
  obtain ⟨z1, z2⟩ := zand2 n hn
  rw [c_W_countOfSide, z1, e_W_countOfSide_7 _ _ _ _ _ h01, z2, Int.toNat_natCast]
  have ev : (n - n % 2) % 2 = 0 := by omega
  generalize n - n % 2 = m at ev ⊢
  by_cases h1 : m = 10
  · rw [cT (by omega), if_pos h1, e_W_countOfSide_64 _ _ _ _ ho]
  · rw [cF (by omega), if_neg h1, cF (by omega)]
    by_cases h2 : m = 12
    · rw [cT (by omega), if_pos h2, e_W_countOfSide_69 _ _ _ _ ho]
    · rw [cF (by omega), if_neg h2, cF (by omega)]
      by_cases h3 : m = 14
      · rw [cT (by omega), if_pos h3, e_W_countOfSide_74 _ _ _ _ ho]
      · rw [cF (by omega), if_neg h3, cF (by omega)]
        by_cases h4 : m = 16
        · rw [cT (by omega), if_pos h4, e_W_countOfSide_80 _ _ _ _ ho]
        · rw [cF (by omega), if_neg h4, cF (by omega)]
          by_cases h5 : m = 18
          · rw [cT (by omega), if_pos h5, e_W_countOfSide_87 _ _ _ _ ho]
          · rw [cF (by omega), if_neg h5, e_W_countOfSide_94]
theorem count_both {z : zZ} {d d' wl : Nat} {v : Int} {μ ρ : Mu} {N F : Nat → Nat} {L : Nat → Nat → Nat} (hd : 3 ≤ d) (hd' : 3 ≤ d') (hB : BT μ ρ N F L wl) (hT : TI μ ρ) (hv : rg v) (hf : μ 58 0 = ρ 86 67) (hsd : cnt (fun i => decide (0 < μ 67 (4 * i + 3))) 24 = cnt (fun i => decide (ρ 132 i ≠ -1)) 24) : QU z d d' 176 308 [(2, 0), (0, v)] [(2, 86), (0, v)] μ ρ := by
  obtain ⟨e, rfl, he⟩ := pred_of (k := 2) hd
  obtain ⟨e', rfl, he'⟩ := pred_of (k := 2) hd'
  obtain ⟨hC, hR, ⟨c1, c2, c3, c4⟩, ⟨c5, c6⟩, ⟨w1, w2, w3⟩, hw, c8, Nn, lt, Dv, Dc, l1, l2, l3⟩ := id hB
  obtain ⟨sz, t1, t2, t3, t4⟩ := hT
  have fin : ∀ r : Int, mC z (e + 1) 176 [(2, 0), (0, v)] μ = some (r, μ) → mC z (e' + 1) 308 [(2, 86), (0, v)] ρ = some (r, ρ) → QU z (e + 1) (e' + 1) 176 308 [(2, 0), (0, v)] [(2, 86), (0, v)] μ ρ := fun r h1 h2 => ⟨r, μ, ρ, h1, h2, QC_refl μ, QR_refl ρ⟩
  by_cases k0 : v < 10
  · have k65 := s_cnt65 (z := z) (e := e) (v := v) (μ := μ) (by omega) (by omega)
    rw [e_W_count_65, cT (by omega), cT (by omega), cT (by omega), cT k0] at k65
    by_cases k1 : 0 ≤ v ∧ v ≤ 5
    · have k2 : v = 0 ∨ v = 1 ∨ v = 2 ∨ v = 3 ∨ v = 4 ∨ v = 5 := by omega
      rcases k2 with h | h | h | h | h | h
      · refine fin (μ 0 18) ?_ ?_
        · rw [k65, cT h, e_W_count_172]
        · rw [c_M_count, cT h, e_M_count_72, c1]
      · refine fin ((Nn : Nat) : Int) ?_ ?_
        · rw [k65, cF (by omega), cT h, e_W_count_177 _ _ _ wl hw c8, l1.1]
        · rw [c_M_count, cF (by omega), cT h, e_M_count_77, l2.1]
      · refine fin (sz : Int) ?_ ?_
        · rw [k65, cF (by omega), cF (by omega), cT h, e_W_count_185, t2]
        · rw [c_M_count, cF (by omega), cF (by omega), cT h, e_M_count_82, t3]
      · refine fin (μ 0 19) ?_ ?_
        · rw [k65, cF (by omega), cF (by omega), cF (by omega), cT h, e_W_count_193]
        · rw [c_M_count, cF (by omega), cF (by omega), cF (by omega), cT h, e_M_count_87, c2]
      · refine fin (μ 58 0) ?_ ?_
        · rw [k65, cF (by omega), cF (by omega), cF (by omega), cF (by omega), cT h, e_W_count_198]
        · rw [c_M_count, cF (by omega), cF (by omega), cF (by omega), cF (by omega), cT h, e_M_count_92, hf]
      · refine fin ((cnt (fun i => decide (0 < μ 67 (4 * i + 3))) 24 : Nat) : Int) ?_ ?_
        · rw [k65, cF (by omega), cF (by omega), cF (by omega), cF (by omega), cF (by omega), cT h, e_W_count_206, s_enlisted (by omega)]
          simp -implicitDefEqProofs only [ob]
        · rw [c_M_count, cF (by omega), cF (by omega), cF (by omega), cF (by omega), cF (by omega), cT h, e_M_count_97, t_soldierMany (by omega), hsd]
          simp -implicitDefEqProofs only [ob]
    · refine fin (-1) ?_ (t_cntno (by omega) (by omega) (by omega) (by omega) (by omega) (by omega) (by omega))
      rw [k65, cF (by omega), cF (by omega), cF (by omega), cF (by omega), cF (by omega), cF (by omega), e_W_count_214]
  · by_cases k1 : v < 100
    · obtain ⟨n, rfl, hn⟩ : ∃ n : Nat, v = (n : Int) ∧ n < 100 := ⟨v.toNat, by omega, by omega⟩
      have k65 := s_cnt65 (z := z) (e := e) (v := (n : Int)) (μ := μ) (by omega) (by omega)
      obtain ⟨e2, rfl, he2⟩ := pred_of (k := 1) he
      rw [e_W_count_65, cT (by omega), cT (by omega), cT (by omega), cF k0, s_side (by omega) hn] at k65
      have hs : n % 2 < 2 := by omega
      obtain ⟨a1, a2, a3, a4, a5, a6, a7⟩ := hC (n % 2) hs
      obtain ⟨b1, b2, b3, b4, b5, b6⟩ := hR (n % 2) hs
      by_cases k2 : n < 14
      · by_cases k3 : n < 12
        · refine fin ((N (n % 2) : Nat) : Int) ?_ ?_
          · rw [k65, if_pos (by omega), a1]
            simp -implicitDefEqProofs only [ob]
          · have := b2.1
            have k4 : n = 10 ∨ n = 11 := by omega
            rw [c_M_count, cF (by omega), cF (by omega), cF (by omega), cF (by omega), cF (by omega), cF (by omega), cF (by omega), cF (by omega), cF (by omega), cF (by omega)]
            rcases k4 with h | h
            · subst h
              rw [cT (by omega), e_M_count_102]
              rw [show (10 % 2 : Nat) = 0 from rfl, show (14 + 0 : Nat) = 14 from rfl] at this
              rw [this]
            · subst h
              rw [cF (by omega), cT (by omega), e_M_count_107]
              rw [show (11 % 2 : Nat) = 1 from rfl, show (14 + 1 : Nat) = 15 from rfl] at this
              rw [this]
        · refine fin ((F (n % 2) : Nat) : Int) ?_ ?_
          · rw [k65, if_neg (by omega), if_pos (by omega), a3]
            simp -implicitDefEqProofs only [ob]
          · have k4 : n = 12 ∨ n = 13 := by omega
            rw [c_M_count, cF (by omega), cF (by omega), cF (by omega), cF (by omega), cF (by omega), cF (by omega), cF (by omega), cF (by omega), cF (by omega), cF (by omega), cF (by omega), cF (by omega)]
            rcases k4 with h | h
            · subst h
              rw [cT (by omega), e_M_count_112]
              rw [show (12 % 2 : Nat) = 0 from rfl, show (16 + 0 : Nat) = 16 from rfl] at b1
              rw [b1]
            · subst h
              rw [cF (by omega), cT (by omega), e_M_count_117]
              rw [show (13 % 2 : Nat) = 1 from rfl, show (16 + 1 : Nat) = 17 from rfl] at b1
              rw [b1]
      · by_cases k3 : n < 20
        · have tin := fun (a b : Int) => t_in (z := z) (d := e') (l := (n : Int)) (a := a) (b := b) (μ := ρ) (by omega)
          by_cases k4 : n < 16
          · have hsn : zw ((n : Int) - 14) = ((n % 2 : Nat) : Int) := by rw [zw_id (by omega) (by omega)]; omega
            have st := s_total (z := z) (d := e2) (o := 4 + 9 * (n % 2)) (b := 0) (μ := μ) (by omega) (o9 hs) (by omega) a6
            have tt := t_sumOf (z := z) (d := e') (s := n % 2) (a := 90) (μ := ρ) (by omega) hs ia90 w1
            rw [show ((0 : Nat) : Int) = 0 from rfl] at st
            rw [show ((90 : Nat) : Int) = 90 from rfl] at tt
            refine fin (sm (fun k => μ (4 + 9 * (n % 2) + 3) (0 + k)) 12) ?_ ?_
            · rw [k65, if_neg (by omega), if_neg (by omega), if_pos (by omega), st]
              simp -implicitDefEqProofs only [ob]
            · rw [t_cnt122 (by omega), e_M_count_122, tin]
              simp -implicitDefEqProofs only [ob]
              rw [cB, decide_eq_true (show (14 : Int) ≤ (n : Int) ∧ (n : Int) ≤ 15 by omega), cond_true, hsn, tt, sm_congr (fun k hk => b3 k hk)]
              simp -implicitDefEqProofs only [ob]
          · by_cases k5 : n < 18
            · have hsn : zw ((n : Int) - 16) = ((n % 2 : Nat) : Int) := by rw [zw_id (by omega) (by omega)]; omega
              have st := s_total (z := z) (d := e2) (o := 4 + 9 * (n % 2)) (b := 12) (μ := μ) (by omega) (o9 hs) (by omega) a6
              have tt := t_sumOf (z := z) (d := e') (s := n % 2) (a := 91) (μ := ρ) (by omega) hs ia91 w2
              rw [show ((12 : Nat) : Int) = 12 from rfl] at st
              rw [show ((91 : Nat) : Int) = 91 from rfl] at tt
              refine fin (sm (fun k => μ (4 + 9 * (n % 2) + 3) (12 + k)) 12) ?_ ?_
              · rw [k65, if_neg (by omega), if_neg (by omega), if_neg (by omega), if_pos (by omega), st]
                simp -implicitDefEqProofs only [ob]
              · rw [t_cnt122 (by omega), e_M_count_122, tin]
                simp -implicitDefEqProofs only [ob]
                rw [cB, decide_eq_false (show ¬ ((14 : Int) ≤ (n : Int) ∧ (n : Int) ≤ 15) by omega), cond_false, tin]
                simp -implicitDefEqProofs only [ob]
                rw [cB, decide_eq_true (show (16 : Int) ≤ (n : Int) ∧ (n : Int) ≤ 17 by omega), cond_true, hsn, tt, sm_congr (fun k hk => b4 k hk)]
                simp -implicitDefEqProofs only [ob]
            · have hsn : zw ((n : Int) - 18) = ((n % 2 : Nat) : Int) := by rw [zw_id (by omega) (by omega)]; omega
              have st := s_total (z := z) (d := e2) (o := 4 + 9 * (n % 2)) (b := 24) (μ := μ) (by omega) (o9 hs) (by omega) a6
              have tt := t_sumOf (z := z) (d := e') (s := n % 2) (a := 92) (μ := ρ) (by omega) hs ia92 w3
              rw [show ((24 : Nat) : Int) = 24 from rfl] at st
              rw [show ((92 : Nat) : Int) = 92 from rfl] at tt
              refine fin (sm (fun k => μ (4 + 9 * (n % 2) + 3) (24 + k)) 12) ?_ ?_
              · rw [k65, if_neg (by omega), if_neg (by omega), if_neg (by omega), if_neg (by omega), if_pos (by omega), st]
                simp -implicitDefEqProofs only [ob]
              · rw [t_cnt122 (by omega), e_M_count_122, tin]
                simp -implicitDefEqProofs only [ob]
                rw [cB, decide_eq_false (show ¬ ((14 : Int) ≤ (n : Int) ∧ (n : Int) ≤ 15) by omega), cond_false, tin]
                simp -implicitDefEqProofs only [ob]
                rw [cB, decide_eq_false (show ¬ ((16 : Int) ≤ (n : Int) ∧ (n : Int) ≤ 17) by omega), cond_false, tin]
                simp -implicitDefEqProofs only [ob]
                rw [cB, decide_eq_true (show (18 : Int) ≤ (n : Int) ∧ (n : Int) ≤ 19 by omega), cond_true, hsn, tt, sm_congr (fun k hk => b5 k hk)]
                simp -implicitDefEqProofs only [ob]
        · refine fin (-1) ?_ (t_cntno (by omega) (by omega) (by omega) (by omega) (by omega) (by omega) (by omega))
          rw [k65, if_neg (by omega), if_neg (by omega), if_neg (by omega), if_neg (by omega), if_neg (by omega)]
          simp -implicitDefEqProofs only [ob]
    · by_cases k2 : v < 190
      · have k65 := s_cnt65 (z := z) (e := e) (v := v) (μ := μ) (by omega) (by omega)
        rw [e_W_count_65] at k65
        have tin := fun (a b : Int) => t_in (z := z) (d := e') (l := v) (a := a) (b := b) (μ := ρ) (by omega)
        have cell : ∀ (i a : Nat) (b : Nat), i < 24 → (∀ s, s < 2 → pt (ρ a) (12 * s) (μ (4 + 9 * s + 3)) b) → ρ a i = μ (4 + 9 * (i / 12) + 3) (b + i % 12) := fun i a b hi hp => by
          have := hp (i / 12) (by omega) (i % 12) (by omega)
          rw [show 12 * (i / 12) + i % 12 = i by omega] at this
          exact this
        by_cases k3 : v < 130
        · rw [cT (by omega), cT (by omega), cF k1, zw_id (x := v - 100) (by omega) (by omega)] at k65
          by_cases k4 : v < 124
          · have u := s_held (z := z) (d := e) (b := 0) (i := v - 100) (μ := μ) (by omega) (by omega) (by omega)
            rw [show ((0 : Nat) : Int) = 0 from rfl] at u
            rw [u] at k65
            simp -implicitDefEqProofs only [ob] at k65
            refine fin _ k65 ?_
            rw [t_cnt122 (by omega), t_cnt194 (by omega) (by omega), e_M_count_194, tin]
            simp -implicitDefEqProofs only [ob]
            rw [cB, decide_eq_true (show (100 : Int) ≤ v ∧ v ≤ 123 by omega), cond_true, zw_id (x := v - 100) (by omega) (by omega), gI_ok (by omega) (by omega), cell (v - 100).toNat 90 0 (by omega) (fun s hs => (hR s hs).2.2.1)]
          · rw [s_held_no (by omega) (by omega)] at k65
            exact fin (-1) (by rw [k65]; simp -implicitDefEqProofs only [ob]) (t_cntno (by omega) (by omega) (by omega) (by omega) (by omega) (by omega) (by omega))
        · by_cases k3b : v < 160
          · rw [cT (by omega), cF k3, zw_id (x := v - 130) (by omega) (by omega)] at k65
            by_cases k4 : v < 154
            · have u := s_held (z := z) (d := e) (b := 12) (i := v - 130) (μ := μ) (by omega) (by omega) (by omega)
              rw [show ((12 : Nat) : Int) = 12 from rfl] at u
              rw [u] at k65
              simp -implicitDefEqProofs only [ob] at k65
              refine fin _ k65 ?_
              rw [t_cnt122 (by omega), t_cnt194 (by omega) (by omega), e_M_count_194, tin]
              simp -implicitDefEqProofs only [ob]
              rw [cB, decide_eq_false (show ¬ ((100 : Int) ≤ v ∧ v ≤ 123) by omega), cond_false, tin]
              simp -implicitDefEqProofs only [ob]
              rw [cB, decide_eq_true (show (130 : Int) ≤ v ∧ v ≤ 153 by omega), cond_true, zw_id (x := v - 130) (by omega) (by omega), gI_ok (by omega) (by omega), cell (v - 130).toNat 91 12 (by omega) (fun s hs => (hR s hs).2.2.2.1)]
            · rw [s_held_no (by omega) (by omega)] at k65
              exact fin (-1) (by rw [k65]; simp -implicitDefEqProofs only [ob]) (t_cntno (by omega) (by omega) (by omega) (by omega) (by omega) (by omega) (by omega))
          · rw [cF k3b, zw_id (x := v - 160) (by omega) (by omega)] at k65
            by_cases k4 : v < 184
            · have u := s_held (z := z) (d := e) (b := 24) (i := v - 160) (μ := μ) (by omega) (by omega) (by omega)
              rw [show ((24 : Nat) : Int) = 24 from rfl] at u
              rw [u] at k65
              simp -implicitDefEqProofs only [ob] at k65
              refine fin _ k65 ?_
              rw [t_cnt122 (by omega), t_cnt194 (by omega) (by omega), e_M_count_194, tin]
              simp -implicitDefEqProofs only [ob]
              rw [cB, decide_eq_false (show ¬ ((100 : Int) ≤ v ∧ v ≤ 123) by omega), cond_false, tin]
              simp -implicitDefEqProofs only [ob]
              rw [cB, decide_eq_false (show ¬ ((130 : Int) ≤ v ∧ v ≤ 153) by omega), cond_false, tin]
              simp -implicitDefEqProofs only [ob]
              rw [cB, decide_eq_true (show (160 : Int) ≤ v ∧ v ≤ 183 by omega), cond_true, zw_id (x := v - 160) (by omega) (by omega), gI_ok (by omega) (by omega), cell (v - 160).toNat 92 24 (by omega) (fun s hs => (hR s hs).2.2.2.2.1)]
            · rw [s_held_no (by omega) (by omega)] at k65
              exact fin (-1) (by rw [k65]; simp -implicitDefEqProofs only [ob]) (t_cntno (by omega) (by omega) (by omega) (by omega) (by omega) (by omega) (by omega))
      · by_cases k3 : v < 214
        · obtain ⟨i, hi, rfl⟩ : ∃ i : Nat, i < 24 ∧ v = ((190 + i : Nat) : Int) := ⟨(v - 190).toNat, by omega, by omega⟩
          have ez : zw (((190 + i : Nat) : Int) - 190) = (i : Int) := by rw [zw_id (by omega) (by omega)]; omega
          have hz := zd12 i (by omega)
          have h01 : ((i / 12 : Nat) : Int) = 0 ∨ ((i / 12 : Nat) : Int) = 1 := by omega
          have hp := (hR (i / 12) (by omega)).2.2.2.2.2.1 (i % 12) (by omega)
          rw [show 12 * (i / 12) + i % 12 = i by omega, Nat.zero_add] at hp
          refine fin (ρ 88 i) ?_ ?_
          · rw [c_W_count, cT (by omega), e_W_count_25, cF k2, cF (by omega), ez, hz.1, e_W_count_51 _ _ _ _ _ h01, ez, hz.2, gI_ok (by omega) (by omega), Int.toNat_natCast, Int.toNat_natCast, hp]
          · rw [t_cnt122 (by omega), t_cnt194 (by omega) (by omega), t_cnt263 (by omega) (by omega) (by omega) (by omega), e_M_count_263, t_in (by omega)]
            simp -implicitDefEqProofs only [ob]
            rw [cB, decide_eq_true (show (190 : Int) ≤ ((190 + i : Nat) : Int) ∧ ((190 + i : Nat) : Int) ≤ 213 by omega), cond_true, ez, gI_ok (by omega) (by omega), Int.toNat_natCast]
        · by_cases k4 : 220 ≤ v ∧ v < 232
          · refine fin (μ 35 (v - 220).toNat) ?_ ?_
            · rw [c_W_count, cF (by omega), cF (by omega), zw_id (x := v - 220) (by omega) (by omega), gI_ok (by omega) (by omega)]
            · rw [t_cnt122 (by omega), t_cnt194 (by omega) (by omega), t_cnt263 (by omega) (by omega) (by omega) (by omega), e_M_count_263, t_in (by omega)]
              simp -implicitDefEqProofs only [ob]
              rw [cB, decide_eq_false (show ¬ ((190 : Int) ≤ v ∧ v ≤ 213) by omega), cond_false, t_in (by omega)]
              simp -implicitDefEqProofs only [ob]
              rw [cB, decide_eq_true (show (220 : Int) ≤ v ∧ v ≤ 231 by omega), cond_true, zw_id (x := v - 220) (by omega) (by omega), gI_ok (by omega) (by omega), e_M_count_314, c6 _ (by omega)]
          · have k65 := s_cnt65 (z := z) (e := e) (v := v) (μ := μ) (by omega) (by omega)
            refine fin (-1) ?_ (t_cntno (by omega) (by omega) (by omega) (by omega) (by omega) (by omega) (by omega))
            have hv2 := hv.2
            rw [k65, e_W_count_65, cF (by omega), zw_id (x := v - 160) (by omega) (by omega), s_held_no (by omega) (by omega)]
            simp -implicitDefEqProofs only [ob]
