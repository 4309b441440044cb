/-! the class reads one act -/
def actPost (μ M : Mu) (b : Row) (n p i : Nat) : Prop := M 1 4 = actF b n p ∧ (actF b n p = 0 → M 1 2 = ((actE b n p : Nat) : Int) ∧ M 37 = rup (μ 37) i (aK b n p) ∧ M 38 = rup (μ 38) i (actA b n p) ∧ M 39 = rup (μ 39) i (actO b n p)) ∧ M 36 = rup (μ 36) 3 ((i + 1 : Nat) : Int) ∧ (∀ a, a ≠ 1 → a ≠ 36 → a ≠ 37 → a ≠ 38 → a ≠ 39 → M a = μ a) ∧ M 1 1 = μ 1 1 ∧ M 1 3 = μ 1 3 ∧ ∃ q : Nat, q ≤ 240 ∧ M 1 2 = (q : Int)
theorem s_act165 {z : zZ} {e i : Nat} {M : Mu} (hi : i < 12) (h : M 36 3 = (i : Int)) : f_Acts_readAct_165 z e M = some (0, zup M 36 3 ((i + 1 : Nat) : Int)) := by
  rw [e_Acts_readAct_165, h, zwc (by omega)]
theorem s_act118_n {z : zZ} {e i : Nat} {K : Int} {M : Mu} (hi : i < 12) (h : M 36 3 = (i : Int)) (hK : K ≠ 63 ∨ M 1 4 ≠ 0) : f_Acts_readAct_118 z e K M = some (0, zup M 36 3 ((i + 1 : Nat) : Int)) := by
  rw [e_Acts_readAct_118]
  by_cases h1 : K = 63
  · rw [nT h1, nF (by rcases hK with h2 | h2; exact absurd h1 h2; exact h2), s_act165 hi h]
  · rw [nF h1, s_act165 hi h]
theorem s_readAct {z : zZ} {d p n i : Nat} {μ : Mu} (hd : 6 ≤ d) (h2 : μ 1 2 = (p : Int)) (h3 : μ 1 3 = (n : Int)) (h4 : μ 1 4 = 0) (hn : n ≤ 220) (hp : p ≤ n) (hb : byt (μ 2)) (hi : i < 12) (h36 : μ 36 3 = (i : Int)) (hcb : canB (μ 2) n p = true) : ∃ M, mC z d 67 [(2, 36), (2, 1)] μ = some (0, M) ∧ actPost μ M (μ 2) n p i := by
  obtain ⟨e, rfl, he⟩ := pred_of hd
  rw [c_Acts_readAct, nT h4, s_canBegin (by omega) h2 h3 hn hb, hcb]
  simp -implicitDefEqProofs only [ob, cB, cond_true]
  rw [cT (by rw [h36]; omega), s_atLetter (by omega) h2 h3 hn hb]
  simp -implicitDefEqProofs only [ob, cB]
  have hpn : aP (μ 2) n p ≤ n := by
    unfold aP
    split
    · exact hp
    · rename_i hl
      apply Nat.lt_of_not_le
      intro hc
      have : p = n := by omega
      unfold canB at hcb
      rw [tx_out (by omega)] at hcb
      simp at hcb
      exact hl hcb
  have hgo : ∀ M0 : Mu, tfr μ M0 → M0 1 2 = ((aP (μ 2) n p : Nat) : Int) → M0 1 4 = 0 → ∃ M, f_Acts_readAct_49 z e (aK (μ 2) n p) M0 = some (0, M) ∧ actPost μ M (μ 2) n p i := by
    intro M0 t0 t2 t4
    have t36 : M0 36 3 = (i : Int) := by rw [t0.1 36 (by omega)]; exact h36
    have t3 : M0 1 3 = (n : Int) := by rw [t0.2.2.1]; exact h3
    have tb : M0 2 = μ 2 := t0.1 2 (by omega)
    generalize hK : aK (μ 2) n p = K
    rw [e_Acts_readAct_49, t36, gI_ok (by omega) (by omega), Int.toNat_natCast]
    generalize hA0 : zup M0 37 i K = A0
    have a1 : A0 1 = M0 1 := by rw [← hA0, zup_ro (by omega)]
    have ab : A0 2 = μ 2 := by rw [← hA0, zup_ro (by omega), tb]
    obtain ⟨r, M1, w1, w2, w3, w4, w5⟩ := s_word (z := z) (d := e) (p := aP (μ 2) n p) (n := n) (μ := A0) (by omega) (by rw [a1]; exact t2) (by rw [a1]; exact t3) (by rw [a1]; exact t4) hn hpn (by rw [ab]; exact hb)
    rw [ab] at w2 w4
    rw [w1]
    simp -implicitDefEqProofs only [ob]
    have m36 : M1 36 3 = (i : Int) := by rw [w3.1 36 (by omega), ← hA0, zup_ro (by omega)]; exact t36
    simp -implicitDefEqProofs only [m36, Int.toNat_natCast]
    rw [gI_ok (by omega) (by omega), gI_ok (by omega) (by omega)]
    generalize hM2 : zup (zup M1 38 i r) 39 i 0 = M2
    have b1 : M2 1 = M1 1 := by rw [← hM2, zup_ro (by omega), zup_ro (by omega)]
    have bb : M2 2 = μ 2 := by rw [← hM2, zup_ro (by omega), zup_ro (by omega), w3.1 2 (by omega), ab]
    have b36 : M2 36 = μ 36 := by rw [← hM2, zup_ro (by omega), zup_ro (by omega), w3.1 36 (by omega), ← hA0, zup_ro (by omega), t0.1 36 (by omega)]
    have b37 : M2 37 = rup (μ 37) i K := by rw [← hM2, zup_ro (by omega), zup_ro (by omega), w3.1 37 (by omega), ← hA0, zupr, zrow_same, t0.1 37 (by omega)]
    have b38 : M2 38 = rup (μ 38) i r := by rw [← hM2, zup_ro (by omega), zupr, zrow_same, w3.1 38 (by omega), ← hA0, zup_ro (by omega), t0.1 38 (by omega)]
    have b39 : M2 39 = rup (μ 39) i 0 := by rw [← hM2, zupr, zrow_same, zup_ro (by omega), w3.1 39 (by omega), ← hA0, zup_ro (by omega), t0.1 39 (by omega)]
    have bf : ∀ a, a ≠ 1 → a ≠ 37 → a ≠ 38 → a ≠ 39 → M2 a = μ a := fun a q1 q2 q3 q4 => by rw [← hM2, zup_ro q4, zup_ro q3, w3.1 a q1, ← hA0, zup_ro q2, t0.1 a q1]
    have b11 : M2 1 1 = μ 1 1 := by rw [b1, w3.2.1, a1, t0.2.1]
    have b13 : M2 1 3 = (n : Int) := by rw [b1, w3.2.2.1, a1]; exact t3
    have b14 : M2 1 4 = wF (μ 2) n (aP (μ 2) n p) := by rw [b1]; exact w2
    have b12 : ∃ q : Nat, q ≤ 240 ∧ M2 1 2 = (q : Int) := by rw [b1]; exact w3.2.2.2
    have hM14 : M1 1 4 = M2 1 4 := by rw [b1]
    simp -implicitDefEqProofs only [hM14]
    by_cases c0 : wF (μ 2) n (aP (μ 2) n p) = 0
    · obtain ⟨w6, w7⟩ := w4 c0
      have hwl := wF_0 c0
      have b2' : M2 1 2 = ((aQ (μ 2) n p : Nat) : Int) := by rw [b1]; exact w7
      have hqn : aQ (μ 2) n p ≤ n := wln_n hpn
      have b4' : M2 1 4 = 0 := by rw [b14]; exact c0
      by_cases cK : K = 62
      · subst cK
        rw [nT rfl, nT b4', s_pass (by omega) b2' b13 b4' hn (by omega), bb]
        have hF : actF (μ 2) n p = (if tx (μ 2) n (aQ (μ 2) n p) ≠ 62 then -1000 - ((aQ (μ 2) n p : Nat) : Int) else wF (μ 2) n (aQ (μ 2) n p + 1)) := by
          unfold actF
          rw [if_neg (by intro h; exact h c0), if_pos hK]
        by_cases c62 : tx (μ 2) n (aQ (μ 2) n p) = 62
        · rw [if_pos c62]
          rw [if_neg (by intro h; exact h c62)] at hF
          simp -implicitDefEqProofs only [ob]
          rw [cF (by omega)]
          have hq1 : aQ (μ 2) n p + 1 ≤ n := by
            apply Nat.lt_of_not_le
            intro hc
            rw [tx_out hc] at c62
            omega
          have y1 : ∀ v : Int, zup M2 1 2 v 1 4 = 0 := fun v => by rw [zup_nk (by omega)]; exact b4'
          have yb : ∀ v : Int, zup M2 1 2 v 2 = μ 2 := fun v => by rw [zup_ro (by omega)]; exact bb
          obtain ⟨r', M4, v1, v2, v3, v4, v5⟩ := s_word (z := z) (d := e) (p := aQ (μ 2) n p + 1) (n := n) (μ := zup M2 1 2 ((aQ (μ 2) n p + 1 : Nat) : Int)) (by omega) zup_hit (by rw [zup_nk (by omega)]; exact b13) (y1 _) hn hq1 (by rw [yb]; exact hb)
          rw [yb] at v2 v4
          rw [v1]
          simp -implicitDefEqProofs only [ob]
          have z36 : zup M2 1 2 ((aQ (μ 2) n p + 1 : Nat) : Int) 36 3 = (i : Int) := by rw [zup_ro (by omega), b36]; exact h36
          rw [z36, gI_ok (by omega) (by omega), Int.toNat_natCast]
          have u36 : zup M4 39 i r' 36 3 = (i : Int) := by rw [zup_ro (by omega), v3.1 36 (by omega)]; exact z36
          rw [s_act118_n hi u36 (Or.inl (by omega))]
          have fr : ∀ a, a ≠ 1 → a ≠ 36 → a ≠ 39 → zup (zup M4 39 i r') 36 3 ((i + 1 : Nat) : Int) a = M2 a := fun a q1 q2 q3 => by rw [zup_ro q2, zup_ro q3, v3.1 a q1, zup_ro q1]
          have f1 : zup (zup M4 39 i r') 36 3 ((i + 1 : Nat) : Int) 1 = M4 1 := by rw [zup_ro (by omega), zup_ro (by omega)]
          refine ⟨_, rfl, ?_, fun h0 => ?_, ?_, fun a q1 q2 q3 q4 q5 => ?_, ?_, ?_, ?_⟩
          · rw [f1, v2, hF]
          · rw [hF] at h0
            obtain ⟨v6, v7⟩ := v4 h0
            refine ⟨?_, ?_, ?_, ?_⟩
            · rw [f1, v7]
              unfold actE
              rw [if_pos hK]
            · rw [fr 37 (by omega) (by omega) (by omega), b37, hK]
            · rw [fr 38 (by omega) (by omega) (by omega), b38, w6]
              rfl
            · rw [zup_ro (by omega), zupr, zrow_same, v3.1 39 (by omega), zup_ro (by omega), b39, rup_rup, v6]
              unfold actO
              rw [if_pos hK]
          · rw [zupr, zrow_same, zup_ro (by omega), v3.1 36 (by omega), zup_ro (by omega), b36]
          · rw [fr a q1 q2 q5, bf a q1 q3 q4 q5]
          · rw [f1, v3.2.1, zup_nk (by omega), b11]
          · rw [f1, v3.2.2.1, zup_nk (by omega), b13, h3]
          · rw [f1]; exact v3.2.2.2
        · rw [if_neg c62]
          rw [if_pos c62] at hF
          simp -implicitDefEqProofs only [ob]
          have y36 : zup M2 1 4 (-1000 - ((aQ (μ 2) n p : Nat) : Int)) 36 3 = (i : Int) := by rw [zup_ro (by omega), b36]; exact h36
          rw [cT trivial, s_act118_n hi y36 (Or.inl (by omega))]
          refine ⟨_, rfl, ?_, fun h0 => by rw [hF] at h0; omega, ?_, fun a q1 q2 q3 q4 q5 => ?_, ?_, ?_, ?_⟩
          · rw [zup_ro (by omega), zup_hit, hF]
          · rw [zupr, zrow_same, zup_ro (by omega), b36]
          · rw [zup_ro q2, zup_ro q1, bf a q1 q3 q4 q5]
          · rw [zup_ro (by omega), zup_nk (by omega), b11]
          · rw [zup_ro (by omega), zup_nk (by omega), b13, h3]
          · exact ⟨aQ (μ 2) n p, by omega, by rw [zup_ro (by omega), zup_nk (by omega)]; exact b2'⟩
      · rw [nF cK]
        have y36 : M2 36 3 = (i : Int) := by rw [b36]; exact h36
        by_cases c63 : K = 63
        · subst c63
          have hwW : isW r (wln (μ 2) n (aP (μ 2) n p)) := by
            rw [w6]
            exact isW_wcd hwl.2 (wln_b)
          have y38 : ∀ M : Mu, M 38 = M2 38 → M 38 i = r := fun M h => by rw [h, b38, rup_same]
          rw [e_Acts_readAct_118, nT rfl, nT b4', s_pass (by omega) b2' b13 b4' hn (by omega), bb]
          by_cases c46 : tx (μ 2) n (aQ (μ 2) n p) = 46
          · rw [if_pos c46]
            simp -implicitDefEqProofs only [ob]
            rw [cF (by omega)]
            have hF : actF (μ 2) n p = (if isg (μ 2) n (aQ (μ 2) n p + 1) = false then -1000 - ((aQ (μ 2) n p + 1 : Nat) : Int) else if ¬ (1 ≤ tx (μ 2) n (aQ (μ 2) n p + 1) - 48 ∧ tx (μ 2) n (aQ (μ 2) n p + 1) - 48 ≤ wln (μ 2) n (aP (μ 2) n p)) then -6000 - ((aQ (μ 2) n p + 1 : Nat) : Int) else if isl (μ 2) n (aQ (μ 2) n p + 2) = false then -1000 - ((aQ (μ 2) n p + 2 : Nat) : Int) else 0) := by
              unfold actF
              rw [if_neg (by intro h; exact h c0), if_neg (by rw [hK]; omega), if_pos hK, if_neg (by intro h; exact h c46)]
            have z36 : zup M2 1 2 ((aQ (μ 2) n p + 1 : Nat) : Int) 36 3 = (i : Int) := by rw [zup_ro (by omega)]; exact y36
            have z38 : zup M2 1 2 ((aQ (μ 2) n p + 1 : Nat) : Int) 38 i = r := y38 _ (zup_ro (by omega))
            have zb : zup M2 1 2 ((aQ (μ 2) n p + 1 : Nat) : Int) 2 = μ 2 := by rw [zup_ro (by omega)]; exact bb
            rw [z36, gI_ok (by omega) (by omega), Int.toNat_natCast, z38, s_sizeOf (by omega) hwW]
            simp -implicitDefEqProofs only [ob]
            obtain ⟨r', M4, v1, v2, v3, v4⟩ := s_takeChange (z := z) (d := e) (q := aQ (μ 2) n p + 1) (n := n) (m := wln (μ 2) n (aP (μ 2) n p)) (μ := zup M2 1 2 ((aQ (μ 2) n p + 1 : Nat) : Int)) (by omega) zup_hit (by rw [zup_nk (by omega)]; exact b13) (by rw [zup_nk (by omega)]; exact b4') hn (by omega) (by rw [zb]; exact hb) hwl.2
            rw [zb] at v3 v4
            rw [v1]
            simp -implicitDefEqProofs only [ob]
            rw [gI_ok (by omega) (by omega)]
            have u36 : zup M4 39 i r' 36 3 = (i : Int) := by rw [zup_ro (by omega), v2.1 36 (by omega)]; exact z36
            rw [s_act165 hi u36]
            have fr : ∀ a, a ≠ 1 → a ≠ 36 → a ≠ 39 → zup (zup M4 39 i r') 36 3 ((i + 1 : Nat) : Int) a = M2 a := fun a q1 q2 q3 => by rw [zup_ro q2, zup_ro q3, v2.1 a q1, zup_ro q1]
            have f1 : zup (zup M4 39 i r') 36 3 ((i + 1 : Nat) : Int) 1 = M4 1 := by rw [zup_ro (by omega), zup_ro (by omega)]
            refine ⟨_, rfl, ?_, fun h0 => ?_, ?_, fun a q1 q2 q3 q4 q5 => ?_, ?_, ?_, ?_⟩
            · rw [f1, v3, hF]
            · have h0' : M4 1 4 = 0 := by rw [v3, ← hF]; exact h0
              obtain ⟨v6, v7⟩ := v4 h0'
              refine ⟨?_, ?_, ?_, ?_⟩
              · rw [f1, v6]
                unfold actE
                rw [if_neg (by rw [hK]; omega), if_pos hK]
              · rw [fr 37 (by omega) (by omega) (by omega), b37, hK]
              · rw [fr 38 (by omega) (by omega) (by omega), b38, w6]
                rfl
              · rw [zup_ro (by omega), zupr, zrow_same, v2.1 39 (by omega), zup_ro (by omega), b39, rup_rup, v7]
                unfold actO
                rw [if_neg (by rw [hK]; omega), if_pos hK]
            · rw [zupr, zrow_same, zup_ro (by omega), v2.1 36 (by omega), zup_ro (by omega), b36]
            · rw [fr a q1 q2 q5, bf a q1 q3 q4 q5]
            · rw [f1, v2.2.1, zup_nk (by omega), b11]
            · rw [f1, v2.2.2.1, zup_nk (by omega), b13, h3]
            · rw [f1]; exact v2.2.2.2
          · rw [if_neg c46]
            simp -implicitDefEqProofs only [ob]
            have hF : actF (μ 2) n p = -1000 - ((aQ (μ 2) n p : Nat) : Int) := by
              unfold actF
              rw [if_neg (by intro h; exact h c0), if_neg (by rw [hK]; omega), if_pos hK, if_pos c46]
            have z36 : zup M2 1 4 (-1000 - ((aQ (μ 2) n p : Nat) : Int)) 36 3 = (i : Int) := by rw [zup_ro (by omega)]; exact y36
            rw [cT trivial, s_act165 hi z36]
            refine ⟨_, rfl, ?_, fun h0 => by rw [hF] at h0; omega, ?_, fun a q1 q2 q3 q4 q5 => ?_, ?_, ?_, ?_⟩
            · rw [zup_ro (by omega), zup_hit, hF]
            · rw [zupr, zrow_same, zup_ro (by omega), b36]
            · rw [zup_ro q2, zup_ro q1, bf a q1 q3 q4 q5]
            · rw [zup_ro (by omega), zup_nk (by omega), b11]
            · rw [zup_ro (by omega), zup_nk (by omega), b13, h3]
            · exact ⟨aQ (μ 2) n p, by omega, by rw [zup_ro (by omega), zup_nk (by omega)]; exact b2'⟩
        · have hF : actF (μ 2) n p = 0 := by
            unfold actF
            rw [if_neg (by intro h; exact h c0), if_neg (by rw [hK]; exact cK), if_neg (by rw [hK]; exact c63)]
          rw [s_act118_n hi y36 (Or.inl c63)]
          refine ⟨_, rfl, ?_, fun h0 => ⟨?_, ?_, ?_, ?_⟩, ?_, fun a q1 q2 q3 q4 q5 => ?_, ?_, ?_, ?_⟩
          · rw [zup_ro (by omega), b4', hF]
          · rw [zup_ro (by omega), b2']
            unfold actE
            rw [if_neg (by rw [hK]; exact cK), if_neg (by rw [hK]; exact c63)]
          · rw [zup_ro (by omega), b37, hK]
          · rw [zup_ro (by omega), b38, w6]
            rfl
          · rw [zup_ro (by omega), b39]
            unfold actO
            rw [if_neg (by rw [hK]; exact cK), if_neg (by rw [hK]; exact c63)]
          · rw [zupr, zrow_same, b36]
          · rw [zup_ro q2, bf a q1 q3 q4 q5]
          · rw [zup_ro (by omega), b11]
          · rw [zup_ro (by omega), b13, h3]
          · rw [zup_ro (by omega)]; exact b12
    · have hF : actF (μ 2) n p = wF (μ 2) n (aP (μ 2) n p) := by
        unfold actF
        rw [if_pos c0]
      have y36 : M2 36 3 = (i : Int) := by rw [b36]; exact h36
      have y14 : M2 1 4 ≠ 0 := by rw [b14]; exact c0
      have hend : f_Acts_readAct_118 z e K M2 = some (0, zup M2 36 3 ((i + 1 : Nat) : Int)) := s_act118_n hi y36 (Or.inr y14)
      have hboth : (bif !decide (K = 62) then f_Acts_readAct_118 z e K M2 else bif !decide (M2 1 4 = 0) then f_Acts_readAct_118 z e K M2 else Option.bind (mC z e 43 [(2, 1), (0, 62)] M2) fun q2 => bif decide (q2.1 = 0) then f_Acts_readAct_118 z e K q2.2 else Option.bind (mC z e 29 [(2, 1)] q2.2) fun q3 => gI (q2.2 36 3) 12 (f_Acts_readAct_118 z e K (zup q3.2 39 ((q2.2 36 3).toNat) q3.1))) = some (0, zup M2 36 3 ((i + 1 : Nat) : Int)) := by
        by_cases cK : K = 62
        · rw [nT cK, nF y14, hend]
        · rw [nF cK, hend]
      rw [hboth]
      refine ⟨_, rfl, ?_, fun h0 => by rw [hF] at h0; exact absurd h0 c0, ?_, fun a q1 q2 q3 q4 q5 => ?_, ?_, ?_, ?_⟩
      · rw [zup_ro (by omega), b14, hF]
      · rw [zupr, zrow_same, b36]
      · rw [zup_ro q2, bf a q1 q3 q4 q5]
      · rw [zup_ro (by omega), b11]
      · rw [zup_ro (by omega), b13, h3]
      · rw [zup_ro (by omega)]; exact b12
  cases hl : isl (μ 2) n p
  · simp -implicitDefEqProofs only [cond_false]
    rw [s_takeByte (by omega) h2 h3 hn (by omega)]
    simp -implicitDefEqProofs only [ob]
    have e1 : aK (μ 2) n p = tx (μ 2) n p := by unfold aK; rw [if_neg (by rw [hl]; decide)]
    have e2 : aP (μ 2) n p = p + 1 := by unfold aP; rw [if_neg (by rw [hl]; decide)]
    rw [← e1]
    exact hgo _ ⟨fun a h => zup_ro h, zup_nk (by omega), zup_nk (by omega), p + 1, by omega, zup_hit⟩ (by rw [e2]; exact zup_hit) (by rw [zup_nk (by omega)]; exact h4)
  · simp -implicitDefEqProofs only [cond_true]
    have e1 : aK (μ 2) n p = 62 := by unfold aK; rw [if_pos hl]
    have e2 : aP (μ 2) n p = p := by unfold aP; rw [if_pos hl]
    have := hgo μ ⟨fun a _ => rfl, rfl, rfl, p, by omega, h2⟩ (by rw [e2]; exact h2) h4
    rw [e1] at this
    exact this
