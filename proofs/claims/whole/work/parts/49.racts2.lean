/-! attacks, spies and acts of the reference -/
theorem t_attack {z : zZ} {d p n k : Nat} {b : Row} {μ : Mu} (hd : 5 ≤ d) (h2 : μ 86 10 = (p : Int)) (h3 : μ 86 11 = (n : Int)) (h48 : μ 86 48 = (k : Int)) (hk : k < 12) (hn : n ≤ 220) (hp : p ≤ n) (hb : tpe μ b) (F : Int) (hF : F = (if wF b n p ≠ 0 then wF b n p else if tx b n (p + wln b n p) ≠ 62 then -1000 - ((p + wln b n p : Nat) : Int) else wF b n (p + wln b n p + 1))) : ∃ r M, mC z d 230 [(2, 86)] μ = some (bi r, M) ∧ rfr k μ M ∧ M 86 48 = (k : Int) ∧ M 111 = μ 111 ∧ ((F = 0 ∧ r = true ∧ M 86 10 = ((p + wln b n p + 1 + wln b n (p + wln b n p + 1) : Nat) : Int) ∧ 1 ≤ wln b n p ∧ M 113 k = ((wln b n p : Nat) : Int) ∧ rwd M 112 (8 * k) (wln b n p) (wcd b p (wln b n p)) ∧ 1 ≤ wln b n (p + wln b n p + 1) ∧ M 115 k = ((wln b n (p + wln b n p + 1) : Nat) : Int) ∧ rwd M 114 (8 * k) (wln b n (p + wln b n p + 1)) (wcd b (p + wln b n p + 1) (wln b n (p + wln b n p + 1)))) ∨ (F ≠ 0 ∧ r = false ∧ M 86 12 = F)) := by
  obtain ⟨e, rfl, he⟩ := pred_of hd
  obtain ⟨r, M, g1, g2, g3, g4, g5, g6⟩ := t_first (z := z) (d := e) he h2 h3 h48 hk hn hp hb
  rw [c_M_readsAttack, g1]
  simp -implicitDefEqProofs only [ob, cB]
  have hbM : tpe M b := tpe_congr hb (g5 93 (by omega) (by omega) (by omega))
  rcases g6 with ⟨c1, c2, c3, c4, c5⟩ | ⟨c1, c2, c3⟩
  · rw [if_neg (by intro h; exact h c1)] at hF
    have hwl := wF_0 c1
    have hwn := wln_n (b := b) hp
    subst c2
    simp -implicitDefEqProofs only [cond_true]
    rw [t_takes (by omega) c3 g4 hn (by omega) hbM]
    by_cases h62 : tx b n (p + wln b n p) = 62
    · rw [if_pos h62]
      rw [if_neg (by intro h; exact h h62)] at hF
      have hp2 : p + wln b n p + 1 ≤ n := by
        apply Nat.lt_of_not_le
        intro hc
        rw [tx_out hc] at h62
        omega
      simp -implicitDefEqProofs only [ob]
      rw [nF (by omega)]
      generalize hQ : p + wln b n p + 1 = q at hp2 hF
      generalize hM1 : zup M 86 10 (q : Int) = M1
      have k10 : M1 86 10 = (q : Int) := by rw [← hM1]; exact zup_hit
      have k11 : M1 86 11 = (n : Int) := by rw [← hM1, zup_nk (by omega)]; exact g4
      have k48 : M1 86 48 = (k : Int) := by rw [← hM1, zup_nk (by omega)]; exact g3
      have kr : ∀ a, a ≠ 86 → M1 a = M a := fun a h => by rw [← hM1, zup_ro h]
      have kfr : rfr k M M1 := by rw [← hM1]; exact rfr_86 (by omega)
      obtain ⟨r', M', v1, v2, v3, v4, v5, v6⟩ := t_word (z := z) (d := e) (a := 114) (by omega) k10 k11 k48 hk hn hp2 (tpe_congr hbM (kr 93 (by omega))) (Or.inr rfl)
      simp -implicitDefEqProofs only [Int.cast_ofNat_Int] at v1
      rw [k48, z8 (by omega), v1]
      simp -implicitDefEqProofs only [ob]
      rw [v3, gI_ok (by omega) (by omega), g01b, Int.toNat_natCast]
      refine ⟨r', _, rfl, rfr_trans g2 (rfr_trans kfr (rfr_trans v2 (rfr_act (by omega) (Nat.le_refl _)))), by rw [zup_ro (by omega)]; exact v3, by rw [zup_ro (by omega), v5 111 (by omega) (by omega), kr 111 (by omega), g5 111 (by omega) (by omega) (by omega)], ?_⟩
      rcases v6 with ⟨d1, d2, d3, d4, d5⟩ | ⟨d1, d2, d3⟩
      · left
        have hwl2 := wF_0 d1
        refine ⟨by rw [hF]; exact d1, d2, by rw [zup_ro (by omega)]; exact d3, hwl.1, ?_, rwd_congr c5 (fun q _ => ?_), hwl2.1, by rw [zup_hit]; exact d4, rwd_congr d5 (fun q _ => by rw [zup_ro (by omega)])⟩
        · rw [zup_ro (by omega), v5 113 (by omega) (by omega), kr 113 (by omega)]; exact c4
        · rw [zup_ro (by omega), v5 112 (by omega) (by omega), kr 112 (by omega)]
      · right
        exact ⟨by rw [hF]; exact d1, d2, by rw [zup_ro (by omega), d3, hF]⟩
    · rw [if_neg h62]
      rw [if_pos h62] at hF
      simp -implicitDefEqProofs only [ob]
      rw [nT trivial, e_M_readsAttack_16]
      refine ⟨false, _, rfl, rfr_trans g2 (rfr_86 (by omega)), by rw [zup_nk (by omega)]; exact g3, by rw [zup_ro (by omega), g5 111 (by omega) (by omega) (by omega)], Or.inr ⟨by omega, rfl, by rw [zup_hit, hF]⟩⟩
  · rw [if_pos c1] at hF
    subst c2
    simp -implicitDefEqProofs only [cond_false]
    rw [e_M_readsAttack_16]
    exact ⟨false, M, rfl, g2, g3, g5 111 (by omega) (by omega) (by omega), Or.inr ⟨by rw [hF]; exact c1, rfl, by rw [c3, hF]⟩⟩
theorem t_spy {z : zZ} {d p n k : Nat} {b : Row} {μ : Mu} (hd : 5 ≤ d) (h2 : μ 86 10 = (p : Int)) (h3 : μ 86 11 = (n : Int)) (h48 : μ 86 48 = (k : Int)) (hk : k < 12) (hn : n ≤ 220) (hp : p ≤ n) (hb : tpe μ b) (F : Int) (hF : F = (if wF b n p ≠ 0 then wF b n p else if tx b n (p + wln b n p) ≠ 46 then -1000 - ((p + wln b n p : Nat) : Int) else if isg b n (p + wln b n p + 1) = false then -1000 - ((p + wln b n p + 1 : Nat) : Int) else if ¬ (1 ≤ tx b n (p + wln b n p + 1) - 48 ∧ tx b n (p + wln b n p + 1) - 48 ≤ wln b n p) then -6000 - ((p + wln b n p + 1 : Nat) : Int) else if isl b n (p + wln b n p + 2) = false then -1000 - ((p + wln b n p + 2 : Nat) : Int) else 0)) : ∃ r M, mC z d 232 [(2, 86)] μ = some (bi r, M) ∧ rfr k μ M ∧ M 86 48 = (k : Int) ∧ M 111 = μ 111 ∧ ((F = 0 ∧ r = true ∧ M 86 10 = ((p + wln b n p + 3 : Nat) : Int) ∧ 1 ≤ wln b n p ∧ M 113 k = ((wln b n p : Nat) : Int) ∧ rwd M 112 (8 * k) (wln b n p) (wcd b p (wln b n p)) ∧ M 116 k = tx b n (p + wln b n p + 1) - 49 ∧ M 117 k = b (p + wln b n p + 2) - 97 ∧ 1 ≤ tx b n (p + wln b n p + 1) - 48 ∧ tx b n (p + wln b n p + 1) - 48 ≤ wln b n p ∧ 97 ≤ b (p + wln b n p + 2) ∧ b (p + wln b n p + 2) ≤ 108) ∨ (F ≠ 0 ∧ r = false ∧ M 86 12 = F)) := by
  obtain ⟨e, rfl, he⟩ := pred_of hd
  obtain ⟨r, M, g1, g2, g3, g4, g5, g6⟩ := t_first (z := z) (d := e) he h2 h3 h48 hk hn hp hb
  rw [c_M_readsSpy, g1]
  simp -implicitDefEqProofs only [ob, cB]
  have hbM : tpe M b := tpe_congr hb (g5 93 (by omega) (by omega) (by omega))
  have m111 := g5 111 (by omega) (by omega) (by omega)
  rcases g6 with ⟨c1, c2, c3, c4, c5⟩ | ⟨c1, c2, c3⟩
  · rw [if_neg (by intro h; exact h c1)] at hF
    have hwl := wF_0 c1
    have hwn := wln_n (b := b) hp
    subst c2
    simp -implicitDefEqProofs only [cond_true]
    rw [t_takes (by omega) c3 g4 hn (by omega) hbM]
    generalize hm : wln b n p = m at hF c3 c4 c5 hwl hwn
    by_cases h46 : tx b n (p + m) = 46
    · rw [if_pos h46]
      rw [if_neg (by intro h; exact h h46)] at hF
      simp -implicitDefEqProofs only [ob]
      rw [nF (by omega)]
      have hrt := tx_rg hb.1 n (p + m + 1)
      generalize hM1 : zup M 86 10 ((p + m + 1 : Nat) : Int) = M1
      have k10 : M1 86 10 = ((p + m + 1 : Nat) : Int) := by rw [← hM1]; exact zup_hit
      have k11 : M1 86 11 = (n : Int) := by rw [← hM1, zup_nk (by omega)]; exact g4
      have k48 : M1 86 48 = (k : Int) := by rw [← hM1, zup_nk (by omega)]; exact g3
      have kr : ∀ a, a ≠ 86 → M1 a = M a := fun a h => by rw [← hM1, zup_ro h]
      have kfr : rfr k μ M1 := by rw [← hM1]; exact rfr_trans g2 (rfr_86 (by omega))
      have kb : tpe M1 b := tpe_congr hbM (kr 93 (by omega))
      have k113 : M1 113 k = (m : Int) := by rw [kr 113 (by omega)]; exact c4
      have k112 : rwd M1 112 (8 * k) m (wcd b p m) := rwd_congr c5 (fun q _ => by rw [kr 112 (by omega)])
      have k111 : M1 111 = μ 111 := by rw [kr 111 (by omega), m111]
      rw [t_isDigit (by omega) k10 k11 hn kb]
      simp -implicitDefEqProofs only [ob, nB]
      have hbad : ∀ w : Int, 0 ≤ w → w ≤ 9 → (Option.bind (mC z e 194 [(2, 86), (0, w), (0, M1 86 10)] M1) fun q5 => g01 q5.1 (some (q5.1, q5.2))) = some (0, zup M1 86 12 (-1000 * w - ((p + m + 1 : Nat) : Int))) := by
        intro w w0 w1
        rw [k10, t_wrongAt (by omega) ⟨w0, w1⟩ (by omega)]
        simp -implicitDefEqProofs only [ob]
        rw [g01_0]
      cases hg : isg b n (p + m + 1)
      · rw [if_pos hg] at hF
        simp -implicitDefEqProofs only [cond_false]
        rw [hbad 1 (by omega) (by omega)]
        exact ⟨false, _, rfl, rfr_trans kfr (rfr_86 (by omega)), by rw [zup_nk (by omega)]; exact k48, by rw [zup_ro (by omega)]; exact k111, Or.inr ⟨by omega, rfl, by rw [zup_hit, hF]; omega⟩⟩
      · rw [if_neg (by rw [hg]; decide)] at hF
        have hg2 : 48 ≤ tx b n (p + m + 1) ∧ tx b n (p + m + 1) ≤ 57 := by unfold isg at hg; simpa using hg
        simp -implicitDefEqProofs only [cond_true]
        rw [t_here (by omega) k10 k11 hn kb]
        simp -implicitDefEqProofs only [ob]
        rw [zw_id (x := tx b n (p + m + 1) - 48) (by omega) (by omega)]
        have h61 : f_M_readsSpy_61 z e M1 = some (0, zup M1 86 12 (-6000 - ((p + m + 1 : Nat) : Int))) := by
          rw [e_M_readsSpy_61, hbad 6 (by omega) (by omega)]
          rfl
        by_cases hc : 1 ≤ tx b n (p + m + 1) - 48 ∧ tx b n (p + m + 1) - 48 ≤ m
        · rw [if_neg (by intro h; exact h hc)] at hF
          rw [cF (by omega)]
          simp -implicitDefEqProofs only [k48, Int.toNat_natCast, k113]
          rw [gI_ok (by omega) (by omega), cT (by omega), e_M_readsSpy_72, k48, gI_ok (by omega) (by omega), Int.toNat_natCast, k10, zwc (by omega), zw_id (by omega) (by omega)]
          generalize hM2 : zup (zup M1 116 k (tx b n (p + m + 1) - 48 - 1)) 86 10 ((p + m + 1 + 1 : Nat) : Int) = M2
          have l10 : M2 86 10 = ((p + m + 2 : Nat) : Int) := by rw [← hM2]; exact zup_hit
          have l11 : M2 86 11 = (n : Int) := by rw [← hM2, zup_nk (by omega), zup_ro (by omega)]; exact k11
          have l48 : M2 86 48 = (k : Int) := by rw [← hM2, zup_nk (by omega), zup_ro (by omega)]; exact k48
          have lr : ∀ a, a ≠ 86 → a ≠ 116 → M2 a = M1 a := fun a h1 h2 => by rw [← hM2, zup_ro h1, zup_ro h2]
          have lfr : rfr k μ M2 := by rw [← hM2]; exact rfr_trans kfr (rfr_trans (rfr_act (by omega) (Nat.le_refl _)) (rfr_86 (by omega)))
          have lb : tpe M2 b := tpe_congr kb (lr 93 (by omega) (by omega))
          rw [t_isLetterHere (by omega) l10 l11 hn lb]
          simp -implicitDefEqProofs only [ob, nB]
          cases hl : isl b n (p + m + 2)
          · rw [if_pos hl] at hF
            simp -implicitDefEqProofs only [cond_false]
            rw [l10, t_wrongAt (by omega) (by omega) (by omega)]
            simp -implicitDefEqProofs only [ob]
            rw [g01_0]
            exact ⟨false, _, rfl, rfr_trans lfr (rfr_86 (by omega)), by rw [zup_nk (by omega)]; exact l48, by rw [zup_ro (by omega), lr 111 (by omega) (by omega)]; exact k111, Or.inr ⟨by omega, rfl, by rw [zup_hit, hF]; omega⟩⟩
          · rw [if_neg (by rw [hl]; decide)] at hF
            have hlb := isl_b hl
            have hlt := isl_lt hl
            simp -implicitDefEqProofs only [cond_true]
            rw [e_M_readsSpy_111, t_here (by omega) l10 l11 hn lb, tx_in hlt]
            simp -implicitDefEqProofs only [ob]
            rw [l48, gI_ok (by omega) (by omega), Int.toNat_natCast, l10, zwc (by omega), zw_id (by omega) (by omega)]
            refine ⟨true, _, rfl, rfr_trans lfr (rfr_trans (rfr_act (by omega) (Nat.le_refl _)) (rfr_86 (by omega))), by rw [zup_nk (by omega), zup_ro (by omega)]; exact l48, by rw [zup_ro (by omega), zup_ro (by omega), lr 111 (by omega) (by omega)]; exact k111, Or.inl ⟨hF, rfl, zup_hit, hwl.1, ?_, rwd_congr k112 (fun q _ => ?_), ?_, ?_, hc.1, hc.2, hlb.1, hlb.2⟩⟩
            · rw [zup_ro (by omega), zup_ro (by omega), lr 113 (by omega) (by omega)]; exact k113
            · rw [zup_ro (by omega), zup_ro (by omega), lr 112 (by omega) (by omega)]
            · rw [zup_ro (by omega), zup_ro (by omega), ← hM2, zup_ro (by omega), zup_hit]; omega
            · rw [zup_ro (by omega), zup_hit]
        · rw [if_pos hc] at hF
          have hend : (bif decide (tx b n (p + m + 1) - 48 < 1) then f_M_readsSpy_61 z e M1 else gI (M1 86 48) 12 (bif decide (tx b n (p + m + 1) - 48 ≤ M1 113 ((M1 86 48).toNat)) then f_M_readsSpy_72 z e (tx b n (p + m + 1) - 48) M1 else f_M_readsSpy_61 z e M1)) = some (0, zup M1 86 12 (-6000 - ((p + m + 1 : Nat) : Int))) := by
            by_cases hc1 : tx b n (p + m + 1) - 48 < 1
            · rw [cT hc1, h61]
            · rw [cF hc1]
              simp -implicitDefEqProofs only [k48, Int.toNat_natCast, k113]
              rw [gI_ok (by omega) (by omega), cF (by omega), h61]
          rw [hend]
          exact ⟨false, _, rfl, rfr_trans kfr (rfr_86 (by omega)), by rw [zup_nk (by omega)]; exact k48, by rw [zup_ro (by omega)]; exact k111, Or.inr ⟨by omega, rfl, by rw [zup_hit, hF]⟩⟩
    · rw [if_neg h46]
      rw [if_pos h46] at hF
      simp -implicitDefEqProofs only [ob]
      rw [nT trivial, e_M_readsSpy_16]
      exact ⟨false, _, rfl, rfr_trans g2 (rfr_86 (by omega)), by rw [zup_nk (by omega)]; exact g3, by rw [zup_ro (by omega)]; exact m111, Or.inr ⟨by omega, rfl, by rw [zup_hit, hF]⟩⟩
  · rw [if_pos c1] at hF
    subst c2
    simp -implicitDefEqProofs only [cond_false]
    rw [e_M_readsSpy_16]
    exact ⟨false, M, rfl, g2, g3, m111, Or.inr ⟨by rw [hF]; exact c1, rfl, by rw [c3, hF]⟩⟩
