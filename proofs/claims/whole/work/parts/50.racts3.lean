/-! acts of the reference, one and all -/
theorem aP_n {b : Row} {n p : Nat} (hp : p ≤ n) (hcb : canB b n p = true) : aP b n p ≤ n := by
  unfold aP
  split
  · exact hp
  · rename_i hl
    apply Nat.lt_of_not_le
    intro hc
    have : p = n := by omega
    unfold canB at hcb
    rw [tx_out (by omega)] at hcb
    simp at hcb
    exact hl hcb
theorem t_kind {z : zZ} {e p n : Nat} {b : Row} {μ : Mu} (he : 2 ≤ e) (h2 : μ 86 10 = (p : Int)) (h3 : μ 86 11 = (n : Int)) (hn : n ≤ 220) (hb : tpe μ b) : mC z (e + 1) 229 [(2, 86)] μ = f_M_readsAct_57 z e (if canB b n p = true then kc (aK b n p) else -1) μ := by
  have hno : ∀ v : Int, v < 97 ∨ 108 < v → tx b n p = v → isl b n p = false := by
    intro v hv h
    unfold isl
    rw [h]
    simp
    omega
  rw [c_M_readsAct, t_here (by omega) h2 h3 hn hb]
  simp -implicitDefEqProofs only [ob]
  by_cases h43 : tx b n p = 43
  · have hl := hno 43 (by omega) h43
    have e1 : aK b n p = 43 := by unfold aK; rw [if_neg (by rw [hl]; decide), h43]
    rw [nT h43, if_pos (by unfold canB; simp [h43]), e1]
    rfl
  · rw [nF h43]
    by_cases h45 : tx b n p = 45
    · have hl := hno 45 (by omega) h45
      have e1 : aK b n p = 45 := by unfold aK; rw [if_neg (by rw [hl]; decide), h45]
      rw [nT h45, if_pos (by unfold canB; simp [h45]), e1]
      rfl
    · rw [nF h45]
      by_cases h126 : tx b n p = 126
      · have hl := hno 126 (by omega) h126
        have e1 : aK b n p = 126 := by unfold aK; rw [if_neg (by rw [hl]; decide), h126]
        rw [nT h126, if_pos (by unfold canB; simp [h126]), e1]
        rfl
      · rw [nF h126]
        by_cases h63 : tx b n p = 63
        · have hl := hno 63 (by omega) h63
          have e1 : aK b n p = 63 := by unfold aK; rw [if_neg (by rw [hl]; decide), h63]
          rw [nT h63, if_pos (by unfold canB; simp [h63]), e1]
          rfl
        · rw [nF h63, e_M_readsAct_45, t_isLetterHere he h2 h3 hn hb]
          simp -implicitDefEqProofs only [ob, cB]
          cases hl : isl b n p
          · rw [if_neg (by unfold canB; simp [hl, h43, h45, h126, h63])]
            rfl
          · have e1 : aK b n p = 62 := by unfold aK; rw [if_pos hl]
            rw [if_pos (by unfold canB; simp [hl]), e1]
            rfl
theorem t_readsAct_no {z : zZ} {d p n k : Nat} {b : Row} {μ : Mu} (hd : 3 ≤ d) (h2 : μ 86 10 = (p : Int)) (h3 : μ 86 11 = (n : Int)) (h48 : μ 86 48 = (k : Int)) (hn : n ≤ 220) (hp : p ≤ n) (hb : tpe μ b) (hc : canB b n p = false ∨ (canB b n p = true ∧ k = 12)) : mC z d 229 [(2, 86)] μ = some (0, zup μ 86 12 (if canB b n p = false then -1000 - (p : Int) else -4000 - (p : Int))) := by
  obtain ⟨e, rfl, he⟩ := pred_of hd
  rw [t_kind he h2 h3 hn hb, e_M_readsAct_57]
  rcases hc with hc | ⟨hc, hk⟩
  · rw [if_neg (by rw [hc]; decide), if_pos hc, nT rfl, h2, t_wrongAt (by omega) (by omega) (by omega)]
    simp -implicitDefEqProofs only [ob]
    rw [g01_0]
    rfl
  · have hkc : kc (aK b n p) ≠ -1 := by
      unfold kc
      split
      · omega
      · split
        · omega
        · split
          · omega
          · split <;> omega
    rw [if_pos hc, if_neg (by rw [hc]; decide), nF hkc, nT (by rw [h48]; omega), h2, t_wrongAt (by omega) (by omega) (by omega)]
    simp -implicitDefEqProofs only [ob]
    rw [g01_0]
    rfl
theorem t_readsAct {z : zZ} {d p n k : Nat} {b : Row} {μ : Mu} (hd : 6 ≤ d) (h2 : μ 86 10 = (p : Int)) (h3 : μ 86 11 = (n : Int)) (h48 : μ 86 48 = (k : Int)) (hk : k < 12) (hn : n ≤ 220) (hp : p ≤ n) (hb : tpe μ b) (hc : canB b n p = true) : ∃ r M, mC z d 229 [(2, 86)] μ = some (bi r, M) ∧ rfr k μ M ∧ M 86 48 = ((k + 1 : Nat) : Int) ∧ ((actF b n p = 0 ∧ r = true ∧ M 86 10 = ((actE b n p : Nat) : Int) ∧ rA M k (aK b n p) (actA b n p) (actO b n p)) ∨ (actF b n p ≠ 0 ∧ r = false ∧ M 86 12 = actF b n p)) := by
  obtain ⟨e, rfl, he⟩ := pred_of hd
  have hP := aP_n hp hc
  have hKs : aK b n p = 43 ∨ aK b n p = 45 ∨ aK b n p = 126 ∨ aK b n p = 63 ∨ aK b n p = 62 := by
    unfold canB at hc
    unfold aK
    cases hl : isl b n p
    · rw [hl] at hc
      simp at hc
      rw [if_neg (by decide)]
      omega
    · rw [if_pos rfl]
      omega
  have hPv : zw ((p : Int) + (if aK b n p = 62 then 0 else 1)) = ((aP b n p : Nat) : Int) := by
    unfold aP aK
    cases hl : isl b n p
    · have this : tx b n p ≠ 62 := by
        intro h
        unfold canB at hc
        rw [hl, h] at hc
        simp at hc
      simp only [Bool.false_eq_true, if_false, if_neg this]
      rw [zwc (by omega)]
    · rw [if_pos rfl, if_pos rfl, if_pos rfl, Int.add_zero, zw_id (by omega) (by omega)]
  have hkc : kc (aK b n p) ≠ -1 := by
    unfold kc
    split
    · omega
    · split
      · omega
      · split
        · omega
        · split <;> omega
  have hkc3 : kc (aK b n p) = 3 ↔ aK b n p = 62 := by
    unfold kc
    rcases hKs with h | h | h | h | h <;> rw [h] <;> simp
  have hkc4 : kc (aK b n p) = 4 ↔ aK b n p = 63 := by
    unfold kc
    rcases hKs with h | h | h | h | h <;> rw [h] <;> simp
  generalize hM0 : zup (zup μ 111 k (kc (aK b n p))) 86 10 ((aP b n p : Nat) : Int) = M0
  have hstart : mC z (e + 1) 229 [(2, 86)] μ = (bif !decide (kc (aK b n p) = 3) then bif !decide (kc (aK b n p) = 4) then Option.bind (mC z e 231 [(2, 86)] M0) fun q1 => f_M_readsAct_149 z e q1.1 q1.2 else Option.bind (mC z e 232 [(2, 86)] M0) fun q2 => f_M_readsAct_149 z e q2.1 q2.2 else Option.bind (mC z e 230 [(2, 86)] M0) fun q3 => f_M_readsAct_149 z e q3.1 q3.2) := by
    rw [t_kind (by omega) h2 h3 hn hb, if_pos hc, e_M_readsAct_57, nF hkc, nF (by rw [h48]; omega), h48, gI_ok (by omega) (by omega), Int.toNat_natCast, h2]
    by_cases h3 : kc (aK b n p) = 3
    · rw [nT h3, e_M_readsAct_117]
      rw [if_pos (hkc3.mp h3)] at hPv
      rw [hPv, hM0]
    · rw [nF h3, e_M_readsAct_116, e_M_readsAct_117]
      rw [if_neg (fun h => h3 (hkc3.mpr h))] at hPv
      rw [hPv, hM0]
  have k10 : M0 86 10 = ((aP b n p : Nat) : Int) := by rw [← hM0]; exact zup_hit
  have k11 : M0 86 11 = (n : Int) := by rw [← hM0, zup_nk (by omega), zup_ro (by omega)]; exact h3
  have k48 : M0 86 48 = (k : Int) := by rw [← hM0, zup_nk (by omega), zup_ro (by omega)]; exact h48
  have k111 : M0 111 k = kc (aK b n p) := by rw [← hM0, zup_ro (by omega)]; exact zup_hit
  have kfr : rfr k μ M0 := by rw [← hM0]; exact rfr_trans (rfr_act (by omega) (Nat.le_refl _)) (rfr_86 (by omega))
  have kb : tpe M0 b := tpe_congr hb (by rw [← hM0, zup_ro (by omega), zup_ro (by omega)])
  have hfin : ∀ (r : Bool) (M : Mu), M 86 48 = (k : Int) → f_M_readsAct_149 z e (bi r) M = some (bi r, zup M 86 48 ((k + 1 : Nat) : Int)) := by
    intro r M hM
    rw [e_M_readsAct_149, g01b, hM, zwc (by omega)]
  rw [hstart]
  by_cases c62 : aK b n p = 62
  · rw [nT (hkc3.mpr c62)]
    have hF : actF b n p = (if wF b n (aP b n p) ≠ 0 then wF b n (aP b n p) else if tx b n (aP b n p + wln b n (aP b n p)) ≠ 62 then -1000 - ((aP b n p + wln b n (aP b n p) : Nat) : Int) else wF b n (aP b n p + wln b n (aP b n p) + 1)) := by
      unfold actF
      rw [if_pos c62]
      rfl
    obtain ⟨r, M, g1, g2, g3, g4, g5⟩ := t_attack (z := z) (d := e) (by omega) k10 k11 k48 hk hn hP kb _ hF
    rw [g1]
    simp -implicitDefEqProofs only [ob]
    rw [hfin r M g3]
    refine ⟨r, _, rfl, rfr_trans kfr (rfr_trans g2 (rfr_86 (by omega))), zup_hit, ?_⟩
    rcases g5 with ⟨d1, d2, d3, d4, d5, d6, d7, d8, d9⟩ | ⟨d1, d2, d3⟩
    · left
      refine ⟨d1, d2, ?_, ?_, ⟨wln b n (aP b n p), d4, by rw [zup_ro (by omega)]; exact d5, rwd_congr d6 (fun q _ => by rw [zup_ro (by omega)]), fun h => by omega⟩, fun _ => ⟨wln b n (aQ b n p + 1), d7, by rw [zup_ro (by omega)]; exact d8, ?_⟩⟩
      · rw [zup_nk (by omega), d3]
        unfold actE
        rw [if_pos c62]
        rfl
      · rw [zup_ro (by omega), g4]; exact k111
      · have e1 : actO b n p = wcd b (aQ b n p + 1) (wln b n (aQ b n p + 1)) := by unfold actO; rw [if_pos c62]
        rw [e1]
        exact rwd_congr d9 (fun q _ => by rw [zup_ro (by omega)])
    · right
      exact ⟨d1, d2, by rw [zup_nk (by omega)]; exact d3⟩
  · rw [nF (fun h => c62 (hkc3.mp h))]
    by_cases c63 : aK b n p = 63
    · rw [nT (hkc4.mpr c63)]
      have hF : actF b n p = (if wF b n (aP b n p) ≠ 0 then wF b n (aP b n p) else if tx b n (aP b n p + wln b n (aP b n p)) ≠ 46 then -1000 - ((aP b n p + wln b n (aP b n p) : Nat) : Int) else if isg b n (aP b n p + wln b n (aP b n p) + 1) = false then -1000 - ((aP b n p + wln b n (aP b n p) + 1 : Nat) : Int) else if ¬ (1 ≤ tx b n (aP b n p + wln b n (aP b n p) + 1) - 48 ∧ tx b n (aP b n p + wln b n (aP b n p) + 1) - 48 ≤ wln b n (aP b n p)) then -6000 - ((aP b n p + wln b n (aP b n p) + 1 : Nat) : Int) else if isl b n (aP b n p + wln b n (aP b n p) + 2) = false then -1000 - ((aP b n p + wln b n (aP b n p) + 2 : Nat) : Int) else 0) := by
        unfold actF
        rw [if_neg c62, if_pos c63]
        rfl
      obtain ⟨r, M, g1, g2, g3, g4, g5⟩ := t_spy (z := z) (d := e) (by omega) k10 k11 k48 hk hn hP kb _ hF
      rw [g1]
      simp -implicitDefEqProofs only [ob]
      rw [hfin r M g3]
      refine ⟨r, _, rfl, rfr_trans kfr (rfr_trans g2 (rfr_86 (by omega))), zup_hit, ?_⟩
      rcases g5 with ⟨d1, d2, d3, d4, d5, d6, d7, d8, d9, d10, d11, d12⟩ | ⟨d1, d2, d3⟩
      · left
        have e0 : aQ b n p = aP b n p + wln b n (aP b n p) := rfl
        refine ⟨d1, d2, ?_, ?_, ⟨wln b n (aP b n p), d4, by rw [zup_ro (by omega)]; exact d5, rwd_congr d6 (fun q _ => by rw [zup_ro (by omega)]), fun _ => ⟨(tx b n (aQ b n p + 1) - 49).toNat, (b (aQ b n p + 2) - 97).toNat, ?_, ?_, ?_, ?_, ?_⟩⟩, fun h => absurd h c62⟩
        · rw [zup_nk (by omega), d3]
          unfold actE
          rw [if_neg c62, if_pos c63]
          rfl
        · rw [zup_ro (by omega), g4]; exact k111
        · rw [zup_ro (by omega), d7, e0]; omega
        · rw [zup_ro (by omega), d8, e0]; omega
        · unfold actO
          rw [if_neg c62, if_pos c63, e0]
          omega
        · rw [e0]; omega
        · rw [e0]; omega
      · right
        exact ⟨d1, d2, by rw [zup_nk (by omega)]; exact d3⟩
    · rw [nF (fun h => c63 (hkc4.mp h))]
      have hF : actF b n p = wF b n (aP b n p) := by
        unfold actF
        rw [if_neg c62, if_neg c63]
        split
        · rfl
        · rename_i h
          simp at h
          rw [h]
      obtain ⟨r, M, g1, g2, g3, g4, g5, g6⟩ := t_first (z := z) (d := e) (by omega) k10 k11 k48 hk hn hP kb
      rw [g1]
      simp -implicitDefEqProofs only [ob]
      rw [hfin r M g3]
      refine ⟨r, _, rfl, rfr_trans kfr (rfr_trans g2 (rfr_86 (by omega))), zup_hit, ?_⟩
      rcases g6 with ⟨d1, d2, d3, d4, d5⟩ | ⟨d1, d2, d3⟩
      · left
        refine ⟨by rw [hF]; exact d1, d2, ?_, ?_, ⟨wln b n (aP b n p), (wF_0 d1).1, by rw [zup_ro (by omega)]; exact d4, rwd_congr d5 (fun q _ => by rw [zup_ro (by omega)]), fun h => absurd h c63⟩, fun h => absurd h c62⟩
        · rw [zup_nk (by omega), d3]
          unfold actE
          rw [if_neg c62, if_neg c63]
          rfl
        · rw [zup_ro (by omega), g5 111 (by omega) (by omega) (by omega)]; exact k111
      · right
        exact ⟨by rw [hF]; exact d1, d2, by rw [zup_nk (by omega), d3, hF]⟩
