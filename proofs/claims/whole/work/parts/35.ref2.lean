/-! what the reference's sides do -/
theorem zi12 {s l : Nat} (hs : s < 100) (hl : l < 1000) : zw (zw (12 * (s : Int)) + (l : Int)) = ((12 * s + l : Nat) : Int) := by
  rw [zw_id (x := 12 * (s : Int)) (by omega) (by omega), zw_id (by omega) (by omega)]; omega
theorem nibi {c : Int} {k : Nat} (h : 1 ≤ nib c k) : (nib c k : Int) - 1 = ((nib c k - 1 : Nat) : Int) := by omega
theorem t_isThere {z : zZ} {d s a la i n : Nat} {c : Int} {μ : Mu} (hd : 1 ≤ d) (hs : s < 2) (ha : iar a la) (hi : i + n ≤ la) (hla : la ≤ 1000) (h1 : rwd μ a i n c) : mC z d 237 [(2, 86), (0, (s : Int)), (2, (a : Int)), (0, (i : Int)), (0, (n : Int))] μ = some (bi (allb (pf c (μ 90) (12 * s)) 8), μ) := by
  obtain ⟨e, rfl, he⟩ := pred_of hd
  have n8 := h1.1.2.1
  have hpf : ∀ k, n ≤ k → pf c (μ 90) (12 * s) k = true := by
    intro k hk
    simp [pf, h1.1.2.2.2 k hk]
  rw [c_M_isThere, allb_ext n8 hpf]
  have H := down (n := n) (P := fun k => allb (pf c (μ 90) (12 * s)) k = true → f_M_isThere_3 z e (s : Int) (a : Int) (i : Int) (n : Int) (k : Int) μ = some (bi (allb (pf c (μ 90) (12 * s)) n), μ))
    (by
      intro h
      rw [e_M_isThere_3, cT (by omega), h, bi_t])
    (by
      intro k hk ih hb
      have g1 := h1.1.2.2.1 k hk
      rw [e_M_isThere_3, cF (by omega)]
      have I := down (n := n) (P := fun q => f_M_isThere_16 z e (s : Int) (a : Int) (i : Int) (n : Int) (k : Int) ((cnt (fun j => decide (nib c j = nib c k)) q : Nat) : Int) (q : Int) μ = some (bi (allb (pf c (μ 90) (12 * s)) n), μ))
        (by
          rw [e_M_isThere_16, cT (by omega), zwa (by omega), gAi ha (by omega)]
          simp -implicitDefEqProofs only [Int.toNat_natCast, h1.2 k hk, nibi g1.1]
          rw [zi12 (by omega) (by omega), gI_ok (by omega) (by omega), Int.toNat_natCast]
          have e1 : cnt (fun j => decide (nib c j = nib c k)) n = cnt (fun j => decide (nib c j = nib c k)) 8 := by
            rw [cnt_ext n8]
            intro j hj
            have := h1.1.2.2.2 j hj
            simp -implicitDefEqProofs only [this, decide_eq_false_iff_not]
            omega
          rw [e1]
          by_cases h5 : ((cnt (fun j => decide (nib c j = nib c k)) 8 : Nat) : Int) ≤ μ 90 (12 * s + (nib c k - 1))
          · rw [cT h5, e_M_isThere_77, zwc (by omega)]
            apply ih
            have h7 : pf c (μ 90) (12 * s) k = true := by simp [pf, h5]
            simp [allb, hb, h7]
          · rw [cF h5]
            have h7 : pf c (μ 90) (12 * s) k = false := by simp [pf, g1, h5]
            rw [allb_no hk h7, bi_f])
        (by
          intro q hq ihq
          have hcl := cnt_le (fun j => decide (nib c j = nib c k)) q
          rw [e_M_isThere_16, cF (by omega), zwa (by omega), zwa (by omega), gAi ha (by omega), gAi ha (by omega)]
          simp -implicitDefEqProofs only [Int.toNat_natCast, h1.2 k hk, h1.2 q hq]
          by_cases h6 : nib c q = nib c k
          · rw [nT (by omega), e_M_isThere_45, zwc (by omega), zwc (by omega)]
            simpa [cnt, h6] using ihq
          · rw [nF (by omega), e_M_isThere_44, e_M_isThere_45, zwc (by omega), Int.add_zero, zw_id (by omega) (by omega)]
            simpa [cnt, h6] using ihq)
      exact I 0 (by omega))
  exact H 0 (by omega) rfl
theorem t_goesHome {z : zZ} {d s a la i n : Nat} {c : Int} {μ : Mu} (hd : 3 ≤ d) (hs : s < 2) (ha : iar a la) (ha9 : a ≠ 90) (hi : i + n ≤ la) (hla : la ≤ 1000) (h1 : rwd μ a i n c) (hh : hr (μ 90)) : mC z d 203 [(2, 86), (0, (s : Int)), (2, (a : Int)), (0, (i : Int)), (0, (n : Int))] μ = some (0, zrow μ 90 (homeB (μ 90) (12 * s) c n)) := by
  obtain ⟨e, rfl, he⟩ := pred_of hd
  have n8 := h1.1.2.1
  rw [c_M_goesHome]
  have H := down (n := n) (P := fun k => f_M_goesHome_3 z e (s : Int) (a : Int) (i : Int) (n : Int) (k : Int) (zrow μ 90 (homeB (μ 90) (12 * s) c k)) = some (0, zrow μ 90 (homeB (μ 90) (12 * s) c n)))
    (by rw [e_M_goesHome_3, cT (by omega)])
    (by
      intro k hk ih
      have g1 := h1.1.2.2.1 k hk
      rw [e_M_goesHome_3, cF (by omega), zwa (by omega), gAi ha (by omega)]
      simp -implicitDefEqProofs only [Int.toNat_natCast, zrow_ne ha9, h1.2 k hk, nibi g1.1]
      have hs' := t_adds (z := z) (d := e) (a := 90) (i := 12 * s + (nib c k - 1)) (n := 1) (μ := zrow μ 90 (homeB (μ 90) (12 * s) c k)) (by omega) ia90 (by omega) (by rw [zrow_same]; exact hr_homeB hh k) (by omega) (by omega)
      simp -implicitDefEqProofs only [Int.cast_ofNat_Int] at hs'
      rw [zi12 (by omega) (by omega), hs']
      simp -implicitDefEqProofs only [ob, zrow_same, zrow_zrow]
      rw [zwc (by omega)]
      simpa [homeB, g1] using ih)
  have H0 := H 0 (by omega)
  simpa [homeB, zrow_id] using H0
theorem t_canForm {z : zZ} {d s w N f : Nat} {W : Row} {L : Nat → Nat} {μ : Mu} (hd : 2 ≤ d) (hs : s < 2) (hx : lexR μ s N W L) (hw : w < N) (hf : μ 86 (16 + s) = (f : Int)) (h4 : f < 4096) : mC z d 235 [(2, 86), (0, (s : Int)), (0, (w : Int))] μ = some (bi (cfb f w (W w) (μ 90) (12 * s)), μ) := by
  obtain ⟨e, rfl, he⟩ := pred_of hd
  obtain ⟨g1, g2, g3⟩ := hx.2.2 w hw
  have g4 := g3.1.2.1
  have n12 := hx.2.1
  unfold cfb
  rw [c_M_canForm, t_fieldOf he hs, hf]
  simp -implicitDefEqProofs only [ob]
  rw [t_has he (by omega) (by omega)]
  simp -implicitDefEqProofs only [ob, nB]
  cases hb : f.testBit w
  · simp -implicitDefEqProofs only [cond_false, Bool.not_false, Bool.true_and]
    rw [t_fieldOf he hs, hf]
    simp -implicitDefEqProofs only [ob]
    rw [t_bits he (by omega)]
    simp -implicitDefEqProofs only [ob]
    by_cases h6 : cnt f.testBit 12 < 6
    · rw [cF (by omega), t_beginOf he hs (by omega)]
      simp -implicitDefEqProofs only [ob]
      rw [t_longOf he hs (by omega), g2]
      simp -implicitDefEqProofs only [ob, h6, decide_true, Bool.true_and]
      have hi := t_isThere (z := z) (d := e) he hs ia94 (by omega) (by omega) g3
      simp -implicitDefEqProofs only [Int.cast_ofNat_Int] at hi
      rw [hi]
      simp -implicitDefEqProofs only [ob, cB]
      cases allb (pf (W w) (μ 90) (12 * s)) 8
      · simp -implicitDefEqProofs only [cond_false, e_M_canForm_52, e_M_canForm_53, g01_0, bi_f]
      · simp -implicitDefEqProofs only [cond_true, e_M_canForm_53, g01_1, bi_t]
    · rw [cT (by omega)]
      simp -implicitDefEqProofs only [h6, decide_false, Bool.false_and, e_M_canForm_52, e_M_canForm_53, g01_0, bi_f]
  · simp -implicitDefEqProofs only [cond_true, Bool.not_true, Bool.false_and, e_M_canForm_52, e_M_canForm_53, g01_0, bi_f]
theorem takeB_ext {h : Row} {b n : Nat} {c : Int} (hc : isW c n) : takeB h b c 8 = takeB h b c n := by
  have : ∀ N, n ≤ N → takeB h b c N = takeB h b c n := by
    intro N
    induction N with
    | zero => intro hn; have : n = 0 := by omega
              subst this; rfl
    | succ N ih =>
      intro hn
      by_cases e : n = N + 1
      · rw [e]
      · rw [← ih (by omega)]
        conv => lhs; unfold takeB
        rw [if_neg]
        have := hc.2.2.2 N (by omega)
        omega
  exact this 8 hc.2.1
theorem lexR_90 {μ : Mu} {s N : Nat} {W : Row} {L : Nat → Nat} {h : Row} (hx : lexR μ s N W L) : lexR (zrow μ 90 h) s N W L := by
  obtain ⟨h1, h2, h3⟩ := hx
  refine ⟨by rw [zrow_ne (by omega)]; exact h1, h2, fun w hw => ?_⟩
  obtain ⟨g1, g2, g3, g4⟩ := h3 w hw
  refine ⟨g1, by rw [zrow_ne (by omega)]; exact g2, g3, fun k hk => by rw [zrow_ne (by omega)]; exact g4 k hk⟩
theorem t_forms {z : zZ} {d s w N f : Nat} {W : Row} {L : Nat → Nat} {μ : Mu} (hd : 3 ≤ d) (hs : s < 2) (hx : lexR μ s N W L) (hw : w < N) (hf : μ 86 (16 + s) = (f : Int)) (h4 : f < 4096) (hh : hr (μ 90)) : mC z d 234 [(2, 86), (0, (s : Int)), (0, (w : Int))] μ = some (if cfb f w (W w) (μ 90) (12 * s) = true then (1, zup (zrow μ 90 (takeB (μ 90) (12 * s) (W w) 8)) 86 (16 + s) ((f ||| 2 ^ w : Nat) : Int)) else (0, μ)) := by
  obtain ⟨e, rfl, he⟩ := pred_of hd
  obtain ⟨g1, g2, g3⟩ := hx.2.2 w hw
  have g4 := g3.1.2.1
  have n12 := hx.2.1
  rw [c_M_forms, t_canForm he hs hx hw hf h4]
  simp -implicitDefEqProofs only [ob, nB]
  cases hc : cfb f w (W w) (μ 90) (12 * s)
  · simp -implicitDefEqProofs only [cond_false, Bool.false_eq_true, if_false]
  · simp -implicitDefEqProofs only [cond_true, if_true]
    rw [takeB_ext g3.1]
    have m5 : ∀ h : Row, zrow μ 90 h 95 = μ 95 := fun h => zrow_ne (by omega)
    have m4 : ∀ h : Row, zrow μ 90 h 94 = μ 94 := fun h => zrow_ne (by omega)
    have m6 : ∀ h : Row, zrow μ 90 h 86 = μ 86 := fun h => zrow_ne (by omega)
    have H := down (n := L w) (P := fun k => f_M_forms_13 z e (s : Int) (w : Int) (k : Int) (zrow μ 90 (takeB (μ 90) (12 * s) (W w) k)) = some (1, zup (zrow μ 90 (takeB (μ 90) (12 * s) (W w) (L w))) 86 (16 + s) ((f ||| 2 ^ w : Nat) : Int)))
      (by
        rw [e_M_forms_13, t_longOf (by omega) hs (by omega), m5, g2]
        simp -implicitDefEqProofs only [ob]
        rw [cT (by omega), t_stands1 he hs (by omega) (by rw [m6]; exact hf) h4]
        rfl)
      (by
        intro k hk ih
        have q1 := g3.1.2.2.1 k hk
        have hb := takeB_rg (b := 12 * s) (c := W w) hh k (12 * s + (nib (W w) k - 1))
        rw [e_M_forms_13, t_longOf (by omega) hs (by omega), m5, g2]
        simp -implicitDefEqProofs only [ob]
        rw [cF (by omega), t_beginOf (by omega) hs (by omega)]
        simp -implicitDefEqProofs only [ob]
        rw [zwa (by omega), gI_ok (by omega) (by omega)]
        simp -implicitDefEqProofs only [Int.toNat_natCast, m4, g3.2 k hk, nibi q1.1]
        rw [zi12 (by omega) (by omega), gI_ok (by omega) (by omega), gI_ok (by omega) (by omega), Int.toNat_natCast, zwc (by omega), zupr, zrow_same, zrow_zrow, zw_id (by omega) (by omega)]
        simpa [takeB, q1] using ih)
    have H0 := H 0 (by omega)
    simpa [takeB, zrow_id] using H0
theorem t_sumOf {z : zZ} {d s a : Nat} {μ : Mu} (hd : 1 ≤ d) (hs : s < 2) (ha : iar a 24) (hh : hr (μ a)) : mC z d 303 [(2, 86), (2, (a : Int)), (0, (s : Int))] μ = some (sm (fun k => μ a (12 * s + k)) 12, μ) := by
  obtain ⟨e, rfl, he⟩ := pred_of hd
  rw [c_M_sumOf]
  have H := down (n := 12) (P := fun k => f_M_sumOf_5 z e (a : Int) (s : Int) (sm (fun k => μ a (12 * s + k)) k) (k : Int) μ = some (sm (fun k => μ a (12 * s + k)) 12, μ))
    (by rw [e_M_sumOf_5, cT (by omega)])
    (by
      intro k hk ih
      have h1 := sm_bound (g := fun k => μ a (12 * s + k)) (b := 999) (fun k => hh (12 * s + k)) k
      have h2 := hh (12 * s + k)
      rw [e_M_sumOf_5, cF (by omega), zi12 (by omega) (by omega), gAi ha (by omega)]
      simp -implicitDefEqProofs only [Int.toNat_natCast]
      rw [zwc (by omega), zw_id (by omega) (by omega)]
      exact ih)
  exact H 0 (by omega)
