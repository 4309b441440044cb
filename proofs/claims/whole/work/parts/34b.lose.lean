theorem s_lose0 {z : zZ} {d o N f w n fa ta : Nat} {μ : Mu} (hd : 5 ≤ d) (ho : o = 4 ∨ o = 13) (hn : μ o 6 = (N : Int)) (h12 : N ≤ 12) (hf : μ o 7 = (f : Int)) (h4 : f < 4096) (hw : w < N) (hst : f.testBit w = true) (hz : fa + ta < 1) : mC z d 93 [(2, (o : Int)), (0, (w : Int)), (0, (fa : Int)), (0, (ta : Int))] μ = some (0, μ) := by
  obtain ⟨e, rfl, he⟩ := pred_of hd
  have hr0 : (0 : Int) ≤ (w : Int) ∧ (w : Int) < (N : Int) := by omega
  obtain ⟨fi, hfi⟩ : ∃ fi : Int, fi = (fa : Int) := ⟨_, rfl⟩
  obtain ⟨ti, hti⟩ : ∃ ti : Int, ti = (ta : Int) := ⟨_, rfl⟩
  rw [← hfi, ← hti, c_Army_lose _ _ _ _ _ _ _ ho, s_stands (by omega) ho hn h12 hf h4]
  simp only [ob, cB, hr0, and_self, decide_true, Bool.true_and, Int.toNat_natCast, hst, cond_true]
  rw [zw_id (x := fi + ti) (by omega) (by omega), cF (by omega), e_Army_lose_15]
theorem s_lose {z : zZ} {d o N f w n fa ta : Nat} {μ R : Mu} (hd : 5 ≤ d) (ho : o = 4 ∨ o = 13) (hn : μ o 6 = (N : Int)) (h12 : N ≤ 12) (hf : μ o 7 = (f : Int)) (h4 : f < 4096) (hw : w < N) (hst : f.testBit w = true) (hc : isW (μ (o + 4) w) n) (hh : hr (μ (o + 3))) (hfa : fa ≤ 8) (hta : ta ≤ 8) (hz : ¬ (fa + ta < 1)) (hR : (fst1 (fun v => decide (μ (o + 4) v = wfirst (μ (o + 4) w) (n - fa - ta))) N ≠ -1 ∧ (fclr f w).testBit (fst1 (fun v => decide (μ (o + 4) v = wfirst (μ (o + 4) w) (n - fa - ta))) N).toNat = false ∧ R = zup (zrow μ (o + 3) (lsB (μ (o + 3)) (μ (o + 4) w) (n - fa) (n - fa - ta) (n - (n - fa - ta)))) o 7 ((fclr f w ||| 2 ^ (fst1 (fun v => decide (μ (o + 4) v = wfirst (μ (o + 4) w) (n - fa - ta))) N).toNat : Nat) : Int)) ∨ (¬ (fst1 (fun v => decide (μ (o + 4) v = wfirst (μ (o + 4) w) (n - fa - ta))) N ≠ -1 ∧ (fclr f w).testBit (fst1 (fun v => decide (μ (o + 4) v = wfirst (μ (o + 4) w) (n - fa - ta))) N).toNat = false) ∧ R = zrow (zup μ o 7 ((fclr f w : Nat) : Int)) (o + 3) (homeB (lsB (μ (o + 3)) (μ (o + 4) w) (n - fa) (n - fa - ta) (n - (n - fa - ta))) 0 (wfirst (μ (o + 4) w) (n - fa - ta)) 8))) : mC z d 93 [(2, (o : Int)), (0, (w : Int)), (0, (fa : Int)), (0, (ta : Int))] μ = some (0, R) := by
  obtain ⟨e, rfl, he⟩ := pred_of hd
  have n8 := hc.2.1
  have hr0 : (0 : Int) ≤ (w : Int) ∧ (w : Int) < (N : Int) := by omega
  obtain ⟨fi, hfi⟩ : ∃ fi : Int, fi = (fa : Int) := ⟨_, rfl⟩
  obtain ⟨ti, hti⟩ : ∃ ti : Int, ti = (ta : Int) := ⟨_, rfl⟩
  rw [← hfi, ← hti, c_Army_lose _ _ _ _ _ _ _ ho, s_stands (by omega) ho hn h12 hf h4]
  simp only [ob, cB, hr0, and_self, decide_true, Bool.true_and, Int.toNat_natCast, hst, cond_true]
  rw [zw_id (x := fi + ti) (by omega) (by omega), cT (by omega), gI_ok (by omega) (by omega), s_sizeOf (by omega) hc]
  simp only [ob]
  generalize hcc : μ (o + 4) w = c at hc hR ⊢
  rw [hfi, hti]
  have q1 : zw ((n : Int) - (fa : Int)) = (n : Int) - (fa : Int) := zw_id (by omega) (by omega)
  have q2 : (if 0 < (n : Int) - (fa : Int) then (n : Int) - (fa : Int) else 0) = ((n - fa : Nat) : Int) := by split <;> omega
  have q3 : zw (((n - fa : Nat) : Int) - (ta : Int)) = ((n - fa : Nat) : Int) - (ta : Int) := zw_id (by omega) (by omega)
  have q4 : (if 0 < ((n - fa : Nat) : Int) - (ta : Int) then ((n - fa : Nat) : Int) - (ta : Int) else 0) = ((n - fa - ta : Nat) : Int) := by split <;> omega
  simp only [q1, q2, q3, q4]
  generalize hff : n - fa = ff at hR ⊢
  generalize htf : ff - ta = tf at hR ⊢
  have hle : tf ≤ n := by omega
  have hlt := fclr_lt f w
  have n1 : ∀ h : Row, zrow μ (o + 3) h o = μ o := fun h => zrow_ne (by omega)
  have n2 : ∀ h : Row, zrow μ (o + 3) h (o + 4) = μ (o + 4) := fun h => zrow_ne (by omega)
  have H := down (n := n - tf) (P := fun k => f_Army_lose_55 z e o (w : Int) c (n : Int) (ff : Int) (tf : Int) ((tf + k : Nat) : Int) (zrow μ (o + 3) (lsB (μ (o + 3)) c ff tf k)) = some (0, R))
    (by
      rw [e_Army_lose_55 _ _ _ _ _ _ _ _ _ _ ho, cT (by omega), n1, hf, s_clr h4 (by omega), s_firstOf (by omega) (by omega)]
      simp only [ob]
      have m6 : zup (zrow μ (o + 3) (lsB (μ (o + 3)) c ff tf (n - tf))) o 7 ((fclr f w : Nat) : Int) o 6 = (N : Int) := by rw [zup_nk (by omega), n1]; exact hn
      have m7 : zup (zrow μ (o + 3) (lsB (μ (o + 3)) c ff tf (n - tf))) o 7 ((fclr f w : Nat) : Int) o 7 = ((fclr f w : Nat) : Int) := zup_hit
      have m4 : zup (zrow μ (o + 3) (lsB (μ (o + 3)) c ff tf (n - tf))) o 7 ((fclr f w : Nat) : Int) (o + 4) = μ (o + 4) := by rw [zup_ro (by omega)]; exact n2 _
      have m3 : zup (zrow μ (o + 3) (lsB (μ (o + 3)) c ff tf (n - tf))) o 7 ((fclr f w : Nat) : Int) (o + 3) = lsB (μ (o + 3)) c ff tf (n - tf) := by rw [zup_ro (by omega), zrow_same]
      rw [s_find (by omega) ho m6 h12, m4]
      simp only [ob]
      have hsend : f_Army_lose_156 z e o (wfirst c tf) (zup (zrow μ (o + 3) (lsB (μ (o + 3)) c ff tf (n - tf))) o 7 ((fclr f w : Nat) : Int)) = some (0, zrow (zup μ o 7 ((fclr f w : Nat) : Int)) (o + 3) (homeB (lsB (μ (o + 3)) c ff tf (n - tf)) 0 (wfirst c tf) 8)) := by
        rw [e_Army_lose_156 _ _ _ _ _ ho, s_sendHome (by omega) ho (by rw [m3]; exact hr_lsB hh _), m3]
        simp only [ob]
        rw [e_Army_lose_162]
        simp only [zupr]
        rw [n1, zrow_comm (a := o) (b := o + 3) (by omega), zrow_zrow, zrow_comm (a := o) (b := o + 3) (by omega)]
      rcases fst1_sp (fun v => decide (μ (o + 4) v = wfirst c tf)) N with ⟨g1, g2⟩ | ⟨u, g1, g2, g3, g4⟩
      · rw [g1] at hR ⊢
        rcases hR with ⟨r1, r2, r3⟩ | ⟨r1, r2⟩
        · exact absurd rfl r1
        · rw [cT rfl, hsend, r2]
      · rw [g1] at hR ⊢
        rw [Int.toNat_natCast] at hR
        have hu0 : (0 : Int) ≤ (u : Int) ∧ (u : Int) < (N : Int) := by omega
        rw [cF (by omega), s_stands (by omega) ho m6 h12 m7 hlt]
        simp only [ob, nB, hu0, and_self, decide_true, Bool.true_and, Int.toNat_natCast]
        rcases hR with ⟨r1, r2, r3⟩ | ⟨r1, r2⟩
        · simp only [r2, cond_false]
          rw [e_Army_lose_162, m7, s_or1 (by omega) (by omega), zup_zup, r3]
        · have hb : (fclr f w).testBit u = true := by
            cases hb : (fclr f w).testBit u
            · exact absurd ⟨by omega, hb⟩ r1
            · rfl
          simp only [hb, cond_true]
          rw [hsend, r2])
    (by
      intro k hk ih
      have hl := hc.2.2.1 (tf + k) (by omega)
      have e1 : (nib c (tf + k) : Int) - 1 = ((nib c (tf + k) - 1 : Nat) : Int) := by omega
      rw [e_Army_lose_55 _ _ _ _ _ _ _ _ _ _ ho, cF (by omega)]
      have hs : ∀ b : Nat, b ≤ 24 → f_Army_lose_77 z e o (w : Int) c (n : Int) (ff : Int) (tf : Int) ((tf + k : Nat) : Int) o (b : Int) (zrow μ (o + 3) (lsB (μ (o + 3)) c ff tf k)) = f_Army_lose_55 z e o (w : Int) c (n : Int) (ff : Int) (tf : Int) ((tf + (k + 1) : Nat) : Int) (zrow μ (o + 3) (addN (lsB (μ (o + 3)) c ff tf k) (b + (nib c (tf + k) - 1)) 1)) := by
        intro b hb
        rw [e_Army_lose_77 _ _ _ _ _ _ _ _ _ _ _ _ ho ho, s_letterAt (by omega), letc_nat (by omega)]
        simp only [ob]
        rw [e1, s_add (by omega) ho (by omega) hb (by rw [zrow_same]; exact hr_lsB hh k) (by omega) (by omega)]
        simp only [ob, zrow_same, zrow_zrow]
        rw [zwc (by omega), show tf + k + 1 = tf + (k + 1) by omega]
      by_cases h7 : tf + k < ff
      · rw [cF (by omega)]
        have h24 := hs 24 (by omega)
        simp only [Int.cast_ofNat_Int] at h24
        rw [h24]
        simpa [lsB, h7] using ih
      · rw [cT (by omega), e_Army_lose_75 _ _ _ _ _ _ _ _ _ _ _ ho ho]
        have h24 := hs 12 (by omega)
        simp only [Int.cast_ofNat_Int] at h24
        rw [h24]
        simpa [lsB, h7] using ih)
  have H0 := H 0 (by omega)
  simpa [lsB, zrow_id] using H0
