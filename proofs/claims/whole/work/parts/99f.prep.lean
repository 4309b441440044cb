/-! words offered to a chooser, and the best of them: the class -/
theorem s_need0 {z : zZ} {d : Nat} {c : Int} {μ : Mu} (hd : 2 ≤ d) : mC z d 108 [(0, c), (0, 0)] μ = some (pkr (tms c 8) 0 6, μ) := s_needs (f := 0) hd (Or.inl rfl)
theorem s_need6 {z : zZ} {d : Nat} {c : Int} {μ : Mu} (hd : 2 ≤ d) : mC z d 108 [(0, c), (0, 6)] μ = some (pkr (tms c 8) 6 6, μ) := s_needs (f := 6) hd (Or.inr rfl)
theorem iaH {o : Nat} (ho : isH o) : iar (o + 2) 12 := by
  rcases ho with h | h
  · subst h; exact (show iar 25 12 from ⟨⟨by omega, rfl⟩, rfl⟩)
  · subst h; exact (show iar 31 12 from ⟨⟨by omega, rfl⟩, rfl⟩)
theorem s_clear {z : zZ} {d o : Nat} {μ : Mu} (hd : 2 ≤ d) (ho : isH o) : mC z d 106 [(2, (o : Int))] μ = some (0, zrow (zup μ o 5 0) (o + 2) (fil (μ (o + 2)) 0 12)) := by
  obtain ⟨e, rfl, he⟩ := pred_of hd
  rw [c_Cho_clear _ _ _ _ ho, s_fill he (iaH ho) (by omega), zup_ro (by omega)]
  simp -implicitDefEqProofs only [ob]
theorem s_offer {z : zZ} {d o w O : Nat} {v c : Int} {μ : Mu} (hd : 3 ≤ d) (ho : isH o) (hw : w < 12) (h5 : μ o 5 = (O : Int)) (hO : O < 4096) : mC z d 107 [(2, (o : Int)), (0, (w : Int)), (0, v), (0, c)] μ = some (0, zup (zup (zup (zup μ o 5 ((O ||| 2 ^ w : Nat) : Int)) (o + 1) w v) (o + 3) w (pkr (tms c 8) 0 6)) (o + 4) w (pkr (tms c 8) 6 6)) := by
  obtain ⟨e, rfl, he⟩ := pred_of (k := 2) hd
  rw [c_Cho_offer _ _ _ _ _ _ _ ho, cF (by omega), cF (by omega), gI_ok (by omega) (by omega), s_need0 he, h5, s_or1 (by omega) (by omega)]
  simp -implicitDefEqProofs only [ob]
  rw [gI_ok (by omega) (by omega), s_need6 he]
  simp -implicitDefEqProofs only [ob]
  rw [gI_ok (by omega) (by omega), e_Cho_offer_52, Int.toNat_natCast]
def pcr (o wl : Nat) (μ M : Mu) : Prop := (∀ a, a ≠ 53 → a ≠ wl → a ≠ wl + 5 → a ≠ o → a ≠ o + 1 → a ≠ o + 2 → a ≠ o + 3 → a ≠ o + 4 → M a = μ a) ∧ (∀ k, k ≠ 7 → k ≠ 8 → M wl k = μ wl k) ∧ ∀ k, k ≠ 5 → M o k = μ o k
theorem or_bset {p : Nat → Bool} {k : Nat} : bset p (k + 1) = if p k = true then bset p k ||| 2 ^ k else bset p k := by
  show bset p k ||| (if p k = true then 2 ^ k else 0) = _
  split
  · rfl
  · exact Nat.or_zero _
theorem s_prep1 {z : zZ} {e s wl N f Nn : Nat} {L : Nat → Nat} {lt : Nat → Int} {Dv Dc : Nat → Row → Option Int} {μ : Mu} (he : 7 ≤ e) (hs : s < 2) (hw : isLw wl) (h6 : μ 0 6 = (wl : Int) + 1) (hL : lawC wl μ Nn lt Dv Dc) (hv : dep10 Dv) (hc : dep10 Dc) (h99 : r99 (μ 35)) (hn : μ (4 + 9 * s) 6 = (N : Int)) (h12 : N ≤ 12) (hf : μ (4 + 9 * s) 7 = (f : Int)) (h4 : f < 4096) (hW : ∀ w, w < N → isW (μ (4 + 9 * s + 4) w) (L w)) : ∀ (j k : Nat) (M : Mu), j + k = N → pcr (23 + 6 * s) wl μ M → M (23 + 6 * s) 5 = ((bset (fun w => !f.testBit w) k : Nat) : Int) → (∀ w, w < k → f.testBit w = false → M (23 + 6 * s + 1) w = wrt Nn lt Dv Dc (μ 0 18) (s : Int) (μ 35) (μ (4 + 9 * s + 4) w) (L w) ∧ M (23 + 6 * s + 3) w = pkr (tms (μ (4 + 9 * s + 4) w) 8) 0 6 ∧ M (23 + 6 * s + 4) w = pkr (tms (μ (4 + 9 * s + 4) w) 8) 6 6) → (∀ w, w < 12 → M (23 + 6 * s + 2) w = 0) → ∃ R, f_W_prepareChooser_21 z e (s : Int) (4 + 9 * s) (23 + 6 * s) (k : Int) M = some (0, R) ∧ pcr (23 + 6 * s) wl μ R ∧ R (23 + 6 * s) 5 = ((bset (fun w => !f.testBit w) N : Nat) : Int) ∧ (∀ w, w < N → f.testBit w = false → R (23 + 6 * s + 1) w = wrt Nn lt Dv Dc (μ 0 18) (s : Int) (μ 35) (μ (4 + 9 * s + 4) w) (L w) ∧ R (23 + 6 * s + 3) w = pkr (tms (μ (4 + 9 * s + 4) w) 8) 0 6 ∧ R (23 + 6 * s + 4) w = pkr (tms (μ (4 + 9 * s + 4) w) 8) 6 6) ∧ ∀ w, w < 12 → R (23 + 6 * s + 2) w = 0 := by
  have hH : isH (23 + 6 * s) := by unfold isH; omega
  have hwn : ∀ i, i ≤ 8 → 4 + 9 * s + i ≠ wl ∧ 4 + 9 * s + i ≠ wl + 5 := by intro i hi; rcases hw with h | h <;> omega
  have hwo : ∀ i, i ≤ 5 → 23 + 6 * s + i ≠ wl ∧ 23 + 6 * s + i ≠ wl + 5 ∧ 23 + 6 * s + i ≠ 53 := by intro i hi; rcases hw with h | h <;> omega
  have hwl : wl ≠ 0 ∧ wl ≠ 35 ∧ wl + 5 ≠ 0 ∧ wl + 5 ≠ 35 := by rcases hw with h | h <;> omega
  intro j
  induction j with
  | zero =>
    intro k M hj hP h5 hV hZ
    have : k = N := by omega
    subst this
    have r0 : M (4 + 9 * s) = μ (4 + 9 * s) := hP.1 _ (by omega) (hwn 0 (by omega)).1 (hwn 0 (by omega)).2 (by omega) (by omega) (by omega) (by omega) (by omega)
    exact ⟨M, by rw [e_W_prepareChooser_21 _ _ _ _ _ _ _ (o9 hs) hH, r0, hn, cT (by omega)], hP, h5, hV, hZ⟩
  | succ j ih =>
    intro k M hj hP h5 hV hZ
    have r0 : M (4 + 9 * s) = μ (4 + 9 * s) := hP.1 _ (by omega) (hwn 0 (by omega)).1 (hwn 0 (by omega)).2 (by omega) (by omega) (by omega) (by omega) (by omega)
    have r4 : M (4 + 9 * s + 4) = μ (4 + 9 * s + 4) := hP.1 _ (by omega) (hwn 4 (by omega)).1 (hwn 4 (by omega)).2 (by omega) (by omega) (by omega) (by omega) (by omega)
    have m0 : M 0 = μ 0 := hP.1 _ (by omega) (by omega) (by omega) (by omega) (by omega) (by omega) (by omega) (by omega)
    have m35 : M 35 = μ 35 := hP.1 _ (by omega) (by omega) (by omega) (by omega) (by omega) (by omega) (by omega) (by omega)
    have hb := or_bset (p := fun w => !f.testBit w) (k := k)
    have hlt := bset_lt (fun w => !f.testBit w) k
    have h212 : 2 ^ k ≤ 4096 := by have := Nat.pow_le_pow_right (show 0 < 2 by decide) (show k ≤ 12 by omega); exact this
    rw [e_W_prepareChooser_21 _ _ _ _ _ _ _ (o9 hs) hH, r0, hn, cF (by omega), s_stands (by omega) (o9 hs) (by rw [r0]; exact hn) h12 (by rw [r0]; exact hf) h4]
    simp -implicitDefEqProofs only [ob]
    rw [decide_eq_true (show (0 : Int) ≤ (k : Int) ∧ (k : Int) < (N : Int) by omega), Bool.true_and, Int.toNat_natCast, nB]
    by_cases hst : f.testBit k = true
    · rw [hst, cond_true, e_W_prepareChooser_63 _ _ _ _ _ _ _ (o9 hs) hH, zwc (by omega)]
      rw [hst, if_neg (by decide)] at hb
      exact ih (k + 1) M (by omega) hP (by rw [hb]; exact h5) (fun w hw2 hfw => hV w (by
        by_cases e : w = k
        · subst e; rw [hst] at hfw; exact absurd hfw (by decide)
        · omega) hfw) hZ
    · have hst' : f.testBit k = false := by simpa using hst
      rw [hst', if_pos (by decide)] at hb
      have hLM : lawC wl M Nn lt Dv Dc := by
        have wi : ∀ i, 1 ≤ i → i ≤ 4 → M (wl + i) = μ (wl + i) := fun i h1 h2 => by
          rcases hw with h | h
          · subst h; exact hP.1 _ (by omega) (by omega) (by omega) (by omega) (by omega) (by omega) (by omega) (by omega)
          · subst h; exact hP.1 _ (by omega) (by omega) (by omega) (by omega) (by omega) (by omega) (by omega) (by omega)
        exact lawC_congr hL (hP.2.1 3 (by omega) (by omega)) (hP.2.1 5 (by omega) (by omega)) (wi 1 (by omega) (by omega)) (wi 2 (by omega) (by omega)) (wi 3 (by omega) (by omega)) (wi 4 (by omega) (by omega))
      obtain ⟨A, a1, a2⟩ := s_worthOf (z := z) (d := e) (s := (s : Int)) he hw (by rw [m0]; exact h6) hLM hv hc (hW k (by omega)) (by rw [m35]; exact h99)
      have ao : A (23 + 6 * s) = M (23 + 6 * s) := a2.1 _ (hwo 0 (by omega)).2.2 (hwo 0 (by omega)).1 (hwo 0 (by omega)).2.1
      have ai : ∀ i, i ≤ 4 → A (23 + 6 * s + i) = M (23 + 6 * s + i) := fun i hi => a2.1 _ (hwo i (by omega)).2.2 (hwo i (by omega)).1 (hwo i (by omega)).2.1
      rw [hst', cond_false, gI_ok (by omega) (by omega), r4, a1]
      simp -implicitDefEqProofs only [ob]
      rw [s_offer (O := bset (fun w => !f.testBit w) k) (by omega) hH (by omega) (by rw [ao]; exact h5) (by omega)]
      simp -implicitDefEqProofs only [ob]
      rw [e_W_prepareChooser_63 _ _ _ _ _ _ _ (o9 hs) hH, zwc (by omega), ← hb, m0, m35]
      refine ih (k + 1) _ (by omega) ⟨fun a q1 q2 q3 q4 q5 q6 q7 q8 => ?_, fun i q1 q2 => ?_, fun i q => ?_⟩ ?_ (fun w hw2 hfw => ?_) (fun w hw2 => ?_)
      · rw [zup_ro q8, zup_ro q7, zup_ro q5, zup_ro q4, a2.1 a q1 q2 q3]
        exact hP.1 a q1 q2 q3 q4 q5 q6 q7 q8
      · rw [zup_ro (fun h => (hwo 4 (by omega)).1 h.symm), zup_ro (fun h => (hwo 3 (by omega)).1 h.symm), zup_ro (fun h => (hwo 1 (by omega)).1 h.symm), zup_ro (show wl ≠ 23 + 6 * s from fun h => (hwo 0 (by omega)).1 h.symm), a2.2 i q1 q2]
        exact hP.2.1 i q1 q2
      · rw [zup_ro (by omega), zup_ro (by omega), zup_ro (by omega), zup_nk q, ao]
        exact hP.2.2 i q
      · rw [zup_ro (by omega), zup_ro (by omega), zup_ro (by omega)]
        exact zup_hit
      · by_cases e : w = k
        · subst e
          refine ⟨?_, ?_, ?_⟩
          · rw [zup_ro (by omega), zup_ro (by omega)]; exact zup_hit
          · rw [zup_ro (by omega)]; exact zup_hit
          · exact zup_hit
        · obtain ⟨v1, v2, v3⟩ := hV w (by omega) hfw
          refine ⟨?_, ?_, ?_⟩
          · rw [zup_ro (by omega), zup_ro (by omega), zup_nk e, zup_ro (by omega), ai 1 (by omega)]; exact v1
          · rw [zup_ro (by omega), zup_nk e, zup_ro (by omega), zup_ro (by omega), ai 3 (by omega)]; exact v2
          · rw [zup_nk e, zup_ro (by omega), zup_ro (by omega), zup_ro (by omega), ai 4 (by omega)]; exact v3
      · rw [zup_ro (by omega), zup_ro (by omega), zup_ro (by omega), zup_ro (by omega), ai 2 (by omega)]
        exact hZ w hw2
/-- what a chooser has been offered -/
def CHP (M : Mu) (s N f : Nat) (val : Nat → Int) (W : Nat → Int) : Prop := ∃ O : Nat, O < 4096 ∧ (∀ w, O.testBit w = (decide (w < N) && !f.testBit w)) ∧ M (23 + 6 * s) 5 = (O : Int) ∧ (∀ w, w < N → f.testBit w = false → M (23 + 6 * s + 1) w = val w ∧ M (23 + 6 * s + 3) w = pkr (tms (W w) 8) 0 6 ∧ M (23 + 6 * s + 4) w = pkr (tms (W w) 8) 6 6) ∧ ∀ w, w < 12 → M (23 + 6 * s + 2) w = 0
theorem s_prep {z : zZ} {d s wl N f Nn : Nat} {L : Nat → Nat} {lt : Nat → Int} {Dv Dc : Nat → Row → Option Int} {μ : Mu} (hd : 8 ≤ d) (hs : s < 2) (hw : isLw wl) (h6 : μ 0 6 = (wl : Int) + 1) (hL : lawC wl μ Nn lt Dv Dc) (hv : dep10 Dv) (hc : dep10 Dc) (h99 : r99 (μ 35)) (hn : μ (4 + 9 * s) 6 = (N : Int)) (h12 : N ≤ 12) (hf : μ (4 + 9 * s) 7 = (f : Int)) (h4 : f < 4096) (hW : ∀ w, w < N → isW (μ (4 + 9 * s + 4) w) (L w)) : ∃ R, mC z d 105 [(2, 0), (0, (s : Int))] μ = some (0, R) ∧ pcr (23 + 6 * s) wl μ R ∧ CHP R s N f (fun w => wrt Nn lt Dv Dc (μ 0 18) (s : Int) (μ 35) (μ (4 + 9 * s + 4) w) (L w)) (μ (4 + 9 * s + 4)) := by
  obtain ⟨e, rfl, he⟩ := pred_of (k := 7) hd
  have hH : isH (23 + 6 * s) := by unfold isH; omega
  have hwo : wl ≠ 23 + 6 * s ∧ wl ≠ 23 + 6 * s + 2 := by rcases hw with h | h <;> omega
  have hP : pcr (23 + 6 * s) wl μ (zrow (zup μ (23 + 6 * s) 5 0) (23 + 6 * s + 2) (fil (μ (23 + 6 * s + 2)) 0 12)) := ⟨fun a _ _ _ q4 _ q6 _ _ => by rw [zrow_ne q6, zup_ro q4], fun k _ _ => by rw [zrow_ne hwo.2, zup_ro hwo.1], fun k q => by rw [zrow_ne (by omega), zup_nk q]⟩
  obtain ⟨R, r1, r2, r3, r4, r5⟩ := s_prep1 (z := z) (e := e) he hs hw h6 hL hv hc h99 hn h12 hf h4 hW N 0 _ (by omega) hP (by rw [zrow_ne (by omega)]; exact zup_hit) (fun w h => by omega) (fun w h => by rw [zrow_same]; unfold fil; rw [if_pos h])
  have hlt := bset_lt (fun w => !f.testBit w) N
  refine ⟨R, ?_, r2, bset (fun w => !f.testBit w) N, f4096 hlt h12, fun w => bset_bit _ N w, r3, r4, r5⟩
  rw [c_W_prepareChooser _ _ _ _ (by omega), Int.toNat_natCast, s_clear (by omega) hH]
  simp -implicitDefEqProofs only [ob]
  exact r1
/-- the best set, with a floor -/
noncomputable def bsT (N f : Nat) (val : Nat → Int) (W : Nat → Int) (room : Nat) (st : Nat → Int) (fl : Int) : Int × Nat := scn (gT val (fun w => decide (w < N) && !f.testBit w) (fun _ => 0) (fun w => tms (W w) 8) room st 0 0 12) 4096 (fl, 0)
theorem s_searchBest {z : zZ} {d s N f : Nat} {come gone fl : Int} {val W : Nat → Int} {μ : Mu} (hd : 17 ≤ d) (hs : s < 2) (hf : μ (4 + 9 * s) 7 = (f : Int)) (h4 : f < 4096) (h6 : cnt f.testBit 12 ≤ 6) (hh : hr (μ (4 + 9 * s + 3))) (hC : CHP μ s N f val W) (hval : ∀ w, 0 ≤ val w ∧ val w ≤ 9999) : ∃ M, mC z d 109 [(2, 0), (0, (s : Int)), (0, come), (0, gone), (0, fl)] μ = some ((bsT N f val W (6 - cnt f.testBit 12) (stq (μ (4 + 9 * s + 3)) come gone) fl).1, M) ∧ M (23 + 6 * s) 7 = (bsT N f val W (6 - cnt f.testBit 12) (stq (μ (4 + 9 * s + 3)) come gone) fl).1 ∧ M (23 + 6 * s) 8 = (((bsT N f val W (6 - cnt f.testBit 12) (stq (μ (4 + 9 * s + 3)) come gone) fl).2 : Nat) : Int) ∧ (∀ a, a ≠ 23 + 6 * s → a ≠ 23 + 6 * s + 5 → M a = μ a) ∧ ∀ k, k ≠ 6 → k ≠ 7 → k ≠ 8 → M (23 + 6 * s) k = μ (23 + 6 * s) k := by
  obtain ⟨e, rfl, he⟩ := pred_of (k := 16) hd
  have hH : isH (23 + 6 * s) := by unfold isH; omega
  have hia : iar (4 + 9 * s + 3) 36 := by
    have hs2 : s = 0 ∨ s = 1 := by omega
    rcases hs2 with h | h
    · subst h; exact (show iar 7 36 from ⟨⟨by omega, rfl⟩, rfl⟩)
    · subst h; exact (show iar 16 36 from ⟨⟨by omega, rfl⟩, rfl⟩)
  obtain ⟨O, o1, o2, o3, o4, o5⟩ := hC
  have hus : (fun w => O.testBit w) = (fun w => decide (w < N) && !f.testBit w) := funext o2
  have hS := s_search (z := z) (d := e) (o := 23 + 6 * s) (O := O) (room := 6 - cnt f.testBit 12) (fl := fl) (val := val) (cl := fun _ => 0) (nd := fun w => tms (W w) 8) (st := stq (μ (4 + 9 * s + 3)) come gone) (μ := μ) he hH o3 o1 (fun w hw hu => by
    rw [o2 w, Bool.and_eq_true] at hu
    have hu2 : f.testBit w = false := by simpa using hu.2
    obtain ⟨q1, q2, q3⟩ := o4 w (of_decide_eq_true hu.1) hu2
    exact ⟨⟨q1, hval w⟩, ⟨by rw [o5 w hw]; rfl, by omega⟩, q2, q3⟩) (fun w x => tms_rg (W w) 8 x) (fun x hx => clq_rg _) (by omega)
  rw [hus] at hS
  obtain ⟨M, m1, m2, m3, m4, m5⟩ := hS
  refine ⟨M, ?_, m2, m3, m4, m5⟩
  rw [c_W_searchBest _ _ _ _ _ _ _ (by omega), Int.toNat_natCast, s_pack0 (by omega) hia hh]
  simp -implicitDefEqProofs only [ob]
  rw [s_pack6 (by omega) hia hh]
  simp -implicitDefEqProofs only [ob]
  rw [s_room (by omega) (o9 hs) hf h4]
  simp -implicitDefEqProofs only [ob]
  rw [show (6 : Int) - ((cnt f.testBit 12 : Nat) : Int) = ((6 - cnt f.testBit 12 : Nat) : Int) by omega, m1]
  simp -implicitDefEqProofs only [ob]
  rfl
