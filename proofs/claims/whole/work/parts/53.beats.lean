/-! who beats whom; places; words alike; the line of the dead -/
def foc (c e : Int) (r0 r1 : Row) : Int := if ahd c e r1 = ahd e c r0 then 0 else if ahd c e r1 = true then 1 else -1
theorem bi_inj {a b : Bool} : bi a = bi b ↔ a = b := by cases a <;> cases b <;> simp [bi]
theorem s_outcome {z : zZ} {d : Nat} {c e : Int} {μ : Mu} (hd : 4 ≤ d) (h0 : rkr (μ 6)) (h1 : rkr (μ 15)) : mC z d 102 [(2, 0), (0, c), (0, e)] μ = some (foc c e (μ 6) (μ 15), μ) := by
  obtain ⟨e', rfl, he⟩ := pred_of hd
  have q1 := s_isAhead (z := z) (d := e') (o := 13) (c := c) (e := e) (μ := μ) he (Or.inr rfl) h1
  have q2 := s_isAhead (z := z) (d := e') (o := 4) (c := e) (e := c) (μ := μ) he (Or.inl rfl) h0
  simp -implicitDefEqProofs only [Int.cast_ofNat_Int] at q1 q2
  rw [c_W_outcome, q1]
  simp -implicitDefEqProofs only [ob]
  rw [q2]
  simp -implicitDefEqProofs only [ob]
  show (bif !decide (bi (ahd c e (μ 15)) = bi (ahd e c (μ 6))) then _ else _) = _
  unfold foc
  by_cases h : ahd c e (μ 15) = ahd e c (μ 6)
  · rw [nT (bi_inj.mpr h), if_pos h]
  · rw [nF (fun hh => h (bi_inj.mp hh)), if_neg h]
    rw [e_W_outcome_33, cB]
    cases ahd c e (μ 15)
    · rw [if_neg (by decide)]
      exact e_W_outcome_42 _ _ _ _
    · rw [if_pos rfl]
      exact e_W_outcome_42 _ _ _ _
theorem t_fightOf {z : zZ} {d w v N N' : Nat} {W W' r0 r1 : Row} {L L' : Nat → Nat} {μ : Mu} (hd : 3 ≤ d) (hx : lexR μ 0 N W L) (hx' : lexR μ 1 N' W' L') (hw : w < N) (hv : v < N') (h0 : rkr r0) (h1 : rkr r1) (hr0 : ∀ k, k < 12 → μ 89 k = r0 k) (hr1 : ∀ k, k < 12 → μ 89 (12 + k) = r1 k) : mC z d 260 [(2, 86), (0, (w : Int)), (0, (v : Int))] μ = some (foc (W w) (W' v) r0 r1, μ) := by
  obtain ⟨e', rfl, he⟩ := pred_of hd
  have q1 := t_isBeating (z := z) (d := e') (s := 0) (w := w) (v := v) he (by omega) hx hx' hw hv h1 hr1
  have q2 := t_isBeating (z := z) (d := e') (s := 1) (w := v) (v := w) he (by omega) hx' hx hv hw h0 (fun k hk => by rw [← hr0 k hk]; congr 1; omega)
  simp -implicitDefEqProofs only [Int.natCast_zero, Int.natCast_one] at q1 q2
  rw [c_M_fightOf, q1]
  simp -implicitDefEqProofs only [ob]
  rw [q2]
  simp -implicitDefEqProofs only [ob]
  unfold foc
  by_cases h : ahd (W w) (W' v) r1 = ahd (W' v) (W w) r0
  · rw [nT (bi_inj.mpr h), if_pos h, e_M_fightOf_36]
  · rw [nF (fun hh => h (bi_inj.mp hh)), if_neg h, e_M_fightOf_27]
    rw [cB]
    cases ahd (W w) (W' v) r1
    · rw [if_neg (by decide)]
      exact e_M_fightOf_36 _ _ _ _
    · rw [if_pos rfl]
      exact e_M_fightOf_36 _ _ _ _
/-- how many words stand ahead of one -/
theorem s_place {z : zZ} {e o o5 n w : Nat} {μ : Mu} (he : 3 ≤ e) (ho : o = 4 ∨ o = 13) (ho5 : o5 = 4 ∨ o5 = 13) (hn : μ o 6 = (n : Int)) (h12 : n ≤ 12) (hw : w < n) (hr : rkr (μ (o5 + 2))) : f_W_place_56 z e (w : Int) o o5 μ = some (((cnt (fun i => ahd (μ (o + 4) i) (μ (o + 4) w) (μ (o5 + 2))) n : Nat) : Int), μ) := by
  rw [e_W_place_56 _ _ _ _ _ _ ho ho5]
  have H := down (n := n) (P := fun k => f_W_place_64 z e (w : Int) o o5 ((cnt (fun i => ahd (μ (o + 4) i) (μ (o + 4) w) (μ (o5 + 2))) k : Nat) : Int) (k : Int) μ = some (((cnt (fun i => ahd (μ (o + 4) i) (μ (o + 4) w) (μ (o5 + 2))) n : Nat) : Int), μ))
    (by rw [e_W_place_64 _ _ _ _ _ _ _ _ ho ho5, hn, cT (by omega)])
    (by
      intro k hk ih
      have hc := cnt_le (fun i => ahd (μ (o + 4) i) (μ (o + 4) w) (μ (o5 + 2))) k
      rw [e_W_place_64 _ _ _ _ _ _ _ _ ho ho5, hn, cF (by omega), gI_ok (by omega) (by omega), gI_ok (by omega) (by omega), Int.toNat_natCast, Int.toNat_natCast, s_isAhead he ho5 hr]
      simp -implicitDefEqProofs only [ob, cB]
      cases hb : ahd (μ (o + 4) k) (μ (o + 4) w) (μ (o5 + 2))
      · simp -implicitDefEqProofs only [cond_false]
        rw [e_W_place_100 _ _ _ _ _ _ _ _ ho ho5, zwc (by omega)]
        simpa [cnt, hb] using ih
      · simp -implicitDefEqProofs only [cond_true]
        rw [e_W_place_100 _ _ _ _ _ _ _ _ ho ho5, zwc (by omega), zwc (by omega)]
        simpa [cnt, hb] using ih)
  exact H 0 (by omega)
theorem t_place {z : zZ} {e s s5 N w : Nat} {W r : Row} {L : Nat → Nat} {μ : Mu} (he : 1 ≤ e) (hs : s < 2) (hs5 : s5 < 2) (hx : lexR μ s N W L) (hw : w < N) (hr : rkr r) (hrr : ∀ k, k < 12 → μ 89 (12 * s5 + k) = r k) : f_M_place_31 z e (s : Int) (w : Int) (s5 : Int) μ = some (((cnt (fun i => ahd (W i) (W w) r) N : Nat) : Int), μ) := by
  have n12 := hx.2.1
  obtain ⟨g1, g2, g3⟩ := hx.2.2 w hw
  have g4 := g3.1.2.1
  rw [e_M_place_31]
  have H := down (n := N) (P := fun k => f_M_place_39 z e (s : Int) (w : Int) (s5 : Int) ((cnt (fun i => ahd (W i) (W w) r) k : Nat) : Int) (k : Int) μ = some (((cnt (fun i => ahd (W i) (W w) r) N : Nat) : Int), μ))
    (by
      rw [e_M_place_39, t_manyOf he hs, hx.1]
      simp -implicitDefEqProofs only [ob]
      rw [cT (by omega)])
    (by
      intro k hk ih
      obtain ⟨k1, k2, k3⟩ := hx.2.2 k hk
      have k4 := k3.1.2.1
      have hc := cnt_le (fun i => ahd (W i) (W w) r) k
      rw [e_M_place_39, t_manyOf he hs, hx.1]
      simp -implicitDefEqProofs only [ob]
      rw [cF (by omega), t_beginOf he hs (by omega)]
      simp -implicitDefEqProofs only [ob]
      rw [t_longOf he hs (by omega), k2]
      simp -implicitDefEqProofs only [ob]
      rw [t_beginOf he hs (by omega)]
      simp -implicitDefEqProofs only [ob]
      rw [t_longOf he hs (by omega), g2]
      simp -implicitDefEqProofs only [ob]
      obtain ⟨v', q1, q2⟩ := t_compare (z := z) (d := e) (s := s5) he hs5 ia94 ia94 (by omega) (by omega) (by omega) (by omega) k3 g3 hr hrr
      simp -implicitDefEqProofs only [Int.cast_ofNat_Int] at q1
      rw [q1]
      simp -implicitDefEqProofs only [ob]
      by_cases h : v' < 0
      · have hb := q2.mp h
        rw [cF (by omega), e_M_place_97, zwc (by omega), zwc (by omega)]
        simpa [cnt, hb] using ih
      · have hb : ahd (W k) (W w) r = false := by
          cases hq : ahd (W k) (W w) r
          · rfl
          · exact absurd (q2.mpr hq) h
        rw [cT (by omega), e_M_place_96, e_M_place_97, Int.add_zero, zw_id (by omega) (by omega), zwc (by omega)]
        simpa [cnt, hb] using ih)
  exact H 0 (by omega)
/-- words of one length: how many letters are unlike -/
theorem t_unlike {z : zZ} {d s w v N : Nat} {W : Row} {L : Nat → Nat} {μ : Mu} (hd : 2 ≤ d) (hs : s < 2) (hx : lexR μ s N W L) (hw : w < N) (hv : v < N) : mC z d 279 [(2, 86), (0, (s : Int)), (0, (w : Int)), (0, (v : Int))] μ = some (if L w = L v then ((cnt (fun k => decide (nib (W w) k ≠ nib (W v) k)) 8 : Nat) : Int) else 1000000000, μ) := by
  obtain ⟨e, rfl, he⟩ := pred_of hd
  obtain ⟨g1, g2, g3⟩ := hx.2.2 w hw
  obtain ⟨k1, k2, k3⟩ := hx.2.2 v hv
  have g4 := g3.1.2.1
  have k4 := k3.1.2.1
  have n12 := hx.2.1
  rw [c_M_unlike, t_longOf he hs (by omega), g2]
  simp -implicitDefEqProofs only [ob]
  rw [t_longOf he hs (by omega), k2]
  simp -implicitDefEqProofs only [ob]
  by_cases hL : L w = L v
  · rw [cT (by omega), if_pos hL, cnt_ext g4 (fun k hk => by
      rw [g3.1.2.2.2 k hk, k3.1.2.2.2 k (by omega)]
      simp)]
    have H := down (n := L w) (P := fun k => f_M_unlike_25 z e (s : Int) (w : Int) (v : Int) ((cnt (fun k => decide (nib (W w) k ≠ nib (W v) k)) k : Nat) : Int) (k : Int) μ = some (((cnt (fun k => decide (nib (W w) k ≠ nib (W v) k)) (L w) : Nat) : Int), μ))
      (by
        rw [e_M_unlike_25, t_longOf he hs (by omega), g2]
        simp -implicitDefEqProofs only [ob]
        rw [cT (by omega)])
      (by
        intro k hk ih
        have hc := cnt_le (fun k => decide (nib (W w) k ≠ nib (W v) k)) k
        rw [e_M_unlike_25, t_longOf he hs (by omega), g2]
        simp -implicitDefEqProofs only [ob]
        rw [cF (by omega), t_beginOf he hs (by omega)]
        simp -implicitDefEqProofs only [ob]
        rw [zwa (by omega), gI_ok (by omega) (by omega), t_beginOf he hs (by omega)]
        simp -implicitDefEqProofs only [ob]
        rw [zwa (by omega), gI_ok (by omega) (by omega)]
        simp -implicitDefEqProofs only [Int.toNat_natCast, g3.2 k hk, k3.2 k (by omega)]
        by_cases h : nib (W w) k = nib (W v) k
        · rw [nT (by omega), e_M_unlike_72, Int.add_zero, zw_id (by omega) (by omega), zwc (by omega)]
          simpa [cnt, h] using ih
        · rw [nF (by omega), e_M_unlike_71, e_M_unlike_72, zwc (by omega), zwc (by omega)]
          simpa [cnt, h] using ih)
    exact H 0 (by omega)
  · rw [cF (by omega), if_neg hL]
def nrB (W : Row) (L : Nat → Nat) (w a b : Nat) (v : Nat) : Bool := decide (L w = L v) && decide (a ≤ cnt (fun k => decide (nib (W w) k ≠ nib (W v) k)) 8 ∧ cnt (fun k => decide (nib (W w) k ≠ nib (W v) k)) 8 ≤ b)
theorem s_nearTo {z : zZ} {d o n w a b : Nat} {L : Nat → Nat} {μ : Mu} (hd : 3 ≤ d) (ho : o = 4 ∨ o = 13) (hn : μ o 6 = (n : Int)) (h12 : n ≤ 12) (hw : w < n) (hW : ∀ v, v < n → isW (μ (o + 4) v) (L v)) : mC z d 135 [(2, (o : Int)), (0, (w : Int)), (0, (a : Int)), (0, (b : Int))] μ = some (((bset (nrB (μ (o + 4)) L w a b) n : Nat) : Int), μ) := by
  obtain ⟨e, rfl, he⟩ := pred_of hd
  rw [c_Army_nearTo _ _ _ _ _ _ _ ho]
  have H := down (n := n) (P := fun k => f_Army_nearTo_6 z e o (w : Int) (a : Int) (b : Int) ((bset (nrB (μ (o + 4)) L w a b) k : Nat) : Int) (k : Int) μ = some (((bset (nrB (μ (o + 4)) L w a b) n : Nat) : Int), μ))
    (by rw [e_Army_nearTo_6 _ _ _ _ _ _ _ _ _ ho, hn, cT (by omega)])
    (by
      intro k hk ih
      have hlt := bset_lt (nrB (μ (o + 4)) L w a b) k
      have h2 : 2 ^ k ≤ 2 ^ 12 := Nat.pow_le_pow_right (by omega) (by omega)
      rw [e_Army_nearTo_6 _ _ _ _ _ _ _ _ _ ho, hn, cF (by omega), gI_ok (by omega) (by omega), gI_ok (by omega) (by omega), Int.toNat_natCast, Int.toNat_natCast, s_unlike he]
      simp -implicitDefEqProofs only [ob]
      rw [gI_ok (by omega) (by omega), s_sizeOf he (hW w hw)]
      simp -implicitDefEqProofs only [ob]
      rw [gI_ok (by omega) (by omega), s_sizeOf he (hW k hk)]
      simp -implicitDefEqProofs only [ob]
      have hno : nrB (μ (o + 4)) L w a b k = false → f_Army_nearTo_88 z e o (w : Int) (a : Int) (b : Int) ((bset (nrB (μ (o + 4)) L w a b) k : Nat) : Int) (k : Int) μ = some (((bset (nrB (μ (o + 4)) L w a b) n : Nat) : Int), μ) := by
        intro h
        rw [e_Army_nearTo_88 _ _ _ _ _ _ _ _ _ ho, zwc (by omega)]
        simpa [bset, h] using ih
      by_cases hL : L w = L k
      · rw [nT (by omega), e_Army_nearTo_60 _ _ _ _ _ _ _ _ _ _ _ ho, cF (by omega)]
        by_cases h1 : a ≤ cnt (fun j => decide (nib (μ (o + 4) w) j ≠ nib (μ (o + 4) k) j)) 8
        · rw [cF (by omega)]
          by_cases h3 : cnt (fun j => decide (nib (μ (o + 4) w) j ≠ nib (μ (o + 4) k) j)) 8 ≤ b
          · have hy : nrB (μ (o + 4)) L w a b k = true := by unfold nrB; rw [decide_eq_true hL, decide_eq_true ⟨h1, h3⟩]; rfl
            rw [cF (by omega), e_Army_nearTo_88 _ _ _ _ _ _ _ _ _ ho, zwc (by omega), s_or1 (by omega) (by omega)]
            simpa [bset, hy] using ih
          · have hy : nrB (μ (o + 4)) L w a b k = false := by unfold nrB; rw [decide_eq_false (p := _ ∧ _) (fun h => h3 h.2), Bool.and_false]
            rw [cT (by omega)]
            exact hno hy
        · have hy : nrB (μ (o + 4)) L w a b k = false := by unfold nrB; rw [decide_eq_false (p := _ ∧ _) (fun h => h1 h.1), Bool.and_false]
          rw [cT (by omega)]
          exact hno hy
      · have hy : nrB (μ (o + 4)) L w a b k = false := by unfold nrB; rw [decide_eq_false hL, Bool.false_and]
        rw [nF (by omega), e_Army_nearTo_59 _ _ _ _ _ _ _ _ _ _ ho, e_Army_nearTo_60 _ _ _ _ _ _ _ _ _ _ _ ho, cT rfl]
        exact hno hy)
  exact H 0 (by omega)
