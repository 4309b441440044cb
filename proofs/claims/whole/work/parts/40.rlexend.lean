/-! the reference takes a new lexicon -/
theorem zi96 {s l : Nat} (hs : s < 100) (hl : l < 1000) : zw (zw (96 * (s : Int)) + (l : Int)) = ((96 * s + l : Nat) : Int) := by
  rw [zw_id (x := 96 * (s : Int)) (by omega) (by omega), zw_id (by omega) (by omega)]; omega
theorem t_isInNew {z : zZ} {d s w N m : Nat} {W V : Row} {L L' : Nat → Nat} {μ : Mu} (hd : 2 ≤ d) (hs : s < 2) (hx : lexR μ s N W L) (hw : w < N) (h22 : μ 86 22 = (m : Int)) (hm : m ≤ 12) (hv : newR μ m V L') : mC z d 200 [(2, 86), (0, (s : Int)), (0, (w : Int))] μ = some (bi (decide (fst1 (fun v => decide (V v = W w)) m ≠ -1)), μ) := by
  obtain ⟨e, rfl, he⟩ := pred_of hd
  obtain ⟨g1, g2, g3⟩ := hx.2.2 w hw
  have g4 := g3.1.2.1
  have n12 := hx.2.1
  have hstep : ∀ v, v < m → f_M_isInNew_2 z e (s : Int) (w : Int) (v : Int) μ = bif decide (V v = W w) then some (1, μ) else f_M_isInNew_2 z e (s : Int) (w : Int) ((v + 1 : Nat) : Int) μ := by
    intro v hvm
    obtain ⟨k1, k2, k3⟩ := hv v hvm
    have k4 := k3.1.2.1
    have ha := t_areAlike (z := z) (d := e) (a := 96) (la := 96) (b := 94) (lb := 192) he ia96 ia94 (by omega) (by omega) (by omega) (by omega) k3 g3
    simp -implicitDefEqProofs only [Int.cast_ofNat_Int] at ha
    rw [e_M_isInNew_2]
    simp -implicitDefEqProofs only [h22]
    rw [cF (by omega), gI_ok (by omega) (by omega), t_beginOf he hs (by omega)]
    simp -implicitDefEqProofs only [ob]
    rw [t_longOf he hs (by omega), g2]
    simp -implicitDefEqProofs only [ob]
    rw [z8 (by omega), Int.toNat_natCast, k2, ha]
    simp -implicitDefEqProofs only [ob, cB]
    cases decide (V v = W w)
    · simp -implicitDefEqProofs only [cond_false]
      rw [e_M_isInNew_47, zwc (by omega)]
    · rfl
  rw [c_M_isInNew]
  rcases fst1_sp (fun v => decide (V v = W w)) m with ⟨q1, q2⟩ | ⟨u, q1, q2, q3, q4⟩
  · rw [q1, bi_df (by simp)]
    have H := down (n := m) (P := fun v => f_M_isInNew_2 z e (s : Int) (w : Int) (v : Int) μ = some (0, μ))
      (by
        rw [e_M_isInNew_2]
        simp -implicitDefEqProofs only [h22]
        rw [cT (by omega)])
      (by
        intro v hvm ih
        rw [hstep v hvm, q2 v hvm]
        exact ih)
    exact H 0 (by omega)
  · rw [q1, bi_dt (by omega)]
    have H := down (n := u) (P := fun v => f_M_isInNew_2 z e (s : Int) (w : Int) (v : Int) μ = some (1, μ))
      (by
        rw [hstep u q2, q3]
        rfl)
      (by
        intro v hvm ih
        rw [hstep v (by omega), q4 v hvm]
        exact ih)
    exact H 0 (by omega)
theorem newR_90 {μ : Mu} {k : Nat} {h W : Row} {L : Nat → Nat} (hh : newR μ k W L) : newR (zrow μ 90 h) k W L := by
  intro w hw
  obtain ⟨g1, g2, g3⟩ := hh w hw
  exact ⟨g1, by rw [zrow_ne (by omega)]; exact g2, rwd_congr g3 (fun q _ => by rw [zrow_ne (by omega)])⟩
def shf (h g : Row) (b n : Nat) : Row := fun j => if b ≤ j ∧ j < b + n then h (j - b) else g j
theorem shf_step (h g : Row) (b k : Nat) : rup (shf h g b k) (b + k) (h k) = shf h g b (k + 1) := by
  funext j
  unfold rup shf
  by_cases h1 : j = b + k
  · rw [if_pos h1, if_pos (by omega), show j - b = k by omega]
  · rw [if_neg h1]
    by_cases h2 : b ≤ j ∧ j < b + k
    · rw [if_pos h2, if_pos (by omega)]
    · rw [if_neg h2, if_neg (by omega)]
theorem shf_0 (h g : Row) (b : Nat) : shf h g b 0 = g := by
  funext j
  unfold shf
  rw [if_neg (by omega)]
theorem t_lexend {z : zZ} {e s N m f : Nat} {W V : Row} {L L' : Nat → Nat} {μ : Mu} (he : 4 ≤ e) (hs : s < 2) (hx : lexR μ s N W L) (h22 : μ 86 22 = (m : Int)) (hm : m ≤ 12) (hv : newR μ m V L') (hf : μ 86 (16 + s) = (f : Int)) (h4 : f < 4096) (hh : hr (μ 90)) : ∃ μ', f_M_lexicon_88 z e (s : Int) 1 μ = some ((m : Int), μ') ∧ μ' 90 = hmW (μ 90) f W V m (12 * s) N ∧ μ' 94 = shf (μ 96) (μ 94) (96 * s) 96 ∧ μ' 95 = shf (μ 97) (μ 95) (12 * s) 12 ∧ μ' 86 = rup (rup (rup (μ 86) 9 0) (14 + s) (m : Int)) (16 + s) ((nwF f W V N m : Nat) : Int) ∧ ∀ a, a ≠ 86 → a ≠ 90 → a ≠ 94 → a ≠ 95 → μ' a = μ a := by
  have n12 := hx.2.1
  rw [e_M_lexicon_88, nF (by omega)]
  generalize hA : zup μ 86 9 0 = A
  have a86 : A 86 = rup (μ 86) 9 0 := by rw [← hA, zupr, zrow_same]
  have ar : ∀ a, a ≠ 86 → A a = μ a := fun a h => by rw [← hA, zup_ro h]
  have axR : lexR A s N W L := by
    obtain ⟨h1, h2, h3⟩ := hx
    refine ⟨by rw [a86, rup_ne (by omega)]; exact h1, h2, fun w hw => ?_⟩
    obtain ⟨g1, g2, g3⟩ := h3 w hw
    exact ⟨g1, by rw [ar _ (by omega)]; exact g2, rwd_congr g3 (fun q _ => by rw [ar _ (by omega)])⟩
  have av : newR A m V L' := by rw [← hA]; exact newR_86 hv
  have af : A 86 (16 + s) = (f : Int) := by rw [a86, rup_ne (by omega)]; exact hf
  have a22 : A 86 22 = (m : Int) := by rw [a86, rup_ne (by omega)]; exact h22
  have ah : hr (A 90) := by rw [ar _ (by omega)]; exact hh

  have H1 := down (n := N) (P := fun w => f_M_lexicon_108 z e (s : Int) 0 (w : Int) (zrow A 90 (hmW (A 90) f W V m (12 * s) w)) = f_M_lexicon_172 z e (s : Int) 0 0 (zrow A 90 (hmW (A 90) f W V m (12 * s) N)))
    (by
      rw [e_M_lexicon_108, t_manyOf (by omega) hs, zrow_ne (by omega), axR.1]
      simp -implicitDefEqProofs only [ob]
      rw [cT (by omega)])
    (by
      intro w hw ih
      obtain ⟨g1, g2, g3⟩ := axR.2.2 w hw
      have g4 := g3.1.2.1
      have x90 := lexR_90 (h := hmW (A 90) f W V m (12 * s) w) axR
      rw [e_M_lexicon_108, t_manyOf (by omega) hs, zrow_ne (by omega), axR.1]
      simp -implicitDefEqProofs only [ob]
      rw [cF (by omega), t_fieldOf (by omega) hs, zrow_ne (by omega), af]
      simp -implicitDefEqProofs only [ob]
      rw [t_has (by omega) (by omega) (by omega)]
      simp -implicitDefEqProofs only [ob, cB]
      cases hb : f.testBit w
      · simp -implicitDefEqProofs only [cond_false]
        rw [e_M_lexicon_163, zwc (by omega)]
        have e1 : hmW (A 90) f W V m (12 * s) (w + 1) = hmW (A 90) f W V m (12 * s) w := by
          show (if _ then _ else _) = _
          rw [if_neg (by simp [hb])]
        rw [e1] at ih
        exact ih
      · simp -implicitDefEqProofs only [cond_true]
        rw [t_isInNew (by omega) hs x90 hw (by rw [zrow_ne (by omega)]; exact a22) hm (newR_90 av)]
        simp -implicitDefEqProofs only [ob, nB]
        by_cases hc : fst1 (fun v => decide (V v = W w)) m = -1
        · have e2 : decide (fst1 (fun v => decide (V v = W w)) m ≠ -1) = false := by simp [hc]
          rw [e2]
          simp -implicitDefEqProofs only [cond_false]
          rw [t_beginOf (by omega) hs (by omega)]
          simp -implicitDefEqProofs only [ob]
          rw [t_longOf (by omega) hs (by omega), zrow_ne (by omega), g2]
          simp -implicitDefEqProofs only [ob]
          have hg := t_goesHome (z := z) (d := e) (μ := zrow A 90 (hmW (A 90) f W V m (12 * s) w)) (by omega) hs ia94 (by omega) (by omega) (by omega) (x90.2.2 w hw).2.2 (by rw [zrow_same]; exact hr_hmW ah w)
          simp -implicitDefEqProofs only [Int.cast_ofNat_Int, zrow_same, zrow_zrow] at hg
          rw [hg]
          simp -implicitDefEqProofs only [ob]
          rw [e_M_lexicon_163, zwc (by omega)]
          have e1 : hmW (A 90) f W V m (12 * s) (w + 1) = homeB (hmW (A 90) f W V m (12 * s) w) (12 * s) (W w) (L w) := by
            show (if _ then _ else _) = _
            rw [if_pos ⟨hb, hc⟩, homeB_ext g3.1]
          rw [e1] at ih
          exact ih
        · have e2 : decide (fst1 (fun v => decide (V v = W w)) m ≠ -1) = true := by simp [hc]
          rw [e2]
          simp -implicitDefEqProofs only [cond_true]
          rw [e_M_lexicon_163, zwc (by omega)]
          have e1 : hmW (A 90) f W V m (12 * s) (w + 1) = hmW (A 90) f W V m (12 * s) w := by
            show (if _ then _ else _) = _
            rw [if_neg (fun h => hc h.2)]
          rw [e1] at ih
          exact ih)
  have H1' := H1 0 (by omega)
  have e0 : zrow A 90 (hmW (A 90) f W V m (12 * s) 0) = A := zrow_id
  rw [e0] at H1'
  simp -implicitDefEqProofs only [Int.natCast_zero] at H1'
  rw [H1']
  generalize hB : zrow A 90 (hmW (A 90) f W V m (12 * s) N) = B
  have br : ∀ a, a ≠ 90 → B a = A a := fun a h => by rw [← hB, zrow_ne h]
  have bx : lexR B s N W L := by rw [← hB]; exact lexR_90 axR
  have bv : newR B m V L' := by rw [← hB]; exact newR_90 av
  have bf : B 86 (16 + s) = (f : Int) := by rw [br _ (by omega)]; exact af
  have b22 : B 86 22 = (m : Int) := by rw [br _ (by omega)]; exact a22

  have H2 := down (n := m) (P := fun v => f_M_lexicon_172 z e (s : Int) ((nwF f W V N v : Nat) : Int) (v : Int) B = f_M_lexicon_241 z e (s : Int) ((nwF f W V N m : Nat) : Int) 0 B)
    (by
      rw [e_M_lexicon_172]
      simp -implicitDefEqProofs only [b22]
      rw [cT (by omega)])
    (by
      intro v hvm ih
      obtain ⟨k1, k2, k3⟩ := bv v hvm
      have k4 := k3.1.2.1
      have hlt : nwF f W V N v < 2 ^ v := bset_lt _ v
      have hp : 2 ^ v ≤ 2 ^ 12 := Nat.pow_le_pow_right (by omega) (by omega)
      have hw := t_wordIn (z := z) (d := e) (by omega) hs bx ia96 (by omega) (by omega) k3
      simp -implicitDefEqProofs only [Int.cast_ofNat_Int] at hw
      rw [e_M_lexicon_172]
      simp -implicitDefEqProofs only [b22]
      rw [cF (by omega), gI_ok (by omega) (by omega), z8 (by omega), Int.toNat_natCast, k2, hw]
      simp -implicitDefEqProofs only [ob]
      have hstay : ∀ (p : Bool), (decide (fst1 (fun w => decide (W w = V v)) N ≠ -1) && f.testBit (fst1 (fun w => decide (W w = V v)) N).toNat) = p → nwF f W V N (v + 1) = nwF f W V N v ||| (if p = true then 2 ^ v else 0) := by
        intro p hpp
        rw [← hpp]
        rfl
      rcases fst1_sp (fun w => decide (W w = V v)) N with ⟨g1, g2⟩ | ⟨u, g1, g2, g3, g4⟩
      · have e1 := hstay false (by rw [g1]; simp)
        simp only [Bool.false_eq_true, if_false, Nat.or_zero] at e1
        rw [g1, cT rfl, e_M_lexicon_232, zwc (by omega)]
        rw [e1] at ih
        exact ih
      · rw [g1, cF (by omega), t_fieldOf (by omega) hs, bf]
        simp -implicitDefEqProofs only [ob]
        rw [t_has (by omega) (by omega) (by omega)]
        simp -implicitDefEqProofs only [ob, cB]
        cases hb : f.testBit u
        · have e1 := hstay false (by rw [g1, Int.toNat_natCast, hb]; simp)
          simp only [Bool.false_eq_true, if_false, Nat.or_zero] at e1
          simp -implicitDefEqProofs only [cond_false]
          rw [e_M_lexicon_232, zwc (by omega)]
          rw [e1] at ih
          exact ih
        · have e1 := hstay true (by rw [g1, Int.toNat_natCast, hb]; simp)
          simp only [if_true] at e1
          simp -implicitDefEqProofs only [cond_true]
          rw [e_M_lexicon_232, zwc (by omega), s_or1 (by omega) (by omega)]
          rw [e1] at ih
          exact ih)
  have H2' := H2 0 (by omega)
  have e00 : ((nwF f W V N 0 : Nat) : Int) = 0 := rfl
  rw [e00] at H2'
  simp -implicitDefEqProofs only [Int.natCast_zero] at H2'
  rw [H2']
  generalize hF : nwF f W V N m = F

  have H3 := down (n := 96) (P := fun k => f_M_lexicon_241 z e (s : Int) (F : Int) (k : Int) (zrow B 94 (shf (B 96) (B 94) (96 * s) k)) = f_M_lexicon_276 z e (s : Int) (F : Int) 0 (zrow B 94 (shf (B 96) (B 94) (96 * s) 96)))
    (by rw [e_M_lexicon_241, cT (by omega)])
    (by
      intro k hk ih
      rw [e_M_lexicon_241, cF (by omega), gI_ok (by omega) (by omega), zi96 (by omega) (by omega), gI_ok (by omega) (by omega)]
      simp -implicitDefEqProofs only [Int.toNat_natCast]
      rw [zwc (by omega), zrow_ne (a := 94) (b := 96) (by omega), zupr, zrow_same, zrow_zrow, shf_step]
      exact ih)
  have H3' := H3 0 (by omega)
  rw [shf_0, zrow_id] at H3'
  simp -implicitDefEqProofs only [Int.natCast_zero] at H3'
  rw [H3']
  generalize hC : zrow B 94 (shf (B 96) (B 94) (96 * s) 96) = C
  have cr : ∀ a, a ≠ 94 → C a = B a := fun a h => by rw [← hC, zrow_ne h]
  have c94 : C 94 = shf (μ 96) (μ 94) (96 * s) 96 := by rw [← hC, zrow_same, br _ (by omega), br _ (by omega), ar _ (by omega), ar _ (by omega)]
  have H4 := down (n := 12) (P := fun k => f_M_lexicon_276 z e (s : Int) (F : Int) (k : Int) (zrow C 95 (shf (C 97) (C 95) (12 * s) k)) = f_M_lexicon_331 z e (s : Int) (F : Int) (zup (zrow C 95 (shf (C 97) (C 95) (12 * s) 12)) 86 (14 + s) (m : Int)))
    (by
      have q22 : zrow C 95 (shf (C 97) (C 95) (12 * s) 12) 86 22 = (m : Int) := by rw [zrow_ne (by omega), cr _ (by omega)]; exact b22
      rw [e_M_lexicon_276, cT (by omega), q22]
      by_cases h0 : s = 0
      · subst h0; rw [nT (by omega)]
      · have h1 : s = 1 := by omega
        subst h1; rw [nF (by omega)])
    (by
      intro k hk ih
      rw [e_M_lexicon_276, cF (by omega), gI_ok (by omega) (by omega), zi12 (by omega) (by omega), gI_ok (by omega) (by omega)]
      simp -implicitDefEqProofs only [Int.toNat_natCast]
      rw [zwc (by omega), zrow_ne (a := 95) (b := 97) (by omega), zupr, zrow_same, zrow_zrow, shf_step]
      exact ih)
  have H4' := H4 0 (by omega)
  rw [shf_0, zrow_id] at H4'
  simp -implicitDefEqProofs only [Int.natCast_zero] at H4'
  rw [H4', e_M_lexicon_331, t_setField (by omega) hs]
  simp -implicitDefEqProofs only [ob]
  refine ⟨zup (zup (zrow C 95 (shf (C 97) (C 95) (12 * s) 12)) 86 (14 + s) (m : Int)) 86 (16 + s) (F : Int), ?_, ?_, ?_, ?_, ?_, ?_⟩
  · congr 2
    rw [zup_nk (by omega), zup_nk (by omega), zrow_ne (by omega), cr _ (by omega)]
    exact b22
  · rw [zup_ro (by omega), zup_ro (by omega), zrow_ne (by omega), cr _ (by omega), ← hB, zrow_same, ar _ (by omega)]
  · rw [zup_ro (by omega), zup_ro (by omega), zrow_ne (by omega), c94]
  · rw [zup_ro (by omega), zup_ro (by omega), zrow_same, cr _ (by omega), cr _ (by omega), br _ (by omega), br _ (by omega), ar _ (by omega), ar _ (by omega)]
  · rw [zupr, zrow_same, zupr, zrow_same, zrow_ne (by omega), cr _ (by omega), br _ (by omega), a86]
  · intro a h1 h2 h3 h5
    rw [zup_ro h1, zup_ro h1, zrow_ne h5, cr _ h3, br _ h2, ar _ h1]
