/-! the reference keeps and brings back the words that stand -/
def cpl (g : Row) (i : Nat) (c : Int) (k : Nat) : Row := fun j => if i ≤ j ∧ j < i + k then (nib c (j - i) : Int) - 1 else g j
theorem cpl_step (g : Row) (i : Nat) (c : Int) (k : Nat) : rup (cpl g i c k) (i + k) ((nib c k : Int) - 1) = cpl g i c (k + 1) := by
  funext j
  unfold rup cpl
  by_cases h1 : j = i + k
  · rw [if_pos h1, if_pos (by omega), show j - i = k by omega]
  · rw [if_neg h1]
    by_cases h2 : i ≤ j ∧ j < i + k
    · rw [if_pos h2, if_pos (by omega)]
    · rw [if_neg h2, if_neg (by omega)]
theorem cpl_0 (g : Row) (i : Nat) (c : Int) : cpl g i c 0 = g := by
  funext j
  unfold cpl
  rw [if_neg (by omega)]
/-- k words of a side's field are kept -/
def kpS (μ M : Mu) (s f : Nat) (W : Row) (L : Nat → Nat) (w : Nat) : Prop := M 143 = rup (μ 143) s ((cnt f.testBit w : Nat) : Int) ∧ (∀ v, v < w → f.testBit v = true → M 145 (6 * s + cnt f.testBit v) = (L v : Int) ∧ rwd M 144 (8 * (6 * s + cnt f.testBit v)) (L v) (W v)) ∧ (∀ j, j < 48 * s ∨ 48 * s + 48 ≤ j → M 144 j = μ 144 j) ∧ (∀ j, j < 6 * s ∨ 6 * s + 6 ≤ j → M 145 j = μ 145 j) ∧ ∀ a, a ≠ 143 → a ≠ 144 → a ≠ 145 → M a = μ a
theorem cnt_lt {p : Nat → Bool} {v w : Nat} (h : v < w) (hv : p v = true) : cnt p v < cnt p w := by
  have := cnt_mono p (n := v + 1) (m := w) (by omega)
  rw [cnt_succ, hv] at this
  simp at this
  omega
theorem lexR_congr {μ M : Mu} {s N : Nat} {W : Row} {L : Nat → Nat} (hx : lexR μ s N W L) (h86 : M 86 = μ 86) (h94 : M 94 = μ 94) (h95 : M 95 = μ 95) : lexR M s N W L := by
  obtain ⟨h1, h2, h3⟩ := hx
  refine ⟨by rw [h86]; exact h1, h2, fun w hw => ?_⟩
  obtain ⟨g1, g2, g3⟩ := h3 w hw
  exact ⟨g1, by rw [h95]; exact g2, rwd_congr g3 (fun q _ => by rw [h94])⟩
theorem zi6 {s l : Nat} (hs : s < 100) (hl : l < 1000) : zw (zw (6 * (s : Int)) + (l : Int)) = ((6 * s + l : Nat) : Int) := by
  rw [zw_id (x := 6 * (s : Int)) (by omega) (by omega), zw_id (by omega) (by omega)]; omega
theorem zi8 {s l : Nat} (hs : s < 1000) (hl : l < 1000) : zw (zw (8 * (s : Int)) + (l : Int)) = ((8 * s + l : Nat) : Int) := by
  rw [zw_id (x := 8 * (s : Int)) (by omega) (by omega), zw_id (by omega) (by omega)]; omega
theorem t_keepsField {z : zZ} {d s N f : Nat} {W : Row} {L : Nat → Nat} {μ : Mu} (hd : 2 ≤ d) (hs : s < 2) (hx : lexR μ s N W L) (hf : μ 86 (16 + s) = (f : Int)) (h4 : f < 4096) (h6 : cnt f.testBit 12 ≤ 6) : ∃ μ', mC z d 302 [(2, 86), (0, (s : Int))] μ = some (0, μ') ∧ kpS μ μ' s f W L N := by
  obtain ⟨e, rfl, he⟩ := pred_of hd
  have n12 := hx.2.1
  have H := down (n := N) (P := fun w => ∀ M, kpS μ M s f W L w → ∃ μ', f_M_keepsField_9 z e (s : Int) (w : Int) M = some (0, μ') ∧ kpS μ μ' s f W L N)
    (by
      intro M hM
      obtain ⟨m1, m2, m3, m4, m5⟩ := hM
      refine ⟨M, ?_, m1, m2, m3, m4, m5⟩
      rw [e_M_keepsField_9, t_manyOf he hs, m5 _ (by omega) (by omega) (by omega), hx.1]
      simp -implicitDefEqProofs only [ob]
      rw [cT (by omega)])
    (by
      intro w hw ih M hM
      obtain ⟨m1, m2, m3, m4, m5⟩ := hM
      obtain ⟨g1, g2, g3⟩ := hx.2.2 w hw
      have g4 := g3.1.2.1
      have m86 := m5 86 (by omega) (by omega) (by omega)
      have m94 := m5 94 (by omega) (by omega) (by omega)
      have m95 := m5 95 (by omega) (by omega) (by omega)
      have hc12 := cnt_mono f.testBit (n := w) (m := 12) (by omega)
      rw [e_M_keepsField_9, t_manyOf he hs, m86, hx.1]
      simp -implicitDefEqProofs only [ob]
      rw [cF (by omega), t_fieldOf he hs, m86, hf]
      simp -implicitDefEqProofs only [ob]
      rw [t_has he (by omega) (by omega)]
      simp -implicitDefEqProofs only [ob, nB]
      cases hb : f.testBit w
      · simp -implicitDefEqProofs only [cond_false]
        rw [e_M_keepsField_116, zwc (by omega)]
        apply ih
        have e1 : cnt f.testBit (w + 1) = cnt f.testBit w := by rw [cnt_succ, hb]; rfl
        refine ⟨by rw [e1]; exact m1, fun v hv hbv => ?_, m3, m4, m5⟩
        by_cases e : v = w
        · subst e; rw [hb] at hbv; cases hbv
        · exact m2 v (by omega) hbv
      · simp -implicitDefEqProofs only [cond_true]
        have hlt := cnt_lt (p := f.testBit) (w := 12) (v := w) (by omega) hb
        have hq : M 143 s = ((cnt f.testBit w : Nat) : Int) := by rw [m1, rup_same]
        rw [gI_ok (by omega) (by omega), Int.toNat_natCast, hq, zi6 (by omega) (by omega)]
        generalize hat : 6 * s + cnt f.testBit w = at'
        have hat12 : at' < 12 := by omega
        have I := down (n := L w) (P := fun k => f_M_keepsField_48 z e (s : Int) (w : Int) (at' : Int) (k : Int) (zrow M 144 (cpl (M 144) (8 * at') (W w) k)) = f_M_keepsField_116 z e (s : Int) (w : Int) (zrow (zrow (zrow M 144 (cpl (M 144) (8 * at') (W w) (L w))) 145 (rup (M 145) at' (L w : Int))) 143 (rup (M 143) s ((cnt f.testBit w + 1 : Nat) : Int))))
          (by
            have hlo := t_longOf (z := z) (d := e) (s := s) (w := w) (μ := zrow M 144 (cpl (M 144) (8 * at') (W w) (L w))) he hs (by omega)
            rw [zrow_ne (by omega), m95, g2] at hlo
            rw [e_M_keepsField_48, hlo]
            simp -implicitDefEqProofs only [ob]
            rw [cT (by omega), hlo]
            simp -implicitDefEqProofs only [ob]
            rw [gI_ok (by omega) (by omega), gI_ok (by omega) (by omega), gI_ok (by omega) (by omega)]
            simp -implicitDefEqProofs only [Int.toNat_natCast]
            rw [zrow_ne (a := 144) (b := 143) (by omega), hq, zwc (by omega), zupr (a := 145), zrow_ne (a := 144) (b := 145) (by omega), zupr, zrow_ne (a := 145) (b := 143) (by omega), zrow_ne (a := 144) (b := 143) (by omega)])
          (by
            intro k hk ihk
            have hlo := t_longOf (z := z) (d := e) (s := s) (w := w) (μ := zrow M 144 (cpl (M 144) (8 * at') (W w) k)) he hs (by omega)
            rw [zrow_ne (by omega), m95, g2] at hlo
            rw [e_M_keepsField_48, hlo]
            simp -implicitDefEqProofs only [ob]
            rw [cF (by omega), t_beginOf he hs (by omega)]
            simp -implicitDefEqProofs only [ob]
            rw [zwa (by omega), gI_ok (by omega) (by omega), zi8 (by omega) (by omega), gI_ok (by omega) (by omega)]
            simp -implicitDefEqProofs only [Int.toNat_natCast]
            rw [zrow_ne (a := 144) (b := 94) (by omega), m94, g3.2 k hk, zwc (by omega), zupr, zrow_same, zrow_zrow, cpl_step]
            exact ihk)
        have I0 := I 0 (by omega)
        rw [cpl_0, zrow_id] at I0
        simp -implicitDefEqProofs only [Int.natCast_zero] at I0
        rw [I0, e_M_keepsField_116, zwc (by omega)]
        apply ih
        have e1 : cnt f.testBit (w + 1) = cnt f.testBit w + 1 := by rw [cnt_succ, hb]; rfl
        have r144 : ∀ g h : Row, zrow (zrow (zrow M 144 (cpl (M 144) (8 * at') (W w) (L w))) 145 g) 143 h 144 = cpl (M 144) (8 * at') (W w) (L w) := fun g h => by rw [zrow_ne (by omega), zrow_ne (by omega), zrow_same]
        have r145 : ∀ g h : Row, zrow (zrow (zrow M 144 (cpl (M 144) (8 * at') (W w) (L w))) 145 g) 143 h 145 = g := fun g h => by rw [zrow_ne (by omega), zrow_same]
        refine ⟨by rw [zrow_same, m1, rup_rup, e1], fun v hv hbv => ?_, fun j hj => ?_, fun j hj => ?_, fun a h1 h2 h3 => ?_⟩
        · rw [r145]
          by_cases e : v = w
          · subst e
            rw [hat, rup_same]
            refine ⟨rfl, g3.1, fun k hk => ?_⟩
            rw [r144]
            unfold cpl
            rw [if_pos (by omega), show 8 * at' + k - 8 * at' = k by omega]
          · have hvw := cnt_lt (p := f.testBit) (w := w) (v := v) (by omega) hbv
            obtain ⟨k1, k2⟩ := m2 v (by omega) hbv
            have k3 := k2.1.2.1
            refine ⟨by rw [rup_ne (by omega)]; exact k1, rwd_congr k2 (fun q hq => ?_)⟩
            rw [r144]
            unfold cpl
            rw [if_neg (by omega)]
        · rw [r144, ← m3 j hj]
          unfold cpl
          rw [if_neg (by omega)]
        · rw [r145, rup_ne (by omega), m4 j hj]
        · rw [zrow_ne h1, zrow_ne h3, zrow_ne h2, m5 a h1 h2 h3])
  rw [c_M_keepsField, gI_ok (by omega) (by omega), Int.toNat_natCast]
  apply H 0 (by omega)
  refine ⟨by rw [zupr, zrow_same]; rfl, fun v hv => by omega, fun j _ => by rw [zup_ro (by omega)], fun j _ => by rw [zup_ro (by omega)], fun a h1 _ _ => zup_ro h1⟩
theorem t_undoesField {z : zZ} {d s N m : Nat} {W st : Row} {L Lk : Nat → Nat} {μ : Mu} (hd : 4 ≤ d) (hs : s < 2) (hx : lexR μ s N W L) (hm : μ 143 s = (m : Int)) (hm6 : m ≤ 6) (hk : ∀ q, q < m → μ 145 (6 * s + q) = (Lk q : Int) ∧ rwd μ 144 (8 * (6 * s + q)) (Lk q) (st q)) (hh : hr (μ 90)) : mC z d 305 [(2, 86), (0, (s : Int))] μ = some (0, zrow (zrow μ 90 (ldH (μ 90) W st N (12 * s) m)) 86 (rup (μ 86) (16 + s) ((ldF W st N m : Nat) : Int))) := by
  obtain ⟨e, rfl, he⟩ := pred_of hd
  have n12 := hx.2.1
  rw [c_M_undoesField, t_setField (by omega) hs]
  simp -implicitDefEqProofs only [ob]
  have H := down (n := m) (P := fun i => f_M_undoesField_8 z e (s : Int) (i : Int) (zrow (zrow μ 90 (ldH (μ 90) W st N (12 * s) i)) 86 (rup (μ 86) (16 + s) ((ldF W st N i : Nat) : Int))) = some (0, zrow (zrow μ 90 (ldH (μ 90) W st N (12 * s) m)) 86 (rup (μ 86) (16 + s) ((ldF W st N m : Nat) : Int))))
    (by
      rw [e_M_undoesField_8, gI_ok (by omega) (by omega), Int.toNat_natCast, zrow_ne (by omega), zrow_ne (by omega), hm, cT (by omega)])
    (by
      intro i hi ih
      obtain ⟨k1, k2⟩ := hk i hi
      have k3 := k2.1.2.1
      have hlt := ldF_lt (W := W) (st := st) n12 i
      generalize hM : zrow (zrow μ 90 (ldH (μ 90) W st N (12 * s) i)) 86 (rup (μ 86) (16 + s) ((ldF W st N i : Nat) : Int)) = M
      have r : ∀ a, a ≠ 86 → a ≠ 90 → M a = μ a := fun a h1 h2 => by rw [← hM, zrow_ne h1, zrow_ne h2]
      have r86 : M 86 = rup (μ 86) (16 + s) ((ldF W st N i : Nat) : Int) := by rw [← hM, zrow_same]
      have r90 : M 90 = ldH (μ 90) W st N (12 * s) i := by rw [← hM, zrow_ne (by omega), zrow_same]
      have xM : lexR M s N W L := by
        obtain ⟨h1, h2, h3⟩ := hx
        refine ⟨by rw [r86, rup_ne (by omega)]; exact h1, h2, fun w hw => ?_⟩
        obtain ⟨g1, g2, g3⟩ := h3 w hw
        exact ⟨g1, by rw [r _ (by omega) (by omega)]; exact g2, rwd_congr g3 (fun q _ => by rw [r _ (by omega) (by omega)])⟩
      have kM : rwd M 144 (8 * (6 * s + i)) (Lk i) (st i) := rwd_congr k2 (fun q _ => by rw [r _ (by omega) (by omega)])
      have hw := t_wordIn (z := z) (d := e) (by omega) hs xM ia144 (by omega) (by omega) kM
      simp -implicitDefEqProofs only [Int.cast_ofNat_Int] at hw
      have m143 : M 143 s = (m : Int) := by rw [r _ (by omega) (by omega)]; exact hm
      have m145 : M 145 (6 * s + i) = (Lk i : Int) := by rw [r _ (by omega) (by omega)]; exact k1
      rw [e_M_undoesField_8, gI_ok (by omega) (by omega), Int.toNat_natCast, m143, cF (by omega), zi6 (by omega) (by omega), gI_ok (by omega) (by omega), Int.toNat_natCast, m145, z8 (by omega), hw]
      simp -implicitDefEqProofs only [ob]
      rcases fst1_sp (fun w => decide (W w = st i)) N with ⟨g1, g2⟩ | ⟨u, g1, g2, g3, g4⟩
      · have e1 : ldF W st N (i + 1) = ldF W st N i := by
          show (if _ then _ else _) = _
          rw [if_pos g1]
        have e2 : ldH (μ 90) W st N (12 * s) (i + 1) = homeB (ldH (μ 90) W st N (12 * s) i) (12 * s) (st i) (Lk i) := by
          show (if _ then _ else _) = _
          rw [if_pos g1, homeB_ext k2.1]
        have hg := t_goesHome (z := z) (d := e) (by omega) hs ia144 (by omega) (by omega) (by omega) kM (by rw [r90]; exact hr_ldH hh i)
        simp -implicitDefEqProofs only [Int.cast_ofNat_Int, r90] at hg
        rw [g1, cT rfl, e_M_undoesField_63, gI_ok (by omega) (by omega), Int.toNat_natCast, m145, z8 (by omega), hg]
        simp -implicitDefEqProofs only [ob]
        rw [e_M_undoesField_82, zwc (by omega), ← hM, zrow_comm (a := 86) (b := 90) (by omega), zrow_zrow]
        rw [e1, e2] at ih
        exact ih
      · have e1 : ldF W st N (i + 1) = ldF W st N i ||| 2 ^ u := by
          show (if _ then _ else _) = _
          rw [if_neg (by rw [g1]; omega), g1, Int.toNat_natCast]
        have e2 : ldH (μ 90) W st N (12 * s) (i + 1) = ldH (μ 90) W st N (12 * s) i := by
          show (if _ then _ else _) = _
          rw [if_neg (by rw [g1]; omega)]
        rw [g1, cF (by omega), t_stands1 (by omega) hs (by omega) (by rw [r86, rup_same]) hlt]
        simp -implicitDefEqProofs only [ob]
        rw [e_M_undoesField_82, zwc (by omega), zupr, r86, rup_rup, ← hM, zrow_zrow]
        rw [e1, e2] at ih
        exact ih)
  have H0 := H 0 (by omega)
  have e3 : zup μ 86 (16 + s) 0 = zrow (zrow μ 90 (ldH (μ 90) W st N (12 * s) 0)) 86 (rup (μ 86) (16 + s) ((ldF W st N 0 : Nat) : Int)) := by
    have e4 : ldH (μ 90) W st N (12 * s) 0 = μ 90 := rfl
    rw [e4, zrow_id, zupr]
    rfl
  rw [e3]
  exact H0
