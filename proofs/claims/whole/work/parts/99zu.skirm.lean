/-! the skirmish in both -/
theorem zr12 {i : Nat} (hi : i < 144) : z_div ((i : Nat) : Int) 12 = ((i / 12 : Nat) : Int) ∧ z_rem ((i : Nat) : Int) 12 = ((i % 12 : Nat) : Int) := zd12 i hi
def skR (m p q : Int) : Prop := (m = 0 ∧ q = -1) ∨ (0 < m ∧ p = q ∧ 0 ≤ q ∧ q < 144)
theorem skirm_in {z : zZ} {e e' n a : Nat} {v : Int} {A B : Nat → Nat} (he : 4 ≤ e) (he' : 3 ≤ e') (ha : a < 12) : ∀ (j b : Nat) (m p q : Int) (M P : Mu), j + b = 12 → FIc A B n M → FIr A B n P → skR m p q → ∃ (m' p' q' : Int) (M' P' : Mu), f_W_skirmish_34 z e v m p (a : Int) ((if b ≤ a then a + 1 else b : Nat) : Int) M = f_W_skirmish_21 z e v m' p' ((a + 1 : Nat) : Int) M' ∧ f_M_skirmish_31 z e' v m q (wy (mS A B n) 0) ((12 * a + b : Nat) : Int) P = f_M_skirmish_31 z e' v m' q' (wy (mS A B n) 0) ((12 * (a + 1) : Nat) : Int) P' ∧ FIc A B n M' ∧ FIr A B n P' ∧ skR m' p' q' ∧ LC M M' ∧ LR P P' := by
  intro j
  induction j with
  | zero =>
    intro b m p q M P hj hF hR hs
    have hb : b = 12 := by omega
    subst hb
    refine ⟨m, p, q, M, P, ?_, rfl, hF, hR, hs, LC_refl M, LR_refl P⟩
    rw [if_neg (by omega), e_W_skirmish_34, cT (by omega), zwc (by omega)]
  | succ j ih =>
    intro b m p q M P hj hF hR hs
    have hb : b < 12 := by omega
    have hi : 12 * a + b < 144 := by omega
    have q1 : (12 * a + b) / 12 = a := by omega
    have q2 : (12 * a + b) % 12 = b := by omega
    have hz : Unit → z_div ((12 * a + b : Nat) : Int) 12 = (a : Int) ∧ z_rem ((12 * a + b : Nat) : Int) 12 = (b : Int) := fun _ => by
      have h := zr12 hi
      rw [q1, q2] at h
      exact h
    have h111 : ∀ (m q : Int) (P : Mu), f_M_skirmish_111 z e' v m q (wy (mS A B n) 0) ((12 * a + b : Nat) : Int) P = f_M_skirmish_31 z e' v m q (wy (mS A B n) 0) ((12 * a + (b + 1) : Nat) : Int) P := fun m q P => by
      rw [e_M_skirmish_111, zwc (by omega)]
      rfl
    by_cases hba : b ≤ a
    · obtain ⟨m', p', q', M', P', g1, g2, g3⟩ := ih (b + 1) m p q M P (by omega) hF hR hs
      have hpos : (if b ≤ a then a + 1 else b) = (if b + 1 ≤ a then a + 1 else b + 1) := by
        rw [if_pos hba]
        by_cases h : b + 1 ≤ a
        · rw [if_pos h]
        · rw [if_neg h]; omega
      refine ⟨m', p', q', M', P', by rw [hpos]; exact g1, ?_, g3⟩
      have hlt : ¬ z_div ((12 * a + b : Nat) : Int) 12 < z_rem ((12 * a + b : Nat) : Int) 12 := by rw [(hz ()).1, (hz ()).2]; omega
      rw [e_M_skirmish_31, cF (by omega), cF hlt, h111]
      clear hlt
      exact g2
    · have hne : a ≠ b := by omega
      obtain ⟨M1, m1, m2, m3⟩ := s_rowsWith (z := z) (d := e) he ha hb hne hF
      obtain ⟨M2, n1, n2, n3⟩ := s_rowsWith (z := z) (d := e) he hb ha (Ne.symm hne) m2
      obtain ⟨P1, p1, p2⟩ := t_waysWith (z := z) (d := e') he' ha hb hR
      have hR1 := FIr_LR hR p2
      have hsum := wy_both (ms := mS A B n) ha hb hne 0 (by omega) (Nat.zero_testBit _) (Nat.zero_testBit _)
      have x1 := wy_rg (ms := mwt (mS A B n) a b) (s := 0) (by omega)
      have x2 := wy_rg (ms := mwt (mS A B n) b a) (s := 0) (by omega)
      have hlt : z_div ((12 * a + b : Nat) : Int) 12 < z_rem ((12 * a + b : Nat) : Int) 12 := by rw [(hz ()).1, (hz ()).2]; omega
      have hpos : (if b ≤ a then a + 1 else b) = b := if_neg hba
      have hpos2 : (if b + 1 ≤ a then a + 1 else b + 1) = b + 1 := if_neg (by omega)
      have hc34 : ∀ (m p : Int) (M : Mu), f_W_skirmish_88 z e v m p (a : Int) (b : Int) M = f_W_skirmish_34 z e v m p (a : Int) ((if b + 1 ≤ a then a + 1 else b + 1 : Nat) : Int) M := fun m p M => by rw [e_W_skirmish_88, zwc (by omega), hpos2]
      have hcl : f_W_skirmish_34 z e v m p (a : Int) (b : Int) M = bif decide (z_lcmp (if wy (mwt (mS A B n) b a) 0 < wy (mwt (mS A B n) a b) 0 then wy (mwt (mS A B n) b a) 0 else wy (mwt (mS A B n) a b) 0) m ≤ 0) then (f_W_skirmish_88 z e v m p (a : Int) (b : Int) M2) else (f_W_skirmish_88 z e v (if wy (mwt (mS A B n) b a) 0 < wy (mwt (mS A B n) a b) 0 then wy (mwt (mS A B n) b a) 0 else wy (mwt (mS A B n) a b) 0) ((12 * a + b : Nat) : Int) (a : Int) (b : Int) M2) := by
        rw [e_W_skirmish_34, cF (by omega), m1]
        simp -implicitDefEqProofs only [ob]
        rw [n1]
        simp -implicitDefEqProofs only [ob]
        rw [zy12 (by omega) (by omega)]
      have hrl : f_M_skirmish_31 z e' v m q (wy (mS A B n) 0) ((12 * a + b : Nat) : Int) P = f_M_skirmish_92 z e' v m q (wy (mS A B n) 0) ((12 * a + b : Nat) : Int) (if wy (mwt (mS A B n) b a) 0 < wy (mwt (mS A B n) a b) 0 then wy (mwt (mS A B n) b a) 0 else wy (mwt (mS A B n) a b) 0) P1 := by
        rw [e_M_skirmish_31, cF (by omega), cT hlt, (hz ()).1, (hz ()).2, p1]
        clear hlt
        simp -implicitDefEqProofs only [ob]
        have hw : zwl (wy (mS A B n) 0 - wy (mwt (mS A B n) a b) 0) = wy (mwt (mS A B n) b a) 0 := by rw [zwl_id (by omega) (by omega)]; omega
        rw [e_M_skirmish_87, hw]
        clear hw
        by_cases h : wy (mwt (mS A B n) b a) 0 ≤ wy (mwt (mS A B n) a b) 0
        · rw [cT (lcmp_ge.mpr h)]
          by_cases h2 : wy (mwt (mS A B n) b a) 0 < wy (mwt (mS A B n) a b) 0
          · rw [if_pos h2]
          · have e1 : wy (mwt (mS A B n) b a) 0 = wy (mwt (mS A B n) a b) 0 := by omega
            rw [if_neg h2, e1]
        · rw [cF (fun q => h (lcmp_ge.mp q)), if_neg (by omega)]
      clear hlt
      have hmn : 0 ≤ (if wy (mwt (mS A B n) b a) 0 < wy (mwt (mS A B n) a b) 0 then wy (mwt (mS A B n) b a) 0 else wy (mwt (mS A B n) a b) 0) := by split <;> omega
      generalize (if wy (mwt (mS A B n) b a) 0 < wy (mwt (mS A B n) a b) 0 then wy (mwt (mS A B n) b a) 0 else wy (mwt (mS A B n) a b) 0) = mn at hcl hrl hmn
      rw [hpos, hcl, hrl, e_M_skirmish_92]
      by_cases hm : mn ≤ m
      · rw [cT (lcmp_le.mpr hm), cF (fun q => absurd (lcmp_gt.mp q) (by omega)), hc34, h111]
        obtain ⟨m', p', q', M', P', g1, g2, g3, g4, g5, g6, g7⟩ := ih (b + 1) m p q M2 P1 (by omega) n2 hR1 hs
        exact ⟨m', p', q', M', P', g1, g2, g3, g4, g5, LC_trans m3 (LC_trans n3 g6), LR_trans p2 g7⟩
      · rw [cF (fun q => hm (lcmp_le.mp q)), cT (lcmp_gt.mpr (by omega)), hc34, h111]
        have hm0 : 0 ≤ m := by rcases hs with h | h <;> omega
        obtain ⟨m', p', q', M', P', g1, g2, g3, g4, g5, g6, g7⟩ := ih (b + 1) mn ((12 * a + b : Nat) : Int) ((12 * a + b : Nat) : Int) M2 P1 (by omega) n2 hR1 (Or.inr ⟨by omega, rfl, by omega, by omega⟩)
        exact ⟨m', p', q', M', P', g1, g2, g3, g4, g5, LC_trans m3 (LC_trans n3 g6), LR_trans p2 g7⟩
theorem skirm_out {z : zZ} {e e' n : Nat} {v : Int} {A B : Nat → Nat} (he : 4 ≤ e) (he' : 3 ≤ e') : ∀ (j a : Nat) (m p q : Int) (M P : Mu), j + a = 12 → FIc A B n M → FIr A B n P → skR m p q → ∃ (m' p' q' : Int) (M' P' : Mu), f_W_skirmish_21 z e v m p (a : Int) M = f_W_skirmish_21 z e v m' p' 12 M' ∧ f_M_skirmish_31 z e' v m q (wy (mS A B n) 0) ((12 * a : Nat) : Int) P = f_M_skirmish_117 z e' v m' q' P' ∧ FIc A B n M' ∧ FIr A B n P' ∧ skR m' p' q' ∧ LC M M' ∧ LR P P' := by
  intro j
  induction j with
  | zero =>
    intro a m p q M P hj hF hR hs
    have : a = 12 := by omega
    subst this
    refine ⟨m, p, q, M, P, rfl, ?_, hF, hR, hs, LC_refl M, LR_refl P⟩
    rw [e_M_skirmish_31, cT (by omega)]
  | succ j ih =>
    intro a m p q M P hj hF hR hs
    obtain ⟨m1, p1, q1, M1, P1, g1, g2, g3, g4, g5, g6, g7⟩ := skirm_in (z := z) (e := e) (e' := e') (a := a) (v := v) he he' (by omega) 12 0 m p q M P (by omega) hF hR hs
    obtain ⟨m2, p2, q2, M2, P2, k1, k2, k3, k4, k5, k6, k7⟩ := ih (a + 1) m1 p1 q1 M1 P1 (by omega) g3 g4 g5
    rw [if_pos (Nat.zero_le a)] at g1
    refine ⟨m2, p2, q2, M2, P2, ?_, ?_, k3, k4, k5, LC_trans g6 k6, LR_trans g7 k7⟩
    · rw [e_W_skirmish_21, cF (by omega), zwc (by omega), g1, k1]
    · rw [Nat.add_zero] at g2
      rw [g2, k2]
theorem skirmish_both {z : zZ} {d d' n : Nat} {v : Int} {A B : Nat → Nat} {μ ρ : Mu} (hd : 5 ≤ d) (hd' : 4 ≤ d') (hF : FIc A B n μ) (hR : FIr A B n ρ) : LQ z d d' 151 287 [(2, 0), (0, v)] [(2, 86), (0, v)] A B n μ ρ := by
  obtain ⟨e, rfl, he⟩ := pred_of (k := 4) hd
  obtain ⟨e', rfl, he'⟩ := pred_of (k := 3) hd'
  have fin : ∀ r M P, mC z (e + 1) 151 [(2, 0), (0, v)] μ = some (r, M) → mC z (e' + 1) 287 [(2, 86), (0, v)] ρ = some (r, P) → FIc A B n M → LC μ M → LR ρ P → LQ z (e + 1) (e' + 1) 151 287 [(2, 0), (0, v)] [(2, 86), (0, v)] A B n μ ρ := fun r M P h1 h2 h3 h4 h5 => ⟨r, M, P, h1, h2, h3, h4, h5⟩
  have hc := c_W_skirmish z e v μ
  have hr := c_M_skirmish z e' v ρ
  rw [t_in (by omega)] at hr
  simp -implicitDefEqProofs only [ob] at hr
  rw [nB] at hr
  by_cases h1 : v < 0
  · rw [cT h1, e_W_skirmish_9] at hc
    rw [decide_eq_false (show ¬ ((0 : Int) ≤ v ∧ v ≤ 2) by omega), cond_false] at hr
    exact fin _ _ _ hc hr hF (LC_refl μ) (LR_refl ρ)
  · rw [cF h1] at hc
    by_cases h2 : v ≤ 2
    · rw [cT h2] at hc
      obtain ⟨P, Q, p1, q1, q2, q3, q4⟩ := t_ways (z := z) (d := e') (by omega) hR
      rw [decide_eq_true (show (0 : Int) ≤ v ∧ v ≤ 2 by omega), cond_true, p1] at hr
      simp -implicitDefEqProofs only [ob] at hr
      rw [q1] at hr
      simp -implicitDefEqProofs only [ob] at hr
      obtain ⟨m, p, q, M', P', g1, g2, g3, g4, g5, g6, g7⟩ := skirm_out (z := z) (e := e) (e' := e') (v := v) he he' 12 0 0 0 (-1) μ Q (by omega) hF (FIr_LR hR q2) (Or.inl ⟨rfl, rfl⟩)
      have g1' : f_W_skirmish_21 z e v 0 0 0 μ = f_W_skirmish_21 z e v m p 12 M' := g1
      have g2' : f_M_skirmish_31 z e' v 0 (-1) (wy (mS A B n) 0) 0 Q = f_M_skirmish_117 z e' v m q P' := g2
      rw [g1', e_W_skirmish_21, cT (by omega)] at hc
      rw [g2', e_M_skirmish_117] at hr
      have hLR := LR_trans q2 g7
      rcases g5 with ⟨hm, hq⟩ | ⟨hm, hpq, hq0, hq1⟩
      · rw [nT (lcmp_0.mpr hm)] at hc
        rw [nT hq, e_M_skirmish_157] at hr
        exact fin _ _ _ hc hr g3 g6 hLR
      · rw [nF (fun q => absurd (lcmp_0.mp q) (by omega)), e_W_skirmish_110] at hc
        rw [nF (by omega), e_M_skirmish_129] at hr
        subst hpq
        by_cases k0 : v = 0
        · rw [nF (by omega), nT k0, e_W_skirmish_136] at hc
          rw [nT k0, e_M_skirmish_157] at hr
          exact fin _ _ _ hc hr g3 g6 hLR
        · by_cases k2 : v = 2
          · rw [nT k2] at hc
            rw [nF k0, e_M_skirmish_142, nF (by omega), e_M_skirmish_156, e_M_skirmish_157] at hr
            exact fin _ _ _ hc hr g3 g6 hLR
          · rw [nF k2, nF k0, e_W_skirmish_130, e_W_skirmish_136] at hc
            rw [nF k0, e_M_skirmish_142, nT (by omega), e_M_skirmish_157] at hr
            exact fin _ _ _ hc hr g3 g6 hLR
    · rw [cF h2, e_W_skirmish_9] at hc
      rw [decide_eq_false (show ¬ ((0 : Int) ≤ v ∧ v ≤ 2) by omega), cond_false] at hr
      exact fin _ _ _ hc hr hF (LC_refl μ) (LR_refl ρ)
