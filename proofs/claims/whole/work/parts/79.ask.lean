/-! asking the law, both sides -/
def clp (x hi : Int) : Int := if x < 0 then 0 else if hi < x then hi else x
def evl (N : Nat) (lt : Nat → Int) (Dv Dc : Nat → Row → Option Int) (tl : Row) (c hi : Int) : Nat → Nat → Int
  | 0, _ => 0
  | j + 1, q => if lt q = c ∧ (Dc q tl).getD 0 ≠ 0 then clp ((Dv q tl).getD 0) hi else evl N lt Dv Dc tl c hi j (q + 1)
def sgC (w : Nat) (st : Row) (sz : Nat) (x : Int) (D : Row → Option Int) : Prop := ∃ lo hi : Nat, x = (lo : Int) ∧ hi < sz ∧ st hi = 0 ∧ ∀ tl, segC w st tl sz lo hi 64 (D tl)
def lawC (w : Nat) (μ : Mu) (N : Nat) (lt : Nat → Int) (Dv Dc : Nat → Row → Option Int) : Prop := μ w 3 = (N : Int) ∧ N ≤ 14 ∧ ∃ sz : Nat, sz ≤ 256 ∧ μ w 5 = (sz : Int) ∧ ∀ q, q < N → μ (w + 1) q = lt q ∧ sgC w (μ (w + 4)) sz (μ (w + 2) q) (Dv q) ∧ sgC w (μ (w + 4)) sz (μ (w + 3) q) (Dc q)
def lawR (μ : Mu) (N : Nat) (lt : Nat → Int) (Dv Dc : Nat → Row → Option Int) : Prop := μ 86 27 = (N : Int) ∧ N ≤ 14 ∧ ∀ q, q < N → μ 105 q = lt q ∧ ∃ lo mid hi : Nat, μ 106 q = (lo : Int) ∧ μ 107 q = (mid : Int) ∧ μ 108 q = (hi : Int) ∧ lo < 220 ∧ mid < 220 ∧ ∀ tl, segR (μ 104) tl mid lo mid 220 (Dv q tl) ∧ segR (μ 104) tl hi mid hi 220 (Dc q tl) ∧ is01 (Dc q tl)
theorem lawC_congr {w N : Nat} {μ M : Mu} {lt : Nat → Int} {Dv Dc : Nat → Row → Option Int} (h : lawC w μ N lt Dv Dc) (h3 : M w 3 = μ w 3) (h5 : M w 5 = μ w 5) (r1 : M (w + 1) = μ (w + 1)) (r2 : M (w + 2) = μ (w + 2)) (r3 : M (w + 3) = μ (w + 3)) (r4 : M (w + 4) = μ (w + 4)) : lawC w M N lt Dv Dc := by
  unfold lawC at h ⊢
  rw [h3, h5, r1, r2, r3, r4]
  exact h
theorem lawR_congr {N : Nat} {μ M : Mu} {lt : Nat → Int} {Dv Dc : Nat → Row → Option Int} (h : lawR μ N lt Dv Dc) (h3 : M 86 27 = μ 86 27) (r4 : M 104 = μ 104) (r5 : M 105 = μ 105) (r6 : M 106 = μ 106) (r7 : M 107 = μ 107) (r8 : M 108 = μ 108) : lawR M N lt Dv Dc := by
  unfold lawR at h ⊢
  rw [h3, r4, r5, r6, r7, r8]
  exact h
theorem lawC_lfr {w N : Nat} {μ M : Mu} {lt : Nat → Int} {Dv Dc : Nat → Row → Option Int} (h : lawC w μ N lt Dv Dc) (hf : lfr w μ M) : lawC w M N lt Dv Dc := lawC_congr h (hf.2 3 (by omega) (by omega)) (hf.2 5 (by omega) (by omega)) (hf.1 _ (by omega) (by omega)) (hf.1 _ (by omega) (by omega)) (hf.1 _ (by omega) (by omega)) (hf.1 _ (by omega) (by omega))
theorem lawR_rsf {N : Nat} {μ M : Mu} {lt : Nat → Int} {Dv Dc : Nat → Row → Option Int} (h : lawR μ N lt Dv Dc) (hf : rsf 0 μ M) : lawR M N lt Dv Dc := lawR_congr h (by rw [hf.1 86 (by omega)]) (hf.1 _ (by omega)) (hf.1 _ (by omega)) (hf.1 _ (by omega)) (hf.1 _ (by omega)) (hf.1 _ (by omega))
/-- a stretch of the class's law is asked -/
theorem s_seg {z : zZ} {d w sz : Nat} {x : Int} {D : Row → Option Int} {μ : Mu} (hd : 5 ≤ d) (hw : isLw w) (hsz : sz ≤ 256) (h5 : μ w 5 = (sz : Int)) (h : sgC w (μ (w + 4)) sz x D) : ∃ M, mC z d 87 [(2, (w : Int)), (0, x), (2, 53)] μ = some ((D (μ 53)).getD 0, M) ∧ lfr w μ M := by
  obtain ⟨lo, hi, hx, hhi, hst, hs⟩ := h
  subst hx
  exact s_run hd hw rfl rfl h5 (hs (μ 53)) (Nat.le_refl _) hhi hsz (by omega) hst
def moC (c : Int) : Int := if c = 100 then 10 else if c = 118 then 9999 else if c = 119 then 999 else 8
theorem s_mostOf {z : zZ} {d : Nat} {c : Int} {μ : Mu} (hd : 1 ≤ d) : mC z d 92 [(0, c)] μ = some (moC c, μ) := by
  obtain ⟨e, rfl, he⟩ := pred_of hd
  rw [c_Law_mostOf, e_Law_mostOf_40, e_Law_mostOf_36, e_Law_mostOf_43, e_Law_mostOf_47]
  unfold moC
  by_cases h1 : c = 100
  · rw [cT h1, if_pos h1]
  · rw [cF h1, if_neg h1]
    by_cases h2 : c = 118
    · rw [cT h2, if_pos h2]
    · rw [cF h2, if_neg h2]
      by_cases h3 : c = 119
      · rw [cT h3, if_pos h3]
      · rw [cF h3, if_neg h3]
theorem moC_nn (c : Int) : 8 ≤ moC c := by
  unfold moC
  repeat' split
  all_goals omega
theorem s_askgo {z : zZ} {e w N : Nat} {c : Int} {lt : Nat → Int} {Dv Dc : Nat → Row → Option Int} (he : 5 ≤ e) (hw : isLw w) : ∀ (j q : Nat) (μ : Mu), j + q = N → lawC w μ N lt Dv Dc → ∃ M, f_Law_ask_2 z e w c 53 (q : Int) μ = some (evl N lt Dv Dc (μ 53) c (moC c) j q, M) ∧ lfr w μ M := by
  have o53' := o53 hw
  intro j
  induction j with
  | zero =>
    intro q μ hq hL
    refine ⟨μ, ?_, lfr_refl w μ⟩
    rw [e_Law_ask_2 _ _ _ _ _ _ _ hw, hL.1, cT (by omega), e_Law_ask_69]
    rfl
  | succ j ih =>
    intro q μ hq hL
    obtain ⟨h3, h14, sz, hsz, h5, hcl⟩ := id hL
    obtain ⟨b1, b2, b3⟩ := hcl q (by omega)
    rw [e_Law_ask_2 _ _ _ _ _ _ _ hw, h3, cF (by omega), cF (by omega), gI_ok (by omega) (by omega), Int.toNat_natCast, b1]
    by_cases hc : lt q = c
    · obtain ⟨M1, r1, f1⟩ := s_seg (z := z) he hw hsz h5 b3
      rw [nT hc, gI_ok (by omega) (by omega), r1]
      simp -implicitDefEqProofs only [ob]
      by_cases hD : (Dc q (μ 53)).getD 0 = 0
      · obtain ⟨M2, r2, f2⟩ := ih (q + 1) M1 (by omega) (lawC_lfr hL f1)
        have e53 : M1 53 = μ 53 := f1.1 53 o53'.1 o53'.2
        rw [cT hD, e_Law_ask_63 _ _ _ _ _ _ _ hw, zwc (by omega)]
        refine ⟨M2, ?_, lfr_trans f1 f2⟩
        rw [r2, e53]
        simp only [evl]
        rw [if_neg (fun h => h.2 hD)]
      · have hL1 := lawC_lfr hL f1
        obtain ⟨h3', h14', sz', hsz', h5', hcl'⟩ := id hL1
        obtain ⟨b1', b2', b3'⟩ := hcl' q (by omega)
        have e53 : M1 53 = μ 53 := f1.1 53 o53'.1 o53'.2
        obtain ⟨M2, r2, f2⟩ := s_seg (z := z) he hw hsz' h5' b2'
        rw [cF hD, s_mostOf (by omega)]
        simp -implicitDefEqProofs only [ob]
        rw [gI_ok (by omega) (by omega), r2]
        simp -implicitDefEqProofs only [ob]
        refine ⟨M2, ?_, lfr_trans f1 f2⟩
        rw [e53]
        have hm := moC_nn c
        have : (if 0 < if (Dv q (μ 53)).getD 0 < moC c then (Dv q (μ 53)).getD 0 else moC c then if (Dv q (μ 53)).getD 0 < moC c then (Dv q (μ 53)).getD 0 else moC c else 0) = clp ((Dv q (μ 53)).getD 0) (moC c) := by
          unfold clp
          generalize (Dv q (μ 53)).getD 0 = x
          generalize moC c = y at hm
          repeat' split
          all_goals omega
        rw [this]
        simp only [evl]
        rw [if_pos (show lt q = c ∧ (Dc q (μ 53)).getD 0 ≠ 0 from ⟨hc, hD⟩)]
    · obtain ⟨M2, r2, f2⟩ := ih (q + 1) μ (by omega) hL
      rw [nF hc, e_Law_ask_63 _ _ _ _ _ _ _ hw, zwc (by omega)]
      refine ⟨M2, ?_, f2⟩
      rw [r2]
      simp only [evl]
      rw [if_neg (fun h => hc h.1)]
theorem s_ask {z : zZ} {d w N : Nat} {c : Int} {lt : Nat → Int} {Dv Dc : Nat → Row → Option Int} {μ : Mu} (hd : 6 ≤ d) (hw : isLw w) (hL : lawC w μ N lt Dv Dc) : ∃ M, mC z d 86 [(2, (w : Int)), (0, c), (2, 53)] μ = some (evl N lt Dv Dc (μ 53) c (moC c) N 0, M) ∧ lfr w μ M := by
  obtain ⟨e, rfl, he⟩ := pred_of hd
  rw [c_Law_ask _ _ _ _ _ _ hw]
  exact s_askgo he hw N 0 μ (by omega) hL
theorem t_askgo {z : zZ} {e N : Nat} {c hi : Int} {lt : Nat → Int} {Dv Dc : Nat → Row → Option Int} (he : 3 ≤ e) : ∀ (j q : Nat) (μ : Mu), j + q = N → lawR μ N lt Dv Dc → ∃ M, f_M_byLaw_2 z e c hi (q : Int) μ = some (evl N lt Dv Dc (μ 110) c hi j q, M) ∧ rsf 0 μ M := by
  intro j
  induction j with
  | zero =>
    intro q μ hq hL
    refine ⟨μ, ?_, rsf_refl 0 μ⟩
    rw [e_M_byLaw_2, hL.1, cT (by omega)]
    rfl
  | succ j ih =>
    intro q μ hq hL
    obtain ⟨b1, lo, mid, hi', b2, b3, b4, b5, b6, b7⟩ := hL.2.2 q (by omega)
    have h14 := hL.2.1
    rw [e_M_byLaw_2, hL.1, cF (by omega), gI_ok (by omega) (by omega), Int.toNat_natCast, b1]
    by_cases hc : lt q = c
    · obtain ⟨M1, r1, f1⟩ := t_comesTo (z := z) (d := e) (μ := μ) he rfl rfl (b7 (μ 110)).2.1 (Nat.le_refl _) b6
      rw [nT hc, gI_ok (by omega) (by omega), gI_ok (by omega) (by omega), b3, b4, r1]
      simp -implicitDefEqProofs only [ob]
      have h01 : (Dc q (μ 110)).getD 0 = 1 ↔ (Dc q (μ 110)).getD 0 ≠ 0 := by
        have := (b7 (μ 110)).2.2
        cases hD : Dc q (μ 110) with
        | none => simp
        | some v => rcases this v hD with h | h <;> subst h <;> simp
      by_cases hD : (Dc q (μ 110)).getD 0 = 1
      · have hL1 := lawR_rsf hL f1
        obtain ⟨b1', lo', mid', hi'', b2', b3', b4', b5', b6', b7'⟩ := hL1.2.2 q (by omega)
        have e110 : M1 110 = μ 110 := f1.1 110 (by omega)
        obtain ⟨M2, r2, f2⟩ := t_comesTo (z := z) (d := e) (μ := M1) he rfl rfl (b7' (M1 110)).1 (Nat.le_refl _) b5'
        rw [cT hD, e_M_byLaw_43, gI_ok (by omega) (by omega), gI_ok (by omega) (by omega), Int.toNat_natCast, b2', b3', r2]
        simp -implicitDefEqProofs only [ob]
        refine ⟨M2, ?_, rsf_trans f1 f2⟩
        rw [e_M_byLaw_80, e_M_byLaw_82, e_M_byLaw_82, e_M_byLaw_82, e110]
        simp only [evl]
        rw [if_pos (show lt q = c ∧ (Dc q (μ 110)).getD 0 ≠ 0 from ⟨hc, h01.mp hD⟩)]
        unfold clp
        generalize (Dv q (μ 110)).getD 0 = x
        by_cases h0 : (0 : Int) ≤ x
        · rw [cT h0, if_neg (by omega)]
          by_cases h1 : x ≤ hi
          · rw [cT h1, if_neg (by omega)]
          · rw [cF h1, if_pos (by omega)]
        · rw [cF h0, if_pos (by omega)]
      · obtain ⟨M2, r2, f2⟩ := ih (q + 1) M1 (by omega) (lawR_rsf hL f1)
        have e110 : M1 110 = μ 110 := f1.1 110 (by omega)
        rw [cF hD, e_M_byLaw_83, zwc (by omega)]
        refine ⟨M2, ?_, rsf_trans f1 f2⟩
        rw [r2, e110]
        simp only [evl]
        rw [if_neg (fun h => hD (h01.mpr h.2))]
    · obtain ⟨M2, r2, f2⟩ := ih (q + 1) μ (by omega) hL
      rw [nF hc, e_M_byLaw_83, zwc (by omega)]
      refine ⟨M2, ?_, f2⟩
      rw [r2]
      simp only [evl]
      rw [if_neg (fun h => hc h.1)]
theorem t_byLaw {z : zZ} {d N : Nat} {c hi : Int} {lt : Nat → Int} {Dv Dc : Nat → Row → Option Int} {μ : Mu} (hd : 4 ≤ d) (hL : lawR μ N lt Dv Dc) : ∃ M, mC z d 248 [(2, 86), (0, c), (0, hi)] μ = some (evl N lt Dv Dc (μ 110) c hi N 0, M) ∧ rsf 0 μ M := by
  obtain ⟨e, rfl, he⟩ := pred_of hd
  rw [c_M_byLaw]
  exact t_askgo he N 0 μ (by omega) hL
theorem evl_rg {N : Nat} {lt : Nat → Int} {Dv Dc : Nat → Row → Option Int} {tl : Row} {c hi : Int} (h : 0 ≤ hi) : ∀ j q, 0 ≤ evl N lt Dv Dc tl c hi j q ∧ evl N lt Dv Dc tl c hi j q ≤ hi := by
  intro j
  induction j with
  | zero => intro q; exact ⟨Int.le_refl 0, h⟩
  | succ j ih =>
    intro q
    simp only [evl]
    split
    · unfold clp
      repeat' split
      all_goals omega
    · exact ih (q + 1)
