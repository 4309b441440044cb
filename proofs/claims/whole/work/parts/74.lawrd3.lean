/-! the class reads a law's text: factors -/
theorem cTt {α : Type} {inst : Decidable True} {x y : α} : (bif @decide True inst then x else y) = x := @cT α True inst x y trivial
theorem nTt {α : Type} {inst : Decidable True} {x y : α} : (bif !@decide True inst then x else y) = y := @nT α True inst x y trivial
theorem tlx_nn {c : Int} (h : tlx c ≠ -1) : 0 ≤ tlx c := by
  unfold tlx at h ⊢
  repeat' split
  all_goals omega
theorem s_put2 {z : zZ} {d w q v : Nat} {μ : Mu} (hd : 1 ≤ d) (hw : isLw w) (hq : μ w 5 = (q : Int)) (hq2 : q < 256) (hv : v < 100000000) : mC z d 54 [(2, (w : Int)), (0, 2), (0, (v : Int))] μ = some (0, ptM μ w q ((2 + 16 * v : Nat) : Int)) := by
  have hp := s_put (z := z) (d := d) (k := 2) (v := v) (μ := μ) hd hw hq hq2 (by omega) hv
  simp -implicitDefEqProofs only [Int.cast_ofNat_Int] at hp
  exact hp
theorem s_put3 {z : zZ} {d w q : Nat} {μ : Mu} (hd : 1 ≤ d) (hw : isLw w) (hq : μ w 5 = (q : Int)) (hq2 : q < 256) : mC z d 54 [(2, (w : Int)), (0, 3), (0, 0)] μ = some (0, ptM μ w q 3) := by
  have hp := s_put (z := z) (d := d) (k := 3) (v := 0) (μ := μ) hd hw hq hq2 (by omega) (by omega)
  simp -implicitDefEqProofs only [Int.cast_ofNat_Int, Int.natCast_zero] at hp
  exact hp
theorem s_put0 {z : zZ} {d w q : Nat} {μ : Mu} (hd : 1 ≤ d) (hw : isLw w) (hq : μ w 5 = (q : Int)) (hq2 : q < 256) : mC z d 54 [(2, (w : Int)), (0, 0), (0, 0)] μ = some (0, ptM μ w q 0) := by
  have hp := s_put (z := z) (d := d) (k := 0) (v := 0) (μ := μ) hd hw hq hq2 (by omega) (by omega)
  simp -implicitDefEqProofs only [Int.natCast_zero] at hp
  exact hp
theorem RP_mono {w n : Nat} {μ M : Mu} {F : Int} {E q L : Nat} {js : List Nat} {C C' : Row → Prop} (h : RP w n μ M F E q L js C) (hC : ∀ st, C st → C' st) : RP w n μ M F E q L js C' := ⟨h.1, h.2.1, fun hF => ⟨(h.2.2 hF).1, (h.2.2 hF).2.1, (h.2.2 hF).2.2.1, hC _ (h.2.2 hF).2.2.2⟩⟩
/-- a sign in front, a sign behind -/
theorem RP_wrap {w n p : Nat} {μ M1 : Mu} {b : Row} {E1 q L1 : Nat} {C1 : Row → Prop} (hw : isLw w) (hs : RS w μ b n p q) (hp : p < n) (hq : q + L1 ≤ 256) (hE : E1 < n) (P1 : RP w n (zup μ 1 2 ((p + 1 : Nat) : Int)) M1 0 E1 q L1 [] C1) : RP w n μ (zup M1 1 2 ((E1 + 1 : Nat) : Int)) 0 (E1 + 1) q L1 [] C1 := by
  have w1 : w ≠ 1 ∧ w + 4 ≠ 1 := by rcases hw with h | h <;> omega
  obtain ⟨a1, a2, a3, a4⟩ := P1.2.2 rfl
  refine ⟨RF_trans (RF_1 hw (Or.inl rfl) (by omega) hs.2.2.2.2.2.1 hp zup_hit) (RF_trans P1.1 (RF_1 hw (Or.inl rfl) hq a2 hE zup_hit)), by rw [zup_nk (by omega)]; exact P1.2.1, fun _ => ⟨zup_hit, by rw [zup_ro w1.1]; exact a2, fun j hj hn => ?_, by rw [zup_ro w1.2]; exact a4⟩⟩
  rw [zup_ro w1.2, a3 j hj hn, zup_ro w1.2]
/-- a sign in front, no sign behind: a fault -/
theorem RP_wrapF {w n p : Nat} {μ M1 : Mu} {b : Row} {E1 q L1 : Nat} {F : Int} {E L : Nat} {C C1 : Row → Prop} (hw : isLw w) (hs : RS w μ b n p q) (hp : p < n) (hq : q + L1 ≤ 256) (hE : E1 ≤ n) (hF : F ≠ 0) (P1 : RP w n (zup μ 1 2 ((p + 1 : Nat) : Int)) M1 0 E1 q L1 [] C1) : RP w n μ (zup M1 1 4 F) F E q L [] C := by
  obtain ⟨a1, a2, a3, a4⟩ := P1.2.2 rfl
  exact RP_fault (RF_trans (RF_1 hw (Or.inl rfl) (by omega) hs.2.2.2.2.2.1 hp zup_hit) (RF_trans P1.1 (RF_1 hw (Or.inr rfl) hq a2 hE (by rw [zup_nk (by omega)]; exact a1)))) zup_hit hF
theorem rd4 {z : zZ} {w n f : Nat} {b : Row} (hw : isLw w) (hn : n ≤ 200) (hb : byt b) (h0 : RD z w n b f 0 3 6 (cSum z)) : RD z w n b (f + 1) 4 1 4 (cFac z) := by
  intro d o p q μ hs hp ho hf hq hd
  have w1 : w ≠ 1 ∧ 1 ≠ w ∧ 1 ≠ w + 4 ∧ w + 4 ≠ 1 := by rcases hw with h | h <;> omega
  obtain ⟨e, rfl, he⟩ := pred_of (k := 8 * (7 - o) + 3) hd
  unfold cFac
  rw [c_Rdr_readFactor _ _ _ _ hs.1, s_peek (by omega) hs.2.2.1 hs.2.2.2.1 (by omega)]
  simp -implicitDefEqProofs only [ob]
  rw [e_Rdr_readFactor_9 _ _ _ _ _ hs.1, s_peek (by omega) hs.2.2.1 hs.2.2.2.1 (by omega)]
  simp -implicitDefEqProofs only [ob]
  rw [e_Rdr_readFactor_20 _ _ _ _ _ _ hs.1, zpl1, hs.2.2.2.2.2.2]
  by_cases h91 : tx b n p = 91
  · have hpn : p < n := tx_lt h91 (by decide)
    have hl : ln b n (f + 1) 4 o p = ln b n f 0 (o + 1) (p + 1) := by simp only [ln, Nat.reduceEqDiff, if_false, if_true, if_pos h91]
    have hcd : ∀ st, cdC b st n (f + 1) 4 o p q 0 = cdC b st n f 0 (o + 1) (p + 1) q 0 := fun st => by simp only [cdC, Nat.reduceEqDiff, if_false, if_true, if_pos h91]
    rw [nT h91]
    by_cases h6 : 6 ≤ o
    · have hz : pz b n (f + 1) 4 o p = (-5000 - (p : Int), p) := by simp only [pz, Nat.reduceEqDiff, if_false, if_true, if_pos h91, if_pos h6]
      rw [s_opens_no (by omega) hs.1 hs.2.2.1 hs.2.2.2.2.1 h6 (by omega)]
      simp -implicitDefEqProofs only [ob]
      rw [cTt, e_Rdr_readFactor_115]
      refine ⟨_, rfl, ?_⟩
      rw [hz]
      exact RP_fault (RF_1 hw (Or.inr rfl) (by omega) hs.2.2.2.2.2.1 hp (by rw [zup_nk (by omega)]; exact hs.2.2.1)) zup_hit (by omega)
    · rw [s_opens_ok (by omega) hs.1 hs.2.2.1 hs.2.2.2.2.1 (by omega) (by omega)]
      simp -implicitDefEqProofs only [ob]
      rw [cF (by decide), zwc (by omega)]
      have hs1 := RS_next hw hs
      obtain ⟨M1, r1, P1⟩ := h0 e (o + 1) (p + 1) q _ hs1 hpn (by omega) (by omega) (by omega) (by omega)
      unfold cSum at r1
      have rf1 : RF w n μ (zup μ 1 2 ((p + 1 : Nat) : Int)) := RF_1 hw (Or.inl rfl) (by omega) hs.2.2.2.2.2.1 hpn zup_hit
      have h40 : M1 40 = μ 40 := RF_40 hw (RF_trans rf1 P1.1)
      rw [r1]
      simp -implicitDefEqProofs only [ob]
      rw [e_Rdr_readFactor_40 _ _ _ _ _ (by rw [h40]; exact hs.1)]
      by_cases hF : (pz b n f 0 (o + 1) (p + 1)).1 = 0
      · have zl := pz_ln f 0 (o + 1) (p + 1) hpn hF
        have P1' := P1.2.2 hF
        have hT := RF_RS hw P1.1 hs1 (by rw [P1.2.1, hF]) P1'.1 P1'.2.1
        rw [s_pass (by omega) hT.2.2.1 hT.2.2.2.1 hT.2.2.2.2.1 (by omega) (by omega), hT.2.2.2.2.2.2]
        rw [hF] at P1
        by_cases h93 : tx b n (pz b n f 0 (o + 1) (p + 1)).2 = 93
        · have hE := tx_lt h93 (by decide)
          have hz : pz b n (f + 1) 4 o p = (0, (pz b n f 0 (o + 1) (p + 1)).2 + 1) := by
            simp only [pz, Nat.reduceEqDiff, if_false, if_true, if_pos h91, if_neg h6, if_pos h93]
            rw [if_neg (by intro h; exact h hF)]
          rw [if_pos h93]
          simp -implicitDefEqProofs only [ob]
          rw [e_Rdr_readFactor_115]
          refine ⟨_, rfl, ?_⟩
          rw [hz, hl]
          simp -implicitDefEqProofs only [hcd]
          exact RP_wrap hw hs hpn (by omega) hE P1
        · have hz : pz b n (f + 1) 4 o p = (-1000 - (((pz b n f 0 (o + 1) (p + 1)).2 : Nat) : Int), (pz b n f 0 (o + 1) (p + 1)).2) := by
            simp only [pz, Nat.reduceEqDiff, if_false, if_true, if_pos h91, if_neg h6, if_neg h93]
            rw [if_neg (by intro h; exact h hF)]
          rw [if_neg h93]
          simp -implicitDefEqProofs only [ob]
          rw [e_Rdr_readFactor_115]
          refine ⟨_, rfl, ?_⟩
          rw [hz]
          exact RP_wrapF hw hs hpn (by omega) zl.1 (by omega) P1
      · have hz : pz b n (f + 1) 4 o p = pz b n f 0 (o + 1) (p + 1) := by
          simp only [pz, Nat.reduceEqDiff, if_false, if_true, if_pos h91, if_neg h6]
          rw [if_pos hF]
        obtain ⟨p', hp', hp2⟩ := P1.1.2.2.2.2
        obtain ⟨q', hq', hq5⟩ := P1.1.2.2.2.1
        obtain ⟨r, q2, hq2, hr2⟩ := s_passF (z := z) (d := e) (c := 93) (by omega) hp2 (by rw [P1.1.2.2.1 3 (by omega) (by omega)]; exact hs1.2.2.2.1) (by rw [P1.2.1]; exact hF) (by omega) hp' (by decide)
        rw [hr2]
        simp -implicitDefEqProofs only [ob]
        rw [e_Rdr_readFactor_115]
        refine ⟨_, rfl, ?_⟩
        rw [hz]
        exact RP_fault (RF_trans rf1 (RF_trans P1.1 (RF_1 hw (Or.inl rfl) hq' hq5 hq2 zup_hit))) (by rw [zup_nk (by omega)]; exact P1.2.1) hF
  · rw [nF h91, s_atDigit (by omega) hs.2.2.1 hs.2.2.2.1 (by omega), hs.2.2.2.2.2.2]
    simp -implicitDefEqProofs only [ob]
    rw [e_Rdr_readFactor_60 _ _ _ _ _ hs.1 w hw hs.2.1]
    have hl : ln b n (f + 1) 4 o p = 1 := by simp only [ln, Nat.reduceEqDiff, if_false, if_true, if_neg h91]
    by_cases hg : isg b n p = true
    · have hgn := dgn_n hg
      have hcd : ∀ st, cdC b st n (f + 1) 4 o p q 0 = (dgv b p (dgn b n p) < 100000 ∧ st q = ((1 + 16 * dgv b p (dgn b n p) : Nat) : Int)) := fun st => by simp only [cdC, Nat.reduceEqDiff, if_false, if_true, if_neg h91, if_pos hg]
      rw [hg, bi_t, cF (by decide), s_readNumber (by omega) hw hs.1 hs.2.1 hs.2.2.1 hs.2.2.2.1 hs.2.2.2.2.1 (by omega) hs.2.2.2.2.2.1 (by omega) (by rw [hs.2.2.2.2.2.2]; exact hg), hs.2.2.2.2.2.2]
      simp -implicitDefEqProofs only [ob]
      rw [e_Rdr_readFactor_115]
      by_cases h6 : dgn b n p = 6
      · have hz : pz b n (f + 1) 4 o p = (-2000 - ((p + 5 : Nat) : Int), p + 5) := by simp only [pz, Nat.reduceEqDiff, if_false, if_true, if_neg h91, if_pos hg, if_pos h6]
        rw [if_pos h6]
        refine ⟨_, rfl, ?_⟩
        rw [hz]
        have rf1 : RF w n μ (zup μ 1 2 ((p + 5 : Nat) : Int)) := RF_1 hw (Or.inl rfl) (by omega) hs.2.2.2.2.2.1 (by omega) zup_hit
        have rf2 : RF w n (zup μ 1 2 ((p + 5 : Nat) : Int)) (zup (zup μ 1 2 ((p + 5 : Nat) : Int)) 1 4 (-2000 - ((p + 5 : Nat) : Int))) := RF_1 (p := p + 5) (q := q) hw (Or.inr rfl) (by omega) (by rw [zup_ro w1.1]; exact hs.2.2.2.2.2.1) (by omega) (by rw [zup_nk (by omega)]; exact zup_hit)
        exact RP_fault (RF_trans rf1 (RF_trans rf2 (RF_pfr (p := p + 5) hw (ptM_fr (by omega)) (by omega) (by rw [zup_nk (by omega)]; exact zup_hit)))) (by rw [(ptM_fr (by omega)).1 1 w1.2.1 w1.2.2.1]; exact zup_hit) (by omega)
      · have hz : pz b n (f + 1) 4 o p = (0, p + dgn b n p) := by simp only [pz, Nat.reduceEqDiff, if_false, if_true, if_neg h91, if_pos hg, if_neg h6]
        have h5 : dgn b n p ≤ 5 := by have := wl9_le (isg b n) 6 p; unfold dgn at h6 ⊢; omega
        have hv : dgv b p (dgn b n p) < 100000 := by
          have q1 := dgv_lt (b := b) (p := p) (dgn b n p) (fun j hj => isg_b (wl9_all (isg b n) 6 p j hj))
          have q2 : 10 ^ dgn b n p ≤ 10 ^ 5 := Nat.pow_le_pow_right (by decide) h5
          omega
        rw [if_neg h6]
        refine ⟨_, rfl, ?_⟩
        rw [hz, hl]
        simp -implicitDefEqProofs only [hcd]
        have rf1 : RF w n μ (zup μ 1 2 ((p + dgn b n p : Nat) : Int)) := RF_1 hw (Or.inl rfl) (by omega) hs.2.2.2.2.2.1 hgn.2 zup_hit
        have pf := ptM_fr (μ := zup μ 1 2 ((p + dgn b n p : Nat) : Int)) (w := w) (x := ((1 + 16 * dgv b p (dgn b n p) : Nat) : Int)) (show q < 256 by omega)
        refine ⟨RF_trans rf1 (RF_pfr hw pf hgn.2 zup_hit), by rw [pf.1 1 w1.2.1 w1.2.2.1, zup_nk (by omega)]; exact hs.2.2.2.2.1, fun _ => ⟨by rw [pf.1 1 w1.2.1 w1.2.2.1]; exact zup_hit, ptM_w5, fun j hj _ => ?_, hv, ?_⟩⟩
        · rw [ptM_st, rup_ne (by omega), zup_ro w1.2.2.2]
        · rw [ptM_st, rup_same]
    · have hg' : isg b n p = false := by simpa using hg
      rw [hg', bi_f, cT rfl]
      by_cases ht : tlx (tx b n p) = -1
      · have hz : pz b n (f + 1) 4 o p = (-1000 - (p : Int), p) := by
          simp only [pz, Nat.reduceEqDiff, if_false, if_true, if_neg h91, if_neg hg]
          rw [if_neg (by intro h; exact h ht)]
        rw [cT ht, hs.2.2.1, s_fail0 (by omega) hs.2.2.2.2.1 (by omega) (by omega)]
        simp -implicitDefEqProofs only [ob]
        rw [e_Rdr_readFactor_115]
        refine ⟨_, rfl, ?_⟩
        rw [hz]
        exact RP_fault (RF_1 hw (Or.inr rfl) (by omega) hs.2.2.2.2.2.1 hp (by rw [zup_nk (by omega)]; exact hs.2.2.1)) (by rw [zup_hit]; omega) (by omega)
      · have hpn : p < n := by
          rcases Nat.lt_or_ge p n with h | h
          · exact h
          · rw [tx_out h] at ht; exact absurd tlx_m1 ht
        have hz : pz b n (f + 1) 4 o p = (0, p + 1) := by
          simp only [pz, Nat.reduceEqDiff, if_false, if_true, if_neg h91, if_neg hg]
          rw [if_pos ht]
        have hcd : ∀ st, cdC b st n (f + 1) 4 o p q 0 = (0 ≤ tlx (tx b n p) ∧ st q = ((2 + 16 * (tlx (tx b n p)).toNat : Nat) : Int)) := fun st => by simp only [cdC, Nat.reduceEqDiff, if_false, if_true, if_neg h91, if_neg hg]
        have t0 := tlx_nn ht
        have t1 := tlx_lt (tx b n p)
        have hs1 := RS_next hw hs
        have e1 : tlx (tx b n p) = (((tlx (tx b n p)).toNat : Nat) : Int) := by omega
        have hp2 := s_put2 (z := z) (d := e) (v := (tlx (tx b n p)).toNat) (by omega) hw hs1.2.2.2.2.2.1 (by omega) (by omega)
        rw [← e1] at hp2
        rw [cF ht, hs.2.2.1, zwc (by omega), hp2]
        simp -implicitDefEqProofs only [ob]
        rw [e_Rdr_readFactor_115]
        refine ⟨_, rfl, ?_⟩
        rw [hz, hl]
        simp -implicitDefEqProofs only [hcd]
        have rf1 : RF w n μ (zup μ 1 2 ((p + 1 : Nat) : Int)) := RF_1 hw (Or.inl rfl) (by omega) hs.2.2.2.2.2.1 hpn zup_hit
        have pf := ptM_fr (μ := zup μ 1 2 ((p + 1 : Nat) : Int)) (w := w) (x := ((2 + 16 * (tlx (tx b n p)).toNat : Nat) : Int)) (show q < 256 by omega)
        refine ⟨RF_trans rf1 (RF_pfr hw pf hpn zup_hit), by rw [pf.1 1 w1.2.1 w1.2.2.1, zup_nk (by omega)]; exact hs.2.2.2.2.1, fun _ => ⟨by rw [pf.1 1 w1.2.1 w1.2.2.1]; exact zup_hit, ptM_w5, fun j hj _ => ?_, t0, ?_⟩⟩
        · rw [ptM_st, rup_ne (by omega), zup_ro w1.2.2.2]
        · rw [ptM_st, rup_same]
