/-! the class reads a law's text: pieces, and all -/
theorem sgs_cmp {c : Int} (h : c = 60 ∨ c = 62 ∨ c = 61) : 7 ≤ sgs c := by
  rcases h with h | h | h <;> subst h <;> decide
/-- two sums, a sign between, its step behind -/
theorem RP_cmp {w n : Nat} {μ M1 M2 : Mu} {x : Int} {E1 E2 q L1 L2 : Nat} {C1 C2 : Row → Prop} (hw : isLw w) (hq : q + L1 + L2 < 256) (hE1 : E1 < n) (hE2 : E2 ≤ n) (P1 : RP w n μ M1 0 E1 q L1 [] C1) (P2 : RP w n (zup M1 1 2 ((E1 + 1 : Nat) : Int)) M2 0 E2 (q + L1) L2 [] C2) (hC1 : ∀ st st' : Row, (∀ j, q ≤ j → j < q + L1 → st' j = st j) → C1 st → C1 st') (hC2 : ∀ st st' : Row, (∀ j, q + L1 ≤ j → j < q + L1 + L2 → st' j = st j) → C2 st → C2 st') : RP w n μ (ptM M2 w (q + L1 + L2) x) 0 E2 q (L1 + L2 + 1) [] (fun st => C1 st ∧ C2 st ∧ st (q + L1 + L2) = x) := by
  have w1 : w ≠ 1 ∧ w + 4 ≠ 1 ∧ 1 ≠ w ∧ 1 ≠ w + 4 := by rcases hw with h | h <;> omega
  obtain ⟨a1, a2, a3, a4⟩ := P1.2.2 rfl
  obtain ⟨b1, b2, b3, b4⟩ := P2.2.2 rfl
  have pf := ptM_fr (μ := M2) (w := w) (x := x) hq
  have hst : ∀ j, j < q + L1 → M2 (w + 4) j = M1 (w + 4) j := by
    intro j hj
    rw [b3 j hj (by simp), zup_ro w1.2.1]
  refine ⟨RF_trans P1.1 (RF_trans (RF_1 hw (Or.inl rfl) (by omega) a2 hE1 zup_hit) (RF_trans P2.1 (RF_pfr hw pf hE2 b1))), by rw [pf.1 1 w1.2.2.1 w1.2.2.2]; exact P2.2.1, fun _ => ⟨by rw [pf.1 1 w1.2.2.1 w1.2.2.2]; exact b1, by rw [ptM_w5, show q + L1 + L2 + 1 = q + (L1 + L2 + 1) by omega], fun j hj hn => ?_, ?_, ?_, ?_⟩⟩
  · rw [ptM_st, rup_ne (by omega), hst j (by omega), a3 j hj hn]
  · refine hC1 _ _ (fun j h1 h2 => ?_) a4
    rw [ptM_st, rup_ne (by omega), hst j h2]
  · refine hC2 _ _ (fun j h1 h2 => ?_) b4
    rw [ptM_st, rup_ne (by omega)]
  · rw [ptM_st, rup_same]
theorem rd9 {z : zZ} {w n f : Nat} {b : Row} (hw : isLw w) (hn : n ≤ 200) (h9 : RD z w n b f 9 4 7 (cPce z)) (h5 : RD z w n b f 5 6 9 (cCnd z)) (h0 : RD z w n b f 0 3 6 (cSum z)) : RD z w n b (f + 1) 9 4 7 (cPce z) := by
  intro d o p q μ hs hp ho hf hq hd
  have w1 : w ≠ 1 ∧ 1 ≠ w ∧ 1 ≠ w + 4 ∧ w + 4 ≠ 1 := by rcases hw with h | h <;> omega
  obtain ⟨e, rfl, he⟩ := pred_of (k := 8 * (7 - o) + 6) hd
  obtain ⟨e2, rfl, he2⟩ := pred_of (k := 8 * (7 - o) + 5) he
  have hno : pz b n (f + 1) 9 o p = (-5000 - (p : Int), p) → RP w n μ (zup μ 1 4 (-5000 - (p : Int))) (pz b n (f + 1) 9 o p).1 (pz b n (f + 1) 9 o p).2 q (ln b n (f + 1) 9 o p) [] (fun st => cdC b st n (f + 1) 9 o p q 0) := by
    intro hz
    rw [hz]
    exact RP_fault (RF_1 hw (Or.inr rfl) (by omega) hs.2.2.2.2.2.1 hp (by rw [zup_nk (by omega)]; exact hs.2.2.1)) zup_hit (by omega)
  unfold cPce
  rw [c_Rdr_readPiece _ _ _ _ hs.1, s_peek (by omega) hs.2.2.1 hs.2.2.2.1 (by omega), hs.2.2.2.2.2.2]
  simp -implicitDefEqProofs only [ob]
  by_cases h33 : tx b n p = 33
  · have hpn : p < n := tx_lt h33 (by decide)
    have hl : ln b n (f + 1) 9 o p = ln b n f 9 (o + 1) (p + 1) + 1 := by simp only [ln, Nat.reduceEqDiff, if_false, if_pos h33]
    have hcd : ∀ st, cdC b st n (f + 1) 9 o p q 0 = (cdC b st n f 9 (o + 1) (p + 1) q 0 ∧ st (q + ln b n f 9 (o + 1) (p + 1)) = 3) := fun st => by simp only [cdC, Nat.reduceEqDiff, if_false, if_pos h33]
    rw [cT h33, e_Rdr_readPiece_20]
    by_cases h6 : 6 ≤ o
    · have hz : pz b n (f + 1) 9 o p = (-5000 - (p : Int), p) := by simp only [pz, Nat.reduceEqDiff, if_false, if_pos h33, if_pos h6]
      rw [s_opens_no (by omega) hs.1 hs.2.2.1 hs.2.2.2.2.1 h6 (by omega)]
      simp -implicitDefEqProofs only [ob]
      rw [cTt, e_Rdr_readPiece_36]
      exact ⟨_, rfl, hno hz⟩
    · have hs1 := RS_next hw hs
      obtain ⟨M1, r1, P1⟩ := h9 e2 (o + 1) (p + 1) q _ hs1 hpn (by omega) (by omega) (by omega) (by omega)
      unfold cPce at r1
      have rf1 : RF w n μ (zup μ 1 2 ((p + 1 : Nat) : Int)) := RF_1 hw (Or.inl rfl) (by omega) hs.2.2.2.2.2.1 hpn zup_hit
      have h40 : M1 40 = μ 40 := RF_40 hw (RF_trans rf1 P1.1)
      have hz : pz b n (f + 1) 9 o p = pz b n f 9 (o + 1) (p + 1) := by simp only [pz, Nat.reduceEqDiff, if_false, if_pos h33, if_neg h6]
      rw [s_opens_ok (by omega) hs.1 hs.2.2.1 hs.2.2.2.2.1 (by omega) (by omega)]
      simp -implicitDefEqProofs only [ob]
      rw [cF (by decide), zwc (by omega), c_Rdr_readOpened, nT h33, r1]
      simp -implicitDefEqProofs only [ob]
      rw [e_Rdr_readOpened_11 _ _ _ _ _ w hw (by rw [h40]; exact hs.2.1)]
      by_cases hF : (pz b n f 9 (o + 1) (p + 1)).1 = 0
      · have zl := pz_ln f 9 (o + 1) (p + 1) hpn hF
        obtain ⟨a1, a2, a3, a4⟩ := P1.2.2 hF
        rw [s_put3 (by omega) hw a2 (by omega)]
        simp -implicitDefEqProofs only [ob]
        rw [e_Rdr_readOpened_38]
        simp -implicitDefEqProofs only [ob]
        rw [e_Rdr_readPiece_36]
        refine ⟨_, rfl, ?_⟩
        rw [hz, hl]
        simp -implicitDefEqProofs only [hcd]
        have pf := ptM_fr (μ := M1) (w := w) (x := 3) (show q + ln b n f 9 (o + 1) (p + 1) < 256 by omega)
        refine ⟨RF_trans rf1 (RF_trans P1.1 (RF_pfr hw pf zl.1 a1)), by rw [pf.1 1 w1.2.1 w1.2.2.1]; exact P1.2.1, fun _ => ⟨by rw [pf.1 1 w1.2.1 w1.2.2.1]; exact a1, by rw [ptM_w5, Nat.add_assoc], fun j hj hn => ?_, cdC_congr _ _ _ _ _ _ _ _ (fun j h1 h2 => ?_) a4, ?_⟩⟩
        · rw [ptM_st, rup_ne (by omega), a3 j hj hn, zup_ro w1.2.2.2]
        · rw [ptM_st, rup_ne (by omega)]
        · rw [ptM_st, rup_same]
      · obtain ⟨q', hq', hq5⟩ := P1.1.2.2.2.1
        obtain ⟨p', hp', hp2⟩ := P1.1.2.2.2.2
        obtain ⟨M2, r2, pf⟩ := s_put_any (z := z) (d := e2) (k := 3) (v := 0) (by omega) hw hq5 hq'
        rw [r2]
        simp -implicitDefEqProofs only [ob]
        rw [e_Rdr_readOpened_38]
        simp -implicitDefEqProofs only [ob]
        rw [e_Rdr_readPiece_36]
        refine ⟨_, rfl, ?_⟩
        rw [hz]
        exact RP_fault (RF_trans rf1 (RF_trans P1.1 (RF_pfr hw pf hp' hp2))) (by rw [pf.1 1 w1.2.1 w1.2.2.1]; exact P1.2.1) hF
  · rw [cF h33]
    by_cases h40' : tx b n p = 40
    · have hpn : p < n := tx_lt h40' (by decide)
      have hl : ln b n (f + 1) 9 o p = ln b n f 5 (o + 1) (p + 1) := by simp only [ln, Nat.reduceEqDiff, if_false, if_neg h33, if_pos h40']
      have hcd : ∀ st, cdC b st n (f + 1) 9 o p q 0 = cdC b st n f 5 (o + 1) (p + 1) q 0 := fun st => by simp only [cdC, Nat.reduceEqDiff, if_false, if_neg h33, if_pos h40']
      rw [nT h40', e_Rdr_readPiece_20]
      by_cases h6 : 6 ≤ o
      · have hz : pz b n (f + 1) 9 o p = (-5000 - (p : Int), p) := by simp only [pz, Nat.reduceEqDiff, if_false, if_neg h33, if_pos h40', if_pos h6]
        rw [s_opens_no (by omega) hs.1 hs.2.2.1 hs.2.2.2.2.1 h6 (by omega)]
        simp -implicitDefEqProofs only [ob]
        rw [cTt, e_Rdr_readPiece_36]
        exact ⟨_, rfl, hno hz⟩
      · have hs1 := RS_next hw hs
        obtain ⟨M1, r1, P1⟩ := h5 e2 (o + 1) (p + 1) q _ hs1 hpn (by omega) (by omega) (by omega) (by omega)
        unfold cCnd at r1
        have rf1 : RF w n μ (zup μ 1 2 ((p + 1 : Nat) : Int)) := RF_1 hw (Or.inl rfl) (by omega) hs.2.2.2.2.2.1 hpn zup_hit
        have h40 : M1 40 = μ 40 := RF_40 hw (RF_trans rf1 P1.1)
        rw [s_opens_ok (by omega) hs.1 hs.2.2.1 hs.2.2.2.2.1 (by omega) (by omega)]
        simp -implicitDefEqProofs only [ob]
        rw [cF (by decide), zwc (by omega), c_Rdr_readOpened, nF h33, r1]
        simp -implicitDefEqProofs only [ob]
        rw [e_Rdr_readOpened_28 _ _ _ _ (by rw [h40]; exact hs.1)]
        by_cases hF : (pz b n f 5 (o + 1) (p + 1)).1 = 0
        · have zl := pz_ln f 5 (o + 1) (p + 1) hpn hF
          have P1' := P1.2.2 hF
          have hT := RF_RS hw P1.1 hs1 (by rw [P1.2.1, hF]) P1'.1 P1'.2.1
          rw [s_pass (by omega) hT.2.2.1 hT.2.2.2.1 hT.2.2.2.2.1 (by omega) (by omega), hT.2.2.2.2.2.2]
          rw [hF] at P1
          by_cases h93 : tx b n (pz b n f 5 (o + 1) (p + 1)).2 = 41
          · have hE := tx_lt h93 (by decide)
            have hz : pz b n (f + 1) 9 o p = (0, (pz b n f 5 (o + 1) (p + 1)).2 + 1) := by
              simp only [pz, Nat.reduceEqDiff, if_false, if_neg h33, if_pos h40', if_neg h6, if_pos h93]
              rw [if_neg (by intro h; exact h hF)]
            rw [if_pos h93]
            simp -implicitDefEqProofs only [ob]
            rw [e_Rdr_readOpened_38]
            simp -implicitDefEqProofs only [ob]
            rw [e_Rdr_readPiece_36]
            refine ⟨_, rfl, ?_⟩
            rw [hz, hl]
            simp -implicitDefEqProofs only [hcd]
            exact RP_wrap hw hs hpn (by omega) hE P1
          · have hz : pz b n (f + 1) 9 o p = (-1000 - (((pz b n f 5 (o + 1) (p + 1)).2 : Nat) : Int), (pz b n f 5 (o + 1) (p + 1)).2) := by
              simp only [pz, Nat.reduceEqDiff, if_false, if_neg h33, if_pos h40', if_neg h6, if_neg h93]
              rw [if_neg (by intro h; exact h hF)]
            rw [if_neg h93]
            simp -implicitDefEqProofs only [ob]
            rw [e_Rdr_readOpened_38]
            simp -implicitDefEqProofs only [ob]
            rw [e_Rdr_readPiece_36]
            refine ⟨_, rfl, ?_⟩
            rw [hz]
            exact RP_wrapF hw hs hpn (by omega) zl.1 (by omega) P1
        · have hz : pz b n (f + 1) 9 o p = pz b n f 5 (o + 1) (p + 1) := by
            simp only [pz, Nat.reduceEqDiff, if_false, if_neg h33, if_pos h40', if_neg h6]
            rw [if_pos hF]
          obtain ⟨p', hp', hp2⟩ := P1.1.2.2.2.2
          obtain ⟨q', hq', hq5⟩ := P1.1.2.2.2.1
          obtain ⟨r, q2, hq2, hr2⟩ := s_passF (z := z) (d := e2) (c := 41) (by omega) hp2 (by rw [P1.1.2.2.1 3 (by omega) (by omega)]; exact hs1.2.2.2.1) (by rw [P1.2.1]; exact hF) (by omega) hp' (by decide)
          rw [hr2]
          simp -implicitDefEqProofs only [ob]
          rw [e_Rdr_readOpened_38]
          simp -implicitDefEqProofs only [ob]
          rw [e_Rdr_readPiece_36]
          refine ⟨_, rfl, ?_⟩
          rw [hz]
          exact RP_fault (RF_trans rf1 (RF_trans P1.1 (RF_1 hw (Or.inl rfl) hq' hq5 hq2 zup_hit))) (by rw [zup_nk (by omega)]; exact P1.2.1) hF
    · have hl : ln b n (f + 1) 9 o p = ln b n f 0 o p + ln b n f 0 o ((pz b n f 0 o p).2 + 1) + 1 := by simp only [ln, Nat.reduceEqDiff, if_false, if_neg h33, if_neg h40']
      have hcd : ∀ st, cdC b st n (f + 1) 9 o p q 0 = (cdC b st n f 0 o p q 0 ∧ cdC b st n f 0 o ((pz b n f 0 o p).2 + 1) (q + ln b n f 0 o p) 0 ∧ 7 ≤ sgs (tx b n (pz b n f 0 o p).2) ∧ st (q + ln b n f 0 o p + ln b n f 0 o ((pz b n f 0 o p).2 + 1)) = ((sgs (tx b n (pz b n f 0 o p).2) + 4 : Nat) : Int)) := fun st => by simp only [cdC, Nat.reduceEqDiff, if_false, if_neg h33, if_neg h40']
      obtain ⟨M1, r1, P1⟩ := h0 (e2 + 1) o p q μ hs hp ho (by omega) hq (by omega)
      unfold cSum at r1
      have h40 : M1 40 = μ 40 := RF_40 hw P1.1
      obtain ⟨p', hp', hp2⟩ := P1.1.2.2.2.2
      have hn3 : M1 1 3 = (n : Int) := by rw [P1.1.2.2.1 3 (by omega) (by omega)]; exact hs.2.2.2.1
      rw [nF h40', r1]
      simp -implicitDefEqProofs only [ob]
      rw [e_Rdr_readPiece_42 _ _ _ _ (by rw [h40]; exact hs.1), s_peek (by omega) hp2 hn3 (by omega)]
      simp -implicitDefEqProofs only [ob]
      rw [e_Rdr_readPiece_49 _ _ _ _ _ (by rw [h40]; exact hs.1)]
      have h70 : ∀ M : Mu, M 40 0 = 2 → M 1 4 ≠ 0 → f_Rdr_readPiece_70 z (e2 + 1) M = some (0, M) := by
        intro M m40 m4
        rw [e_Rdr_readPiece_70 _ _ _ m40, s_fail1 (by omega) m4]
        rfl
      by_cases hF : (pz b n f 0 o p).1 = 0
      · have zl := pz_ln f 0 o p hp hF
        have P1' := P1.2.2 hF
        have hT := RF_RS hw P1.1 hs (by rw [P1.2.1, hF]) P1'.1 P1'.2.1
        rw [hF] at P1
        have epp : p' = (pz b n f 0 o p).2 := by have := P1'.1; omega
        rw [nT hT.2.2.2.2.1, hT.2.2.2.2.2.2, epp]
        by_cases hsg : tx b n (pz b n f 0 o p).2 = 60 ∨ tx b n (pz b n f 0 o p).2 = 62 ∨ tx b n (pz b n f 0 o p).2 = 61
        · have hE : (pz b n f 0 o p).2 < n := by rcases hsg with h | h | h <;> exact tx_lt h (by decide)
          have hz : pz b n (f + 1) 9 o p = pz b n f 0 o ((pz b n f 0 o p).2 + 1) := by
            simp only [pz, Nat.reduceEqDiff, if_false, if_neg h33, if_neg h40', if_pos hsg]
            rw [if_neg (by intro h; exact h hF)]
          have hs2 := RS_next hw hT
          obtain ⟨M2, r2, P2⟩ := h0 (e2 + 1) o ((pz b n f 0 o p).2 + 1) _ _ hs2 hE ho (by omega) (by omega) (by omega)
          unfold cSum at r2
          have rf2 := RF_trans P1.1 (RF_trans (RF_1 (v := (((pz b n f 0 o p).2 + 1 : Nat) : Int)) hw (Or.inl rfl) (by omega) hT.2.2.2.2.2.1 hE zup_hit) P2.1)
          have h40b : M2 40 = μ 40 := RF_40 hw rf2
          rw [nF (by intro h; exact (zpl2 _).mp h hsg), hT.2.2.1, zwc (by omega), r2]
          simp -implicitDefEqProofs only [ob]
          by_cases hF2 : (pz b n f 0 o ((pz b n f 0 o p).2 + 1)).1 = 0
          · have zl2 := pz_ln f 0 o ((pz b n f 0 o p).2 + 1) hE hF2
            have P2' := P2.2.2 hF2
            have hsl := sgs_cmp hsg
            rw [s_putSign (t := sgs (tx b n (pz b n f 0 o p).2)) (by omega) hw (by rw [h40b]; exact hs.2.1) P2'.2.1 (by omega) (by omega) (sgs_le _) rfl]
            simp -implicitDefEqProofs only [ob]
            refine ⟨_, rfl, ?_⟩
            rw [hz, hl, hF2]
            simp -implicitDefEqProofs only [hcd]
            rw [hF2] at P2
            exact RP_mono (RP_cmp hw (by omega) hE zl2.1 P1 P2 (fun st st' hh hc => cdC_congr _ _ _ _ _ _ st st' hh hc) (fun st st' hh hc => cdC_congr _ _ _ _ _ _ st st' hh hc)) (fun st h => ⟨h.1, h.2.1, hsl, h.2.2⟩)
          · obtain ⟨q', hq', hq5⟩ := P2.1.2.2.2.1
            obtain ⟨p2, hp2', hp22⟩ := P2.1.2.2.2.2
            obtain ⟨M3, r3, pf⟩ := s_putSign_any (z := z) (d := e2 + 1) (c := tx b n (pz b n f 0 o p).2) (by omega) hw (by rw [h40b]; exact hs.2.1) hq5 hq'
            rw [r3]
            simp -implicitDefEqProofs only [ob]
            refine ⟨_, rfl, ?_⟩
            rw [hz]
            exact RP_fault (RF_trans rf2 (RF_pfr hw pf hp2' hp22)) (by rw [pf.1 1 w1.2.1 w1.2.2.1]; exact P2.2.1) hF2
        · have hz : pz b n (f + 1) 9 o p = (-1000 - (((pz b n f 0 o p).2 : Nat) : Int), (pz b n f 0 o p).2) := by
            simp only [pz, Nat.reduceEqDiff, if_false, if_neg h33, if_neg h40', if_neg hsg]
            rw [if_neg (by intro h; exact h hF)]
          rw [nT ((zpl2 _).mpr hsg), e_Rdr_readPiece_70 _ _ _ (by rw [h40]; exact hs.1), hT.2.2.1, s_fail0 (by omega) hT.2.2.2.2.1 (by omega) (by omega)]
          simp -implicitDefEqProofs only [ob]
          refine ⟨_, rfl, ?_⟩
          rw [hz]
          exact RP_fault (RF_trans P1.1 (RF_1 hw (Or.inr rfl) (by omega) hT.2.2.2.2.2.1 zl.1 (by rw [zup_nk (by omega)]; exact hT.2.2.1))) (by rw [zup_hit]; omega) (by omega)
      · have hz : pz b n (f + 1) 9 o p = pz b n f 0 o p := by
          simp only [pz, Nat.reduceEqDiff, if_false, if_neg h33, if_neg h40']
          rw [if_pos hF]
        rw [nF (by rw [P1.2.1]; exact hF), h70 M1 (by rw [h40]; exact hs.1) (by rw [P1.2.1]; exact hF)]
        refine ⟨_, rfl, ?_⟩
        rw [hz]
        exact RP_fault P1.1 P1.2.1 hF
theorem rdAll {z : zZ} {w n : Nat} {b : Row} (hw : isLw w) (hn : n ≤ 200) (hb : byt b) : ∀ f, RD z w n b f 0 3 6 (cSum z) ∧ RDr z w n b f 1 1 5 (cSumR z) ∧ RD z w n b f 2 2 5 (cPrd z) ∧ RDr z w n b f 3 1 4 (cPrdR z) ∧ RD z w n b f 4 1 4 (cFac z) ∧ RD z w n b f 5 6 9 (cCnd z) ∧ RDj z w n b f 6 1 8 4 (cCndR z) ∧ RD z w n b f 7 5 8 (cPrt z) ∧ RDj z w n b f 8 1 7 5 (cPrtR z) ∧ RD z w n b f 9 4 7 (cPce z) := by
  intro f
  induction f with
  | zero =>
    refine ⟨?_, ?_, ?_, ?_, ?_, ?_, ?_, ?_, ?_, ?_⟩
    · intro d o p q μ hs hp ho hf; omega
    · intro i d o p q μ hs hp ho hf; omega
    · intro d o p q μ hs hp ho hf; omega
    · intro i d o p q μ hs hp ho hf; omega
    · intro d o p q μ hs hp ho hf; omega
    · intro d o p q μ hs hp ho hf; omega
    · intro js i d o p q μ hs hp ho hf; omega
    · intro d o p q μ hs hp ho hf; omega
    · intro js i d o p q μ hs hp ho hf; omega
    · intro d o p q μ hs hp ho hf; omega
  | succ f ih =>
    obtain ⟨h0, h1, h2, h3, h4, h5, h6, h7, h8, h9⟩ := ih
    exact ⟨rd0 hw hn h2 h1, rd1 hw hn h2 h1, rd2 hw hn h4 h3, rd3 hw hn h4 h3, rd4 hw hn hb h0, rd5 hw hn h7 h6, rd6 hw hn h7 h6, rd7 hw hn h9 h8, rd8 hw hn h9 h8, rd9 hw hn h9 h5 h0⟩
