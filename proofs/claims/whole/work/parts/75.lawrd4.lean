/-! the class reads a law's text: conditions and parts -/
theorem s_cndR_f {z : zZ} {e w q : Nat} {v1 v2 v3 : Int} {M : Mu} (he : 1 ≤ e) (hw : isLw w) (h40 : M 40 0 = 2) (h41 : M 40 1 = ((w : Nat) : Int) + 1) (hq : q ≤ 256) (h5 : M w 5 = (q : Int)) (h4 : M 1 4 ≠ 0) : ∃ h, f_Rdr_readCondition_9 z e v1 v2 v3 M = some (0, zrow M (w + 4) h) := by
  obtain ⟨h, hh⟩ := s_aimHere_any (z := z) (d := e) (x := v2) he hw hq h5
  refine ⟨h, ?_⟩
  have h72 : f_Rdr_readCondition_72 z e v2 M = some (0, zrow M (w + 4) h) := by
    rw [e_Rdr_readCondition_72 _ _ _ _ w hw h41, hh]
    rfl
  rw [e_Rdr_readCondition_9 _ _ _ _ _ _ h40, h72, nF h4]
  cases decide ((200 : Int) ≤ v3) <;> rfl
theorem rd5 {z : zZ} {w n f : Nat} {b : Row} (hw : isLw w) (hn : n ≤ 200) (h7 : RD z w n b f 7 5 8 (cPrt z)) (h6 : RDj z w n b f 6 1 8 4 (cCndR z)) : RD z w n b (f + 1) 5 6 9 (cCnd z) := by
  intro d o p q μ hs hp ho hf hq hd
  obtain ⟨e, rfl, he⟩ := pred_of (k := 8 * (7 - o) + 8) hd
  obtain ⟨M1, r1, P1⟩ := h7 e o p q μ hs hp ho (by omega) hq he
  have hl : ln b n (f + 1) 5 o p = ln b n f 7 o p + ln b n f 6 o (pz b n f 7 o p).2 := by simp only [ln, Nat.reduceEqDiff, if_false, if_true]
  have hcd : ∀ st, cdC b st n (f + 1) 5 o p q 0 = (cdC b st n f 7 o p q 0 ∧ cdC b st n f 6 o (pz b n f 7 o p).2 (q + ln b n f 7 o p) (q + ln b n f 7 o p + ln b n f 6 o (pz b n f 7 o p).2)) := fun st => by simp only [cdC, Nat.reduceEqDiff, if_false, if_true]
  unfold cPrt at r1
  unfold cCnd
  rw [c_Rdr_readCondition, r1]
  simp -implicitDefEqProofs only [ob]
  by_cases hF : (pz b n f 7 o p).1 = 0
  · have hz : pz b n (f + 1) 5 o p = pz b n f 6 o (pz b n f 7 o p).2 := by
      simp only [pz, Nat.reduceEqDiff, if_false, if_true]
      rw [if_neg (by intro h; exact h hF)]
    have zl := pz_ln f 7 o p hp hF
    have P1' := P1.2.2 hF
    have hs1 := RF_RS hw P1.1 hs (by rw [P1.2.1, hF]) P1'.1 P1'.2.1
    obtain ⟨M2, r2, P2⟩ := h6 [] 0 e o _ _ M1 hs1 zl.1 ho (by omega) (by omega) he (by omega) trivial
    refine ⟨M2, r2, ?_⟩
    rw [hz, hl]
    simp -implicitDefEqProofs only [hcd]
    rw [hF] at P1
    exact RP_mono (RP_seq P1 P2 (fun st st' hh hc => cdC_congr _ _ _ _ _ _ st st' hh hc)) (fun st h => ⟨h.1, h.2.2⟩)
  · have hz : pz b n (f + 1) 5 o p = pz b n f 7 o p := by
      simp only [pz, Nat.reduceEqDiff, if_false, if_true]
      rw [if_pos hF]
    have h40 := RF_40 hw P1.1
    obtain ⟨q', hq', hq5⟩ := P1.1.2.2.2.1
    obtain ⟨p', hp', hp2⟩ := P1.1.2.2.2.2
    obtain ⟨h, hh⟩ := s_cndR_f (z := z) (e := e) (v1 := (o : Int)) (v2 := -1) (v3 := 0) (by omega) hw (by rw [h40]; exact hs.1) (by rw [h40]; exact hs.2.1) hq' hq5 (by rw [P1.2.1]; exact hF)
    refine ⟨_, hh, ?_⟩
    rw [hz]
    exact RP_fault (RF_trans P1.1 (RF_st hw hq' hq5 hp' hp2)) (by rw [zrow_ne (by rcases hw with h | h <;> omega)]; exact P1.2.1) hF
theorem rd6 {z : zZ} {w n f : Nat} {b : Row} (hw : isLw w) (hn : n ≤ 200) (h7 : RD z w n b f 7 5 8 (cPrt z)) (h6 : RDj z w n b f 6 1 8 4 (cCndR z)) : RDj z w n b (f + 1) 6 1 8 4 (cCndR z) := by
  intro js i e o p q μ hs hp ho hf hq he hi hc
  have w1 : w ≠ 1 ∧ w + 4 ≠ 1 ∧ 1 ≠ w + 4 := by rcases hw with h | h <;> omega
  unfold cCndR
  by_cases hsg : tx b n p = 124
  · have hpn : p < n := tx_lt hsg (by decide)
    have hl : ln b n (f + 1) 6 o p = 1 + ln b n f 7 o (p + 1) + ln b n f 6 o (pz b n f 7 o (p + 1)).2 := by simp only [ln, Nat.reduceEqDiff, if_false, if_true, if_pos hsg]
    have hcd : ∀ st t, cdC b st n (f + 1) 6 o p q t = (st q = ((4 + 16 * t : Nat) : Int) ∧ cdC b st n f 7 o (p + 1) (q + 1) 0 ∧ cdC b st n f 6 o (pz b n f 7 o (p + 1)).2 (q + 1 + ln b n f 7 o (p + 1)) t) := fun st t => by simp only [cdC, Nat.reduceEqDiff, if_false, if_true, if_pos hsg]
    have hs1 := RS_next hw hs
    have hlen := chn_len js hc
    have hj := s_putJump (z := z) (d := e) (k := 4) (l := lk js) (by omega) hw hs1.2.2.2.2.2.1 (by omega) (by omega) (by omega)
    simp -implicitDefEqProofs only [Int.cast_ofNat_Int] at hj
    have hT := RS_put (x := ((4 + 16 * lk js : Nat) : Int)) hw hs1
    obtain ⟨M1, r1, P1⟩ := h7 e o (p + 1) (q + 1) _ hT hpn ho (by omega) (by omega) he
    unfold cPrt at r1
    have rf1 : RF w n μ (zup μ 1 2 ((p + 1 : Nat) : Int)) := RF_1 hw (Or.inl rfl) (by omega) hs.2.2.2.2.2.1 hpn zup_hit
    have pf := ptM_fr (μ := zup μ 1 2 ((p + 1 : Nat) : Int)) (w := w) (x := ((4 + 16 * lk js : Nat) : Int)) (show q < 256 by omega)
    have rf2 := RF_trans rf1 (RF_trans (RF_pfr hw pf hpn zup_hit) P1.1)
    rw [e_Rdr_readCondition_9 _ _ _ _ _ _ hs.1, cF (by omega), nT hs.2.2.2.2.1, s_peek (by omega) hs.2.2.1 hs.2.2.2.1 (by omega), hs.2.2.2.2.2.2]
    simp -implicitDefEqProofs only [ob]
    rw [e_Rdr_readCondition_33 _ _ _ _ _ _ _ hs.1 w hw hs.2.1, nT hsg, hs.2.2.1, zwc (by omega), hj]
    simp -implicitDefEqProofs only [ob]
    rw [r1]
    simp -implicitDefEqProofs only [ob]
    rw [zwc (by omega)]
    by_cases hF : (pz b n f 7 o (p + 1)).1 = 0
    · have hz : pz b n (f + 1) 6 o p = pz b n f 6 o (pz b n f 7 o (p + 1)).2 := by
        simp only [pz, Nat.reduceEqDiff, if_false, if_true, if_pos hsg]
        rw [if_neg (by intro h; exact h hF)]
      have zl := pz_ln f 7 o (p + 1) hpn hF
      obtain ⟨a1, a2, a3, a4⟩ := P1.2.2 hF
      have hU := RF_RS hw P1.1 hT (by rw [P1.2.1, hF]) a1 a2
      have hst : ∀ j, j < q + 1 → M1 (w + 4) j = rup (μ (w + 4)) q ((4 + 16 * lk js : Nat) : Int) j := by
        intro j hj
        rw [a3 j hj (by simp), ptM_st, zup_ro w1.2.1]
      have hch : chn 4 (M1 (w + 4)) (q + 1 + ln b n f 7 o (p + 1)) (q :: js) := by
        refine ⟨by rw [hst q (by omega), rup_same], by omega, fun x hx => chn_mem js x hx hc, chn_congr js (fun x hx => ?_) (chn_mono (by omega) js hc)⟩
        have := chn_mem js x hx hc
        rw [hst x (by omega), rup_ne (by omega)]
      obtain ⟨M3, r3, P3⟩ := h6 (q :: js) (i + 1) e o _ _ M1 hU zl.1 ho (by omega) (by omega) he (by omega) hch
      have e1 : (q : Int) = ((lk (q :: js) : Nat) : Int) - 1 := by show _ = ((q + 1 : Nat) : Int) - 1; omega
      unfold cCndR at r3
      rw [← e1] at r3
      refine ⟨M3, r3, ?_⟩
      rw [hz, hl]
      refine ⟨RF_trans rf2 P3.1, P3.2.1, fun hF3 => ?_⟩
      obtain ⟨b1, b2, b3, b4, b5⟩ := P3.2.2 hF3
      refine ⟨b1, by rw [b2]; congr 1; omega, fun j hj hn' => ?_, fun j hj => ?_, ?_⟩
      · rw [b3 j (by omega) (by intro h; cases h with
          | head => omega
          | tail _ h => exact hn' h), hst j (by omega), rup_ne (by omega)]
      · rw [b4 j (List.mem_cons_of_mem _ hj)]
        congr 1
        omega
      · rw [hcd]
        have et : q + (1 + ln b n f 7 o (p + 1) + ln b n f 6 o (pz b n f 7 o (p + 1)).2) = q + 1 + ln b n f 7 o (p + 1) + ln b n f 6 o (pz b n f 7 o (p + 1)).2 := by omega
        rw [et]
        refine ⟨b4 q (List.mem_cons_self ..), cdC_congr _ _ _ _ _ _ (M1 (w + 4)) _ (fun j h1 h2 => b3 j h2 (by intro h; cases h with
          | head => omega
          | tail _ h => have := chn_mem js j h hc; omega)) a4, b5⟩
    · have hz : pz b n (f + 1) 6 o p = pz b n f 7 o (p + 1) := by
        simp only [pz, Nat.reduceEqDiff, if_false, if_true, if_pos hsg]
        rw [if_pos hF]
      have h40 := RF_40 hw rf2
      obtain ⟨q', hq', hq5⟩ := P1.1.2.2.2.1
      obtain ⟨p', hp', hp2⟩ := P1.1.2.2.2.2
      obtain ⟨h, hh⟩ := s_cndR_f (z := z) (e := e) (v1 := (o : Int)) (v2 := (q : Int)) (v3 := ((i + 1 : Nat) : Int)) (by omega) hw (by rw [h40]; exact hs.1) (by rw [h40]; exact hs.2.1) hq' hq5 (by rw [P1.2.1]; exact hF)
      refine ⟨_, hh, ?_⟩
      rw [hz]
      exact RP_fault (RF_trans rf2 (RF_st hw hq' hq5 hp' hp2)) (by rw [zrow_ne w1.2.2]; exact P1.2.1) hF
  · have hz : pz b n (f + 1) 6 o p = (0, p) := by simp only [pz, Nat.reduceEqDiff, if_false, if_true, if_neg hsg]
    have hl : ln b n (f + 1) 6 o p = 0 := by simp only [ln, Nat.reduceEqDiff, if_false, if_true, if_neg hsg]
    have hcd : ∀ st t, cdC b st n (f + 1) 6 o p q t := fun st t => by simp only [cdC, Nat.reduceEqDiff, if_false, if_true, if_neg hsg]
    have h72 : f_Rdr_readCondition_72 z e ((lk js : Int) - 1) μ = some (0, zrow μ (w + 4) (pat 4 q (μ (w + 4)) js)) := by
      rw [e_Rdr_readCondition_72 _ _ _ _ w hw hs.2.1, s_aimHere (by omega) hw (by omega) (by omega) hs.2.2.2.2.2.1 hc]
      rfl
    refine ⟨zrow μ (w + 4) (pat 4 q (μ (w + 4)) js), ?_, ?_⟩
    · rw [e_Rdr_readCondition_9 _ _ _ _ _ _ hs.1, h72, nT hs.2.2.2.2.1, s_peek (by omega) hs.2.2.1 hs.2.2.2.1 (by omega), hs.2.2.2.2.2.2]
      simp -implicitDefEqProofs only [ob]
      rw [e_Rdr_readCondition_33 _ _ _ _ _ _ _ hs.1 w hw hs.2.1, nF hsg, h72]
      cases decide ((200 : Int) ≤ (i : Int)) <;> rfl
    · rw [hz, hl]
      refine ⟨RF_st hw (by omega) hs.2.2.2.2.2.1 hp hs.2.2.1, by rw [zrow_ne w1.2.2]; exact hs.2.2.2.2.1, fun _ => ⟨by rw [zrow_ne w1.2.2]; exact hs.2.2.1, by rw [zrow_ne (by omega)]; exact hs.2.2.2.2.2.1, fun j _ hj => by rw [zrow_same]; exact pat_out js _ j hj, fun j hj => by rw [zrow_same]; exact pat_in js _ j hj (chn_sorted hc) hc, hcd _ _⟩⟩
theorem s_prtR_f {z : zZ} {e w q : Nat} {v1 v2 v3 : Int} {M : Mu} (he : 1 ≤ e) (hw : isLw w) (h40 : M 40 0 = 2) (h41 : M 40 1 = ((w : Nat) : Int) + 1) (hq : q ≤ 256) (h5 : M w 5 = (q : Int)) (h4 : M 1 4 ≠ 0) : ∃ h, f_Rdr_readPart_9 z e v1 v2 v3 M = some (0, zrow M (w + 4) h) := by
  obtain ⟨h, hh⟩ := s_aimHere_any (z := z) (d := e) (x := v2) he hw hq h5
  refine ⟨h, ?_⟩
  have h72 : f_Rdr_readPart_72 z e v2 M = some (0, zrow M (w + 4) h) := by
    rw [e_Rdr_readPart_72 _ _ _ _ w hw h41, hh]
    rfl
  rw [e_Rdr_readPart_9 _ _ _ _ _ _ h40, h72, nF h4]
  cases decide ((200 : Int) ≤ v3) <;> rfl
theorem rd7 {z : zZ} {w n f : Nat} {b : Row} (hw : isLw w) (hn : n ≤ 200) (h7 : RD z w n b f 9 4 7 (cPce z)) (h6 : RDj z w n b f 8 1 7 5 (cPrtR z)) : RD z w n b (f + 1) 7 5 8 (cPrt z) := by
  intro d o p q μ hs hp ho hf hq hd
  obtain ⟨e, rfl, he⟩ := pred_of (k := 8 * (7 - o) + 7) hd
  obtain ⟨M1, r1, P1⟩ := h7 e o p q μ hs hp ho (by omega) hq he
  have hl : ln b n (f + 1) 7 o p = ln b n f 9 o p + ln b n f 8 o (pz b n f 9 o p).2 := by simp only [ln, Nat.reduceEqDiff, if_false, if_true]
  have hcd : ∀ st, cdC b st n (f + 1) 7 o p q 0 = (cdC b st n f 9 o p q 0 ∧ cdC b st n f 8 o (pz b n f 9 o p).2 (q + ln b n f 9 o p) (q + ln b n f 9 o p + ln b n f 8 o (pz b n f 9 o p).2)) := fun st => by simp only [cdC, Nat.reduceEqDiff, if_false, if_true]
  unfold cPce at r1
  unfold cPrt
  rw [c_Rdr_readPart, r1]
  simp -implicitDefEqProofs only [ob]
  by_cases hF : (pz b n f 9 o p).1 = 0
  · have hz : pz b n (f + 1) 7 o p = pz b n f 8 o (pz b n f 9 o p).2 := by
      simp only [pz, Nat.reduceEqDiff, if_false, if_true]
      rw [if_neg (by intro h; exact h hF)]
    have zl := pz_ln f 9 o p hp hF
    have P1' := P1.2.2 hF
    have hs1 := RF_RS hw P1.1 hs (by rw [P1.2.1, hF]) P1'.1 P1'.2.1
    obtain ⟨M2, r2, P2⟩ := h6 [] 0 e o _ _ M1 hs1 zl.1 ho (by omega) (by omega) he (by omega) trivial
    refine ⟨M2, r2, ?_⟩
    rw [hz, hl]
    simp -implicitDefEqProofs only [hcd]
    rw [hF] at P1
    exact RP_mono (RP_seq P1 P2 (fun st st' hh hc => cdC_congr _ _ _ _ _ _ st st' hh hc)) (fun st h => ⟨h.1, h.2.2⟩)
  · have hz : pz b n (f + 1) 7 o p = pz b n f 9 o p := by
      simp only [pz, Nat.reduceEqDiff, if_false, if_true]
      rw [if_pos hF]
    have h40 := RF_40 hw P1.1
    obtain ⟨q', hq', hq5⟩ := P1.1.2.2.2.1
    obtain ⟨p', hp', hp2⟩ := P1.1.2.2.2.2
    obtain ⟨h, hh⟩ := s_prtR_f (z := z) (e := e) (v1 := (o : Int)) (v2 := -1) (v3 := 0) (by omega) hw (by rw [h40]; exact hs.1) (by rw [h40]; exact hs.2.1) hq' hq5 (by rw [P1.2.1]; exact hF)
    refine ⟨_, hh, ?_⟩
    rw [hz]
    exact RP_fault (RF_trans P1.1 (RF_st hw hq' hq5 hp' hp2)) (by rw [zrow_ne (by rcases hw with h | h <;> omega)]; exact P1.2.1) hF
theorem rd8 {z : zZ} {w n f : Nat} {b : Row} (hw : isLw w) (hn : n ≤ 200) (h7 : RD z w n b f 9 4 7 (cPce z)) (h6 : RDj z w n b f 8 1 7 5 (cPrtR z)) : RDj z w n b (f + 1) 8 1 7 5 (cPrtR z) := by
  intro js i e o p q μ hs hp ho hf hq he hi hc
  have w1 : w ≠ 1 ∧ w + 4 ≠ 1 ∧ 1 ≠ w + 4 := by rcases hw with h | h <;> omega
  unfold cPrtR
  by_cases hsg : tx b n p = 38
  · have hpn : p < n := tx_lt hsg (by decide)
    have hl : ln b n (f + 1) 8 o p = 1 + ln b n f 9 o (p + 1) + ln b n f 8 o (pz b n f 9 o (p + 1)).2 := by simp only [ln, Nat.reduceEqDiff, if_false, if_true, if_pos hsg]
    have hcd : ∀ st t, cdC b st n (f + 1) 8 o p q t = (st q = ((5 + 16 * t : Nat) : Int) ∧ cdC b st n f 9 o (p + 1) (q + 1) 0 ∧ cdC b st n f 8 o (pz b n f 9 o (p + 1)).2 (q + 1 + ln b n f 9 o (p + 1)) t) := fun st t => by simp only [cdC, Nat.reduceEqDiff, if_false, if_true, if_pos hsg]
    have hs1 := RS_next hw hs
    have hlen := chn_len js hc
    have hj := s_putJump (z := z) (d := e) (k := 5) (l := lk js) (by omega) hw hs1.2.2.2.2.2.1 (by omega) (by omega) (by omega)
    simp -implicitDefEqProofs only [Int.cast_ofNat_Int] at hj
    have hT := RS_put (x := ((5 + 16 * lk js : Nat) : Int)) hw hs1
    obtain ⟨M1, r1, P1⟩ := h7 e o (p + 1) (q + 1) _ hT hpn ho (by omega) (by omega) he
    unfold cPce at r1
    have rf1 : RF w n μ (zup μ 1 2 ((p + 1 : Nat) : Int)) := RF_1 hw (Or.inl rfl) (by omega) hs.2.2.2.2.2.1 hpn zup_hit
    have pf := ptM_fr (μ := zup μ 1 2 ((p + 1 : Nat) : Int)) (w := w) (x := ((5 + 16 * lk js : Nat) : Int)) (show q < 256 by omega)
    have rf2 := RF_trans rf1 (RF_trans (RF_pfr hw pf hpn zup_hit) P1.1)
    rw [e_Rdr_readPart_9 _ _ _ _ _ _ hs.1, cF (by omega), nT hs.2.2.2.2.1, s_peek (by omega) hs.2.2.1 hs.2.2.2.1 (by omega), hs.2.2.2.2.2.2]
    simp -implicitDefEqProofs only [ob]
    rw [e_Rdr_readPart_33 _ _ _ _ _ _ _ hs.1 w hw hs.2.1, nT hsg, hs.2.2.1, zwc (by omega), hj]
    simp -implicitDefEqProofs only [ob]
    rw [r1]
    simp -implicitDefEqProofs only [ob]
    rw [zwc (by omega)]
    by_cases hF : (pz b n f 9 o (p + 1)).1 = 0
    · have hz : pz b n (f + 1) 8 o p = pz b n f 8 o (pz b n f 9 o (p + 1)).2 := by
        simp only [pz, Nat.reduceEqDiff, if_false, if_true, if_pos hsg]
        rw [if_neg (by intro h; exact h hF)]
      have zl := pz_ln f 9 o (p + 1) hpn hF
      obtain ⟨a1, a2, a3, a4⟩ := P1.2.2 hF
      have hU := RF_RS hw P1.1 hT (by rw [P1.2.1, hF]) a1 a2
      have hst : ∀ j, j < q + 1 → M1 (w + 4) j = rup (μ (w + 4)) q ((5 + 16 * lk js : Nat) : Int) j := by
        intro j hj
        rw [a3 j hj (by simp), ptM_st, zup_ro w1.2.1]
      have hch : chn 5 (M1 (w + 4)) (q + 1 + ln b n f 9 o (p + 1)) (q :: js) := by
        refine ⟨by rw [hst q (by omega), rup_same], by omega, fun x hx => chn_mem js x hx hc, chn_congr js (fun x hx => ?_) (chn_mono (by omega) js hc)⟩
        have := chn_mem js x hx hc
        rw [hst x (by omega), rup_ne (by omega)]
      obtain ⟨M3, r3, P3⟩ := h6 (q :: js) (i + 1) e o _ _ M1 hU zl.1 ho (by omega) (by omega) he (by omega) hch
      have e1 : (q : Int) = ((lk (q :: js) : Nat) : Int) - 1 := by show _ = ((q + 1 : Nat) : Int) - 1; omega
      unfold cPrtR at r3
      rw [← e1] at r3
      refine ⟨M3, r3, ?_⟩
      rw [hz, hl]
      refine ⟨RF_trans rf2 P3.1, P3.2.1, fun hF3 => ?_⟩
      obtain ⟨b1, b2, b3, b4, b5⟩ := P3.2.2 hF3
      refine ⟨b1, by rw [b2]; congr 1; omega, fun j hj hn' => ?_, fun j hj => ?_, ?_⟩
      · rw [b3 j (by omega) (by intro h; cases h with
          | head => omega
          | tail _ h => exact hn' h), hst j (by omega), rup_ne (by omega)]
      · rw [b4 j (List.mem_cons_of_mem _ hj)]
        congr 1
        omega
      · rw [hcd]
        have et : q + (1 + ln b n f 9 o (p + 1) + ln b n f 8 o (pz b n f 9 o (p + 1)).2) = q + 1 + ln b n f 9 o (p + 1) + ln b n f 8 o (pz b n f 9 o (p + 1)).2 := by omega
        rw [et]
        refine ⟨b4 q (List.mem_cons_self ..), cdC_congr _ _ _ _ _ _ (M1 (w + 4)) _ (fun j h1 h2 => b3 j h2 (by intro h; cases h with
          | head => omega
          | tail _ h => have := chn_mem js j h hc; omega)) a4, b5⟩
    · have hz : pz b n (f + 1) 8 o p = pz b n f 9 o (p + 1) := by
        simp only [pz, Nat.reduceEqDiff, if_false, if_true, if_pos hsg]
        rw [if_pos hF]
      have h40 := RF_40 hw rf2
      obtain ⟨q', hq', hq5⟩ := P1.1.2.2.2.1
      obtain ⟨p', hp', hp2⟩ := P1.1.2.2.2.2
      obtain ⟨h, hh⟩ := s_prtR_f (z := z) (e := e) (v1 := (o : Int)) (v2 := (q : Int)) (v3 := ((i + 1 : Nat) : Int)) (by omega) hw (by rw [h40]; exact hs.1) (by rw [h40]; exact hs.2.1) hq' hq5 (by rw [P1.2.1]; exact hF)
      refine ⟨_, hh, ?_⟩
      rw [hz]
      exact RP_fault (RF_trans rf2 (RF_st hw hq' hq5 hp' hp2)) (by rw [zrow_ne w1.2.2]; exact P1.2.1) hF
  · have hz : pz b n (f + 1) 8 o p = (0, p) := by simp only [pz, Nat.reduceEqDiff, if_false, if_true, if_neg hsg]
    have hl : ln b n (f + 1) 8 o p = 0 := by simp only [ln, Nat.reduceEqDiff, if_false, if_true, if_neg hsg]
    have hcd : ∀ st t, cdC b st n (f + 1) 8 o p q t := fun st t => by simp only [cdC, Nat.reduceEqDiff, if_false, if_true, if_neg hsg]
    have h72 : f_Rdr_readPart_72 z e ((lk js : Int) - 1) μ = some (0, zrow μ (w + 4) (pat 5 q (μ (w + 4)) js)) := by
      rw [e_Rdr_readPart_72 _ _ _ _ w hw hs.2.1, s_aimHere (by omega) hw (by omega) (by omega) hs.2.2.2.2.2.1 hc]
      rfl
    refine ⟨zrow μ (w + 4) (pat 5 q (μ (w + 4)) js), ?_, ?_⟩
    · rw [e_Rdr_readPart_9 _ _ _ _ _ _ hs.1, h72, nT hs.2.2.2.2.1, s_peek (by omega) hs.2.2.1 hs.2.2.2.1 (by omega), hs.2.2.2.2.2.2]
      simp -implicitDefEqProofs only [ob]
      rw [e_Rdr_readPart_33 _ _ _ _ _ _ _ hs.1 w hw hs.2.1, nF hsg, h72]
      cases decide ((200 : Int) ≤ (i : Int)) <;> rfl
    · rw [hz, hl]
      refine ⟨RF_st hw (by omega) hs.2.2.2.2.2.1 hp hs.2.2.1, by rw [zrow_ne w1.2.2]; exact hs.2.2.2.2.1, fun _ => ⟨by rw [zrow_ne w1.2.2]; exact hs.2.2.1, by rw [zrow_ne (by omega)]; exact hs.2.2.2.2.2.1, fun j _ hj => by rw [zrow_same]; exact pat_out js _ j hj, fun j hj => by rw [zrow_same]; exact pat_in js _ j hj (chn_sorted hc) hc, hcd _ _⟩⟩
