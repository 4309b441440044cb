/-! the class reads a law's text: sums -/
def RD (z : zZ) (w n : Nat) (b : Row) (f m c dm : Nat) (call : Nat → Nat → Mu → mR) : Prop := ∀ (d o p q : Nat) (μ : Mu), RS w μ b n p q → p ≤ n → o ≤ 6 → 8 * (n - p) + c ≤ f → q + (n - p) ≤ 250 → 8 * (7 - o) + dm ≤ d → ∃ M, call d o μ = some (0, M) ∧ RP w n μ M (pz b n f m o p).1 (pz b n f m o p).2 q (ln b n f m o p) [] (fun st => cdC b st n f m o p q 0)
def RDr (z : zZ) (w n : Nat) (b : Row) (f m c dm : Nat) (call : Nat → Nat → Nat → Mu → mR) : Prop := ∀ (i d o p q : Nat) (μ : Mu), RS w μ b n p q → p ≤ n → o ≤ 6 → 8 * (n - p) + c ≤ f → q + (n - p) ≤ 250 → 8 * (7 - o) + dm ≤ d → i + (n - p) ≤ 200 → ∃ M, call i d o μ = some (0, M) ∧ RP w n μ M (pz b n f m o p).1 (pz b n f m o p).2 q (ln b n f m o p) [] (fun st => cdC b st n f m o p q 0)
def RDj (z : zZ) (w n : Nat) (b : Row) (f m c dm k : Nat) (call : List Nat → Nat → Nat → Nat → Mu → mR) : Prop := ∀ (js : List Nat) (i d o p q : Nat) (μ : Mu), RS w μ b n p q → p ≤ n → o ≤ 6 → 8 * (n - p) + c ≤ f → q + (n - p) ≤ 250 → 8 * (7 - o) + dm ≤ d → i + (n - p) ≤ 200 → chn k (μ (w + 4)) q js → ∃ M, call js i d o μ = some (0, M) ∧ RP w n μ M (pz b n f m o p).1 (pz b n f m o p).2 q (ln b n f m o p) js (fun st => (∀ j, j ∈ js → st j = ((k + 16 * (q + ln b n f m o p) : Nat) : Int)) ∧ cdC b st n f m o p q (q + ln b n f m o p))
noncomputable def cSum (z : zZ) (d o : Nat) (μ : Mu) : mR := mC z d 48 [(2, 40), (0, (o : Int))] μ
noncomputable def cPrd (z : zZ) (d o : Nat) (μ : Mu) : mR := mC z d 49 [(2, 40), (0, (o : Int))] μ
noncomputable def cFac (z : zZ) (d o : Nat) (μ : Mu) : mR := mC z d 50 [(2, 40), (0, (o : Int))] μ
noncomputable def cCnd (z : zZ) (d o : Nat) (μ : Mu) : mR := mC z d 56 [(2, 40), (0, (o : Int))] μ
noncomputable def cPrt (z : zZ) (d o : Nat) (μ : Mu) : mR := mC z d 57 [(2, 40), (0, (o : Int))] μ
noncomputable def cPce (z : zZ) (d o : Nat) (μ : Mu) : mR := mC z d 58 [(2, 40), (0, (o : Int))] μ
noncomputable def cSumR (z : zZ) (i d o : Nat) (μ : Mu) : mR := f_Rdr_readSum_7 z d (o : Int) (i : Int) μ
noncomputable def cPrdR (z : zZ) (i d o : Nat) (μ : Mu) : mR := f_Rdr_readProduct_7 z d (o : Int) (i : Int) μ
noncomputable def cCndR (z : zZ) (js : List Nat) (i d o : Nat) (μ : Mu) : mR := f_Rdr_readCondition_9 z d (o : Int) ((lk js : Int) - 1) (i : Int) μ
noncomputable def cPrtR (z : zZ) (js : List Nat) (i d o : Nat) (μ : Mu) : mR := f_Rdr_readPart_9 z d (o : Int) ((lk js : Int) - 1) (i : Int) μ
theorem RP_fault {w n : Nat} {μ M : Mu} {F : Int} {E q L : Nat} {js : List Nat} {C : Row → Prop} (h : RF w n μ M) (h4 : M 1 4 = F) (hF : F ≠ 0) : RP w n μ M F E q L js C := ⟨h, h4, fun q => absurd q hF⟩
theorem RF_40 {w n : Nat} {μ M : Mu} (hw : isLw w) (h : RF w n μ M) : M 40 = μ 40 := by
  have w40 : 40 ≠ w ∧ 40 ≠ w + 4 := by rcases hw with h | h <;> omega
  exact h.1 40 (by omega) w40.1 w40.2
theorem s_sumR_f {z : zZ} {e : Nat} {v i : Int} {M : Mu} (h40 : M 40 0 = 2) (h4 : M 1 4 ≠ 0) : f_Rdr_readSum_7 z e v i M = some (0, M) := by
  rw [e_Rdr_readSum_7 _ _ _ _ _ h40, nF h4, e_Rdr_readSum_64]
  cases decide (200 ≤ i) <;> rfl
theorem s_prdR_f {z : zZ} {e : Nat} {v i : Int} {M : Mu} (h40 : M 40 0 = 2) (h4 : M 1 4 ≠ 0) : f_Rdr_readProduct_7 z e v i M = some (0, M) := by
  rw [e_Rdr_readProduct_7 _ _ _ _ _ h40, nF h4, e_Rdr_readProduct_64]
  cases decide (200 ≤ i) <;> rfl
theorem RP_seq {w n : Nat} {μ M1 M2 : Mu} {F2 : Int} {E1 E2 q L1 L2 : Nat} {C1 C2 : Row → Prop} (P1 : RP w n μ M1 0 E1 q L1 [] C1) (P2 : RP w n M1 M2 F2 E2 (q + L1) L2 [] C2) (hC : ∀ st st' : Row, (∀ j, q ≤ j → j < q + L1 → st' j = st j) → C1 st → C1 st') : RP w n μ M2 F2 E2 q (L1 + L2) [] (fun st => C1 st ∧ C2 st) := by
  refine ⟨RF_trans P1.1 P2.1, P2.2.1, fun hF => ?_⟩
  obtain ⟨a1, a2, a3, a4⟩ := P1.2.2 rfl
  obtain ⟨b1, b2, b3, b4⟩ := P2.2.2 hF
  refine ⟨b1, by rw [b2, Nat.add_assoc], fun j hj _ => ?_, hC _ _ (fun j h1 h2 => b3 j h2 (by simp)) a4, b4⟩
  rw [b3 j (by omega) (by simp), a3 j hj (by simp)]
/-- a sign, a piece, its step, the rest -/
theorem RP_rest {w n p : Nat} {μ M1 M3 : Mu} {b : Row} {F3 x : Int} {E1 E3 q L1 L2 : Nat} {C1 C2 : Row → Prop} (hw : isLw w) (hs : RS w μ b n p q) (hp : p < n) (hq : q + L1 < 256) (hE : E1 ≤ n) (P1 : RP w n (zup μ 1 2 ((p + 1 : Nat) : Int)) M1 0 E1 q L1 [] C1) (P2 : RP w n (ptM M1 w (q + L1) x) M3 F3 E3 (q + L1 + 1) L2 [] C2) (hC : ∀ st st' : Row, (∀ j, q ≤ j → j < q + L1 → st' j = st j) → C1 st → C1 st') : RP w n μ M3 F3 E3 q (L1 + 1 + L2) [] (fun st => C1 st ∧ st (q + L1) = x ∧ C2 st) := by
  have w4 : w + 4 ≠ 1 := by omega
  obtain ⟨a1, a2, a3, a4⟩ := P1.2.2 rfl
  refine ⟨RF_trans (RF_1 hw (Or.inl rfl) (by omega) hs.2.2.2.2.2.1 hp zup_hit) (RF_trans P1.1 (RF_trans (RF_pfr hw (ptM_fr hq) hE a1) P2.1)), P2.2.1, fun hF => ?_⟩
  obtain ⟨b1, b2, b3, b4⟩ := P2.2.2 hF
  have hst : ∀ j, j < q + L1 → M3 (w + 4) j = M1 (w + 4) j := by
    intro j hj
    rw [b3 j (by omega) (by simp), ptM_st, rup_ne (by omega)]
  refine ⟨b1, by rw [b2]; congr 1; omega, fun j hj _ => ?_, hC _ _ (fun j h1 h2 => hst j h2) a4, ?_, b4⟩
  · rw [hst j (by omega), a3 j hj (by simp), zup_ro w4]
  · rw [b3 _ (by omega) (by simp), ptM_st, rup_same]
theorem RS_next {w n p q : Nat} {μ : Mu} {b : Row} (hw : isLw w) (hs : RS w μ b n p q) : RS w (zup μ 1 2 ((p + 1 : Nat) : Int)) b n (p + 1) q := by
  have w1 : w ≠ 1 := by rcases hw with h | h <;> omega
  obtain ⟨a1, a2, a3, a4, a5, a6, a7⟩ := hs
  exact ⟨by rw [zup_ro (by omega)]; exact a1, by rw [zup_ro (by omega)]; exact a2, zup_hit, by rw [zup_nk (by omega)]; exact a4, by rw [zup_nk (by omega)]; exact a5, by rw [zup_ro w1]; exact a6, by rw [zup_ro (by omega)]; exact a7⟩
theorem RS_put {w n p q : Nat} {x : Int} {μ : Mu} {b : Row} (hw : isLw w) (hs : RS w μ b n p q) : RS w (ptM μ w q x) b n p (q + 1) := by
  have w1 : 1 ≠ w ∧ 1 ≠ w + 4 ∧ 40 ≠ w ∧ 40 ≠ w + 4 ∧ 2 ≠ w ∧ 2 ≠ w + 4 := by rcases hw with h | h <;> omega
  have r : ∀ a, a ≠ w → a ≠ w + 4 → ptM μ w q x a = μ a := fun a h1 h2 => by unfold ptM; rw [zup_ro h1, zup_ro h2]
  obtain ⟨a1, a2, a3, a4, a5, a6, a7⟩ := hs
  exact ⟨by rw [r 40 w1.2.2.1 w1.2.2.2.1]; exact a1, by rw [r 40 w1.2.2.1 w1.2.2.2.1]; exact a2, by rw [r 1 w1.1 w1.2.1]; exact a3, by rw [r 1 w1.1 w1.2.1]; exact a4, by rw [r 1 w1.1 w1.2.1]; exact a5, ptM_w5, by rw [r 2 w1.2.2.2.2.1 w1.2.2.2.2.2]; exact a7⟩
theorem rd0 {z : zZ} {w n f : Nat} {b : Row} (hw : isLw w) (hn : n ≤ 200) (h2 : RD z w n b f 2 2 5 (cPrd z)) (h1 : RDr z w n b f 1 1 5 (cSumR z)) : RD z w n b (f + 1) 0 3 6 (cSum z) := by
  intro d o p q μ hs hp ho hf hq hd
  obtain ⟨e, rfl, he⟩ := pred_of (k := 8 * (7 - o) + 5) hd
  obtain ⟨M1, r1, P1⟩ := h2 e o p q μ hs hp ho (by omega) hq he
  have hl : ln b n (f + 1) 0 o p = ln b n f 2 o p + ln b n f 1 o (pz b n f 2 o p).2 := by simp only [ln, if_true]
  have hcd : ∀ st, cdC b st n (f + 1) 0 o p q 0 = (cdC b st n f 2 o p q 0 ∧ cdC b st n f 1 o (pz b n f 2 o p).2 (q + ln b n f 2 o p) 0) := fun st => by simp only [cdC, if_true]
  unfold cPrd at r1
  unfold cSum
  rw [c_Rdr_readSum, r1]
  simp -implicitDefEqProofs only [ob]
  by_cases hF : (pz b n f 2 o p).1 = 0
  · have hz : pz b n (f + 1) 0 o p = pz b n f 1 o (pz b n f 2 o p).2 := by
      simp only [pz, if_true]
      rw [if_neg (by intro h; exact h hF)]
    have zl := pz_ln f 2 o p hp hF
    have P1' := P1.2.2 hF
    have hs1 := RF_RS hw P1.1 hs (by rw [P1.2.1, hF]) P1'.1 P1'.2.1
    obtain ⟨M2, r2, P2⟩ := h1 0 e o _ _ M1 hs1 zl.1 ho (by omega) (by omega) he (by omega)
    refine ⟨M2, r2, ?_⟩
    rw [hz, hl]
    simp only [hcd]
    rw [hF] at P1
    exact RP_seq P1 P2 (fun st st' hh hc => cdC_congr _ _ _ _ _ _ st st' hh hc)
  · have hz : pz b n (f + 1) 0 o p = pz b n f 2 o p := by
      simp only [pz, if_true]
      rw [if_pos hF]
    refine ⟨M1, s_sumR_f (by rw [RF_40 hw P1.1]; exact hs.1) (by rw [P1.2.1]; exact hF), ?_⟩
    rw [hz]
    exact RP_fault P1.1 P1.2.1 hF
theorem rd2 {z : zZ} {w n f : Nat} {b : Row} (hw : isLw w) (hn : n ≤ 200) (h4 : RD z w n b f 4 1 4 (cFac z)) (h3 : RDr z w n b f 3 1 4 (cPrdR z)) : RD z w n b (f + 1) 2 2 5 (cPrd z) := by
  intro d o p q μ hs hp ho hf hq hd
  obtain ⟨e, rfl, he⟩ := pred_of (k := 8 * (7 - o) + 4) hd
  obtain ⟨M1, r1, P1⟩ := h4 e o p q μ hs hp ho (by omega) hq he
  have hl : ln b n (f + 1) 2 o p = ln b n f 4 o p + ln b n f 3 o (pz b n f 4 o p).2 := by simp only [ln, Nat.reduceEqDiff, if_false, if_true]
  have hcd : ∀ st, cdC b st n (f + 1) 2 o p q 0 = (cdC b st n f 4 o p q 0 ∧ cdC b st n f 3 o (pz b n f 4 o p).2 (q + ln b n f 4 o p) 0) := fun st => by simp only [cdC, Nat.reduceEqDiff, if_false, if_true]
  unfold cFac at r1
  unfold cPrd
  rw [c_Rdr_readProduct, r1]
  simp -implicitDefEqProofs only [ob]
  by_cases hF : (pz b n f 4 o p).1 = 0
  · have hz : pz b n (f + 1) 2 o p = pz b n f 3 o (pz b n f 4 o p).2 := by
      simp only [pz, Nat.reduceEqDiff, if_false, if_true]
      rw [if_neg (by intro h; exact h hF)]
    have zl := pz_ln f 4 o p hp hF
    have P1' := P1.2.2 hF
    have hs1 := RF_RS hw P1.1 hs (by rw [P1.2.1, hF]) P1'.1 P1'.2.1
    obtain ⟨M2, r2, P2⟩ := h3 0 e o _ _ M1 hs1 zl.1 ho (by omega) (by omega) he (by omega)
    refine ⟨M2, r2, ?_⟩
    rw [hz, hl]
    simp only [hcd]
    rw [hF] at P1
    exact RP_seq P1 P2 (fun st st' hh hc => cdC_congr _ _ _ _ _ _ st st' hh hc)
  · have hz : pz b n (f + 1) 2 o p = pz b n f 4 o p := by
      simp only [pz, Nat.reduceEqDiff, if_false, if_true]
      rw [if_pos hF]
    refine ⟨M1, s_prdR_f (by rw [RF_40 hw P1.1]; exact hs.1) (by rw [P1.2.1]; exact hF), ?_⟩
    rw [hz]
    exact RP_fault P1.1 P1.2.1 hF
theorem RP_nil {w n p q : Nat} {μ : Mu} {b : Row} {C : Row → Prop} (hs : RS w μ b n p q) (hp : p ≤ n) (hq : q ≤ 256) (hC : C (μ (w + 4))) : RP w n μ μ 0 p q 0 [] C := ⟨RF_refl hs hp hq, hs.2.2.2.2.1, fun _ => ⟨hs.2.2.1, hs.2.2.2.2.2.1, fun _ _ _ => rfl, hC⟩⟩
theorem rd1 {z : zZ} {w n f : Nat} {b : Row} (hw : isLw w) (hn : n ≤ 200) (h2 : RD z w n b f 2 2 5 (cPrd z)) (h1 : RDr z w n b f 1 1 5 (cSumR z)) : RDr z w n b (f + 1) 1 1 5 (cSumR z) := by
  intro i e o p q μ hs hp ho hf hq he hi
  have w1 : w ≠ 1 := by rcases hw with h | h <;> omega
  unfold cSumR
  by_cases hsg : tx b n p = 43 ∨ tx b n p = 45
  · have hpn : p < n := by rcases hsg with h | h <;> exact tx_lt h (by decide)
    have hl : ln b n (f + 1) 1 o p = ln b n f 2 o (p + 1) + 1 + ln b n f 1 o (pz b n f 2 o (p + 1)).2 := by simp only [ln, Nat.one_ne_zero, if_false, if_true, if_pos hsg]
    have hcd : ∀ st, cdC b st n (f + 1) 1 o p q 0 = (cdC b st n f 2 o (p + 1) q 0 ∧ st (q + ln b n f 2 o (p + 1)) = ((sgs (tx b n p) + 4 : Nat) : Int) ∧ cdC b st n f 1 o (pz b n f 2 o (p + 1)).2 (q + ln b n f 2 o (p + 1) + 1) 0) := fun st => by simp only [cdC, Nat.one_ne_zero, if_false, if_true, if_pos hsg]
    have hs1 := RS_next hw hs
    obtain ⟨M1, r1, P1⟩ := h2 e o (p + 1) q _ hs1 hpn ho (by omega) (by omega) he
    unfold cPrd at r1
    have rf1 : RF w n μ (zup μ 1 2 ((p + 1 : Nat) : Int)) := RF_1 hw (Or.inl rfl) (by omega) hs.2.2.2.2.2.1 hpn zup_hit
    have h40 : M1 40 = μ 40 := RF_40 hw (RF_trans rf1 P1.1)
    have hsgs : 2 ≤ sgs (tx b n p) := by rcases hsg with h | h <;> rw [h] <;> decide
    have hz3 : ¬ zpl 3 (tx b n p) = -1 := fun h => (zpl3 _).mp h hsg
    rw [e_Rdr_readSum_7 _ _ _ _ _ hs.1, cF (by omega), nT hs.2.2.2.2.1, s_peek (by omega) hs.2.2.1 hs.2.2.2.1 (by omega), hs.2.2.2.2.2.2]
    simp -implicitDefEqProofs only [ob]
    rw [e_Rdr_readSum_33 _ _ _ _ _ _ hs.1, cF hz3, s_takeByte (by omega) hs.2.2.1 hs.2.2.2.1 (by omega) (by omega), hs.2.2.2.2.2.2]
    simp -implicitDefEqProofs only [ob]
    rw [r1]
    simp -implicitDefEqProofs only [ob]
    rw [zwc (by omega)]
    by_cases hF : (pz b n f 2 o (p + 1)).1 = 0
    · have hz : pz b n (f + 1) 1 o p = pz b n f 1 o (pz b n f 2 o (p + 1)).2 := by
        simp only [pz, Nat.one_ne_zero, if_false, if_true, if_pos hsg]
        rw [if_neg (by intro h; exact h hF)]
      have zl := pz_ln f 2 o (p + 1) hpn hF
      have P1' := P1.2.2 hF
      have hs2 := RF_RS hw P1.1 hs1 (by rw [P1.2.1, hF]) P1'.1 P1'.2.1
      rw [s_putSign (t := sgs (tx b n p)) (by omega) hw hs2.2.1 hs2.2.2.2.2.2.1 (by omega) hsgs (sgs_le _) rfl]
      simp -implicitDefEqProofs only [ob]
      obtain ⟨M3, r3, P3⟩ := h1 (i + 1) e o _ _ _ (RS_put (x := ((sgs (tx b n p) + 4 : Nat) : Int)) hw hs2) zl.1 ho (by omega) (by omega) he (by omega)
      refine ⟨M3, r3, ?_⟩
      rw [hz, hl]
      simp only [hcd]
      rw [hF] at P1
      exact RP_rest hw hs hpn (by omega) zl.1 P1 P3 (fun st st' hh hc => cdC_congr _ _ _ _ _ _ st st' hh hc)
    · have hz : pz b n (f + 1) 1 o p = pz b n f 2 o (p + 1) := by
        simp only [pz, Nat.one_ne_zero, if_false, if_true, if_pos hsg]
        rw [if_pos hF]
      obtain ⟨q', hq', hq5⟩ := P1.1.2.2.2.1
      obtain ⟨p', hp', hp2⟩ := P1.1.2.2.2.2
      obtain ⟨M2, r2, pf⟩ := s_putSign_any (z := z) (d := e) (c := tx b n p) (by omega) hw (by rw [h40]; exact hs.2.1) hq5 hq'
      have rf2 := RF_pfr hw pf hp' hp2
      have w14 : 1 ≠ w ∧ 1 ≠ w + 4 := by rcases hw with h | h <;> omega
      have f4 : M2 1 4 = (pz b n f 2 o (p + 1)).1 := by rw [pf.1 1 w14.1 w14.2]; exact P1.2.1
      rw [r2]
      simp -implicitDefEqProofs only [ob]
      refine ⟨M2, s_sumR_f (by rw [RF_40 hw rf2, h40]; exact hs.1) (by rw [f4]; exact hF), ?_⟩
      rw [hz]
      exact RP_fault (RF_trans rf1 (RF_trans P1.1 rf2)) f4 hF
  · have hz : pz b n (f + 1) 1 o p = (0, p) := by simp only [pz, Nat.one_ne_zero, if_false, if_true, if_neg hsg]
    have hl : ln b n (f + 1) 1 o p = 0 := by simp only [ln, Nat.one_ne_zero, if_false, if_true, if_neg hsg]
    have hcd : ∀ st, cdC b st n (f + 1) 1 o p q 0 := fun st => by simp only [cdC, Nat.one_ne_zero, if_false, if_true, if_neg hsg]
    have hz3 : zpl 3 (tx b n p) = -1 := (zpl3 _).mpr hsg
    refine ⟨μ, ?_, ?_⟩
    · rw [e_Rdr_readSum_7 _ _ _ _ _ hs.1, nT hs.2.2.2.2.1, s_peek (by omega) hs.2.2.1 hs.2.2.2.1 (by omega), hs.2.2.2.2.2.2]
      simp -implicitDefEqProofs only [ob]
      rw [e_Rdr_readSum_33 _ _ _ _ _ _ hs.1, cT hz3, e_Rdr_readSum_64]
      cases decide ((200 : Int) ≤ (i : Int)) <;> rfl
    · rw [hz, hl]
      exact RP_nil hs hp (by omega) (hcd _)
theorem rd3 {z : zZ} {w n f : Nat} {b : Row} (hw : isLw w) (hn : n ≤ 200) (h2 : RD z w n b f 4 1 4 (cFac z)) (h1 : RDr z w n b f 3 1 4 (cPrdR z)) : RDr z w n b (f + 1) 3 1 4 (cPrdR z) := by
  intro i e o p q μ hs hp ho hf hq he hi
  have w1 : w ≠ 1 := by rcases hw with h | h <;> omega
  unfold cPrdR
  by_cases hsg : tx b n p = 42 ∨ tx b n p = 47 ∨ tx b n p = 37
  · have hpn : p < n := by rcases hsg with h | h | h <;> exact tx_lt h (by decide)
    have hl : ln b n (f + 1) 3 o p = ln b n f 4 o (p + 1) + 1 + ln b n f 3 o (pz b n f 4 o (p + 1)).2 := by simp only [ln, Nat.reduceEqDiff, if_false, if_true, if_pos hsg]
    have hcd : ∀ st, cdC b st n (f + 1) 3 o p q 0 = (cdC b st n f 4 o (p + 1) q 0 ∧ st (q + ln b n f 4 o (p + 1)) = ((sgs (tx b n p) + 4 : Nat) : Int) ∧ cdC b st n f 3 o (pz b n f 4 o (p + 1)).2 (q + ln b n f 4 o (p + 1) + 1) 0) := fun st => by simp only [cdC, Nat.reduceEqDiff, if_false, if_true, if_pos hsg]
    have hs1 := RS_next hw hs
    obtain ⟨M1, r1, P1⟩ := h2 e o (p + 1) q _ hs1 hpn ho (by omega) (by omega) he
    unfold cFac at r1
    have rf1 : RF w n μ (zup μ 1 2 ((p + 1 : Nat) : Int)) := RF_1 hw (Or.inl rfl) (by omega) hs.2.2.2.2.2.1 hpn zup_hit
    have h40 : M1 40 = μ 40 := RF_40 hw (RF_trans rf1 P1.1)
    have hsgs : 2 ≤ sgs (tx b n p) := by rcases hsg with h | h | h <;> rw [h] <;> decide
    have hz3 : ¬ zpl 4 (tx b n p) = -1 := fun h => (zpl4 _).mp h hsg
    rw [e_Rdr_readProduct_7 _ _ _ _ _ hs.1, cF (by omega), nT hs.2.2.2.2.1, s_peek (by omega) hs.2.2.1 hs.2.2.2.1 (by omega), hs.2.2.2.2.2.2]
    simp -implicitDefEqProofs only [ob]
    rw [e_Rdr_readProduct_33 _ _ _ _ _ _ hs.1, cF hz3, s_takeByte (by omega) hs.2.2.1 hs.2.2.2.1 (by omega) (by omega), hs.2.2.2.2.2.2]
    simp -implicitDefEqProofs only [ob]
    rw [r1]
    simp -implicitDefEqProofs only [ob]
    rw [zwc (by omega)]
    by_cases hF : (pz b n f 4 o (p + 1)).1 = 0
    · have hz : pz b n (f + 1) 3 o p = pz b n f 3 o (pz b n f 4 o (p + 1)).2 := by
        simp only [pz, Nat.reduceEqDiff, if_false, if_true, if_pos hsg]
        rw [if_neg (by intro h; exact h hF)]
      have zl := pz_ln f 4 o (p + 1) hpn hF
      have P1' := P1.2.2 hF
      have hs2 := RF_RS hw P1.1 hs1 (by rw [P1.2.1, hF]) P1'.1 P1'.2.1
      rw [s_putSign (t := sgs (tx b n p)) (by omega) hw hs2.2.1 hs2.2.2.2.2.2.1 (by omega) hsgs (sgs_le _) rfl]
      simp -implicitDefEqProofs only [ob]
      obtain ⟨M3, r3, P3⟩ := h1 (i + 1) e o _ _ _ (RS_put (x := ((sgs (tx b n p) + 4 : Nat) : Int)) hw hs2) zl.1 ho (by omega) (by omega) he (by omega)
      refine ⟨M3, r3, ?_⟩
      rw [hz, hl]
      simp only [hcd]
      rw [hF] at P1
      exact RP_rest hw hs hpn (by omega) zl.1 P1 P3 (fun st st' hh hc => cdC_congr _ _ _ _ _ _ st st' hh hc)
    · have hz : pz b n (f + 1) 3 o p = pz b n f 4 o (p + 1) := by
        simp only [pz, Nat.reduceEqDiff, if_false, if_true, if_pos hsg]
        rw [if_pos hF]
      obtain ⟨q', hq', hq5⟩ := P1.1.2.2.2.1
      obtain ⟨p', hp', hp2⟩ := P1.1.2.2.2.2
      obtain ⟨M2, r2, pf⟩ := s_putSign_any (z := z) (d := e) (c := tx b n p) (by omega) hw (by rw [h40]; exact hs.2.1) hq5 hq'
      have rf2 := RF_pfr hw pf hp' hp2
      have w14 : 1 ≠ w ∧ 1 ≠ w + 4 := by rcases hw with h | h <;> omega
      have f4 : M2 1 4 = (pz b n f 4 o (p + 1)).1 := by rw [pf.1 1 w14.1 w14.2]; exact P1.2.1
      rw [r2]
      simp -implicitDefEqProofs only [ob]
      refine ⟨M2, s_prdR_f (by rw [RF_40 hw rf2, h40]; exact hs.1) (by rw [f4]; exact hF), ?_⟩
      rw [hz]
      exact RP_fault (RF_trans rf1 (RF_trans P1.1 rf2)) f4 hF
  · have hz : pz b n (f + 1) 3 o p = (0, p) := by simp only [pz, Nat.reduceEqDiff, if_false, if_true, if_neg hsg]
    have hl : ln b n (f + 1) 3 o p = 0 := by simp only [ln, Nat.reduceEqDiff, if_false, if_true, if_neg hsg]
    have hcd : ∀ st, cdC b st n (f + 1) 3 o p q 0 := fun st => by simp only [cdC, Nat.reduceEqDiff, if_false, if_true, if_neg hsg]
    have hz3 : zpl 4 (tx b n p) = -1 := (zpl4 _).mpr hsg
    refine ⟨μ, ?_, ?_⟩
    · rw [e_Rdr_readProduct_7 _ _ _ _ _ hs.1, nT hs.2.2.2.2.1, s_peek (by omega) hs.2.2.1 hs.2.2.2.1 (by omega), hs.2.2.2.2.2.2]
      simp -implicitDefEqProofs only [ob]
      rw [e_Rdr_readProduct_33 _ _ _ _ _ _ hs.1, cT hz3, e_Rdr_readProduct_64]
      cases decide ((200 : Int) ≤ (i : Int)) <;> rfl
    · rw [hz, hl]
      exact RP_nil hs hp (by omega) (hcd _)
