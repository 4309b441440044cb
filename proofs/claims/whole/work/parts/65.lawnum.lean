/-! numbers in the law's text, the class -/
theorem isg_b {b : Row} {n p : Nat} (h : isg b n p = true) : 48 ≤ b p ∧ b p ≤ 57 := by
  have h2 := isg_lt h
  unfold isg at h
  rw [tx_in h2] at h
  simpa using h
theorem dgv_lt {b : Row} {p : Nat} : ∀ k, (∀ j, j < k → 48 ≤ b (p + j) ∧ b (p + j) ≤ 57) → dgv b p k < 10 ^ k := by
  intro k
  induction k with
  | zero => intro _; simp [dgv]
  | succ k ih =>
    intro h
    have h1 := ih (fun j hj => h j (by omega))
    have h2 := h k (by omega)
    unfold dgv
    rw [Nat.pow_succ]
    omega
theorem dgv_step {v : Nat} {x : Int} (hv : v < 100000) (h1 : 48 ≤ x) (h2 : x ≤ 57) : zw (zw (zw ((v : Int) * 10) + x) - 48) = ((v * 10 + (x - 48).toNat : Nat) : Int) := by
  rw [zw_id (x := (v : Int) * 10) (by omega) (by omega), zw_id (x := (v : Int) * 10 + x) (by omega) (by omega), zw_id (by omega) (by omega)]
  omega
theorem s_readNumber {z : zZ} {d p n w q : Nat} {μ : Mu} (hd : 3 ≤ d) (hw : isLw w) (h40 : μ 40 0 = 2) (h41 : μ 40 1 = ((w : Nat) : Int) + 1) (h2 : μ 1 2 = (p : Int)) (h3 : μ 1 3 = (n : Int)) (h4 : μ 1 4 = 0) (hn : n ≤ 220) (hq : μ w 5 = (q : Int)) (hq2 : q < 256) (hg : isg (μ 2) n p = true) : mC z d 53 [(2, 40)] μ = some (0, if dgn (μ 2) n p = 6 then ptM (zup (zup μ 1 2 ((p + 5 : Nat) : Int)) 1 4 (-2000 - ((p + 5 : Nat) : Int))) w q ((1 + 16 * dgv (μ 2) p 5 : Nat) : Int) else ptM (zup μ 1 2 ((p + dgn (μ 2) n p : Nat) : Int)) w q ((1 + 16 * dgv (μ 2) p (dgn (μ 2) n p) : Nat) : Int)) := by
  obtain ⟨e, rfl, he⟩ := pred_of hd
  have hall : ∀ k, k < dgn (μ 2) n p → isg (μ 2) n (p + k) = true := wl9_all (isg (μ 2) n) 6 p
  have hend : dgn (μ 2) n p < 6 → isg (μ 2) n (p + dgn (μ 2) n p) = false := wl9_end (isg (μ 2) n) 6 p
  have hle : dgn (μ 2) n p ≤ 6 := wl9_le (isg (μ 2) n) 6 p
  have hbv : ∀ k, k ≤ 5 → k ≤ dgn (μ 2) n p → dgv (μ 2) p k < 100000 := by
    intro k hk hk2
    have h1 := dgv_lt (b := μ 2) (p := p) k (fun j hj => isg_b (hall j (by omega)))
    have h5 : 10 ^ k ≤ 10 ^ 5 := Nat.pow_le_pow_right (by omega) hk
    omega
  have hwn : w ≠ 1 ∧ w ≠ 40 ∧ w ≠ 2 := by rcases hw with h | h <;> omega
  have r3 : ∀ v : Int, zup μ 1 2 v 1 3 = (n : Int) := fun v => by rw [zup_nk (by omega)]; exact h3
  have rb : ∀ v : Int, zup μ 1 2 v 2 = μ 2 := fun v => zup_ro (by omega)
  have r40 : ∀ v : Int, zup μ 1 2 v 40 = μ 40 := fun v => zup_ro (by omega)
  have r4 : ∀ v : Int, zup μ 1 2 v 1 4 = 0 := fun v => by rw [zup_nk (by omega)]; exact h4
  have hput : ∀ (M : Mu) (v : Nat), v < 100000 → M 40 1 = ((w : Nat) : Int) + 1 → M w 5 = (q : Int) → f_Rdr_readNumber_66 z e (v : Int) M = some (0, ptM M w q ((1 + 16 * v : Nat) : Int)) := by
    intro M v hv m1 m2
    have hp := s_put (z := z) (d := e) (k := 1) (v := v) (μ := M) (by omega) hw m2 hq2 (by omega) (by omega)
    simp -implicitDefEqProofs only [Int.natCast_one] at hp
    rw [e_Rdr_readNumber_66 _ _ _ _ w hw m1, hp]
    rfl
  have hdig : ∀ k : Nat, mC z e 52 [(2, 1)] (zup μ 1 2 ((p + k : Nat) : Int)) = some (bi (isg (μ 2) n (p + k)), zup μ 1 2 ((p + k : Nat) : Int)) := by
    intro k
    rw [s_atDigit (by omega) zup_hit (r3 _) hn, rb]
  generalize hR : (if dgn (μ 2) n p = 6 then ptM (zup (zup μ 1 2 ((p + 5 : Nat) : Int)) 1 4 (-2000 - ((p + 5 : Nat) : Int))) w q ((1 + 16 * dgv (μ 2) p 5 : Nat) : Int) else ptM (zup μ 1 2 ((p + dgn (μ 2) n p : Nat) : Int)) w q ((1 + 16 * dgv (μ 2) p (dgn (μ 2) n p) : Nat) : Int)) = R
  rw [c_Rdr_readNumber]
  have H := down (n := if dgn (μ 2) n p = 6 then 5 else dgn (μ 2) n p) (P := fun k => f_Rdr_readNumber_4 z e ((dgv (μ 2) p k : Nat) : Int) (k : Int) (zup μ 1 2 ((p + k : Nat) : Int)) = some (0, R))
    (by
      have m40 : ∀ v : Int, zup μ 1 2 v 40 0 = 2 := fun v => by rw [r40]; exact h40
      have m41 : ∀ v : Int, zup μ 1 2 v 40 1 = ((w : Nat) : Int) + 1 := fun v => by rw [r40]; exact h41
      have mw5 : ∀ v : Int, zup μ 1 2 v w 5 = (q : Int) := fun v => by rw [zup_ro hwn.1]; exact hq
      by_cases h6 : dgn (μ 2) n p = 6
      · simp only [if_pos h6] at hR ⊢
        have hyes := hall 5 (by omega)
        have hlt5 := isg_lt hyes
        have hv5 := hbv 5 (by omega) (by omega)
        rw [e_Rdr_readNumber_4 _ _ _ _ _ (m40 _), cT (by omega), e_Rdr_readNumber_41 _ _ _ _ (m40 _), hdig 5, hyes]
        simp -implicitDefEqProofs only [ob]
        rw [e_Rdr_readNumber_48 _ _ _ _ _ (m40 _), bi_t, cF (by omega), zup_hit, s_fail0 (by omega) (r4 _) (by omega) (by omega)]
        simp -implicitDefEqProofs only [ob]
        rw [show (-1000 * 2 - ((p + 5 : Nat) : Int)) = -2000 - ((p + 5 : Nat) : Int) by omega, hput _ _ hv5 (by rw [zup_ro (by omega)]; exact m41 _) (by rw [zup_ro hwn.1]; exact mw5 _), hR]
      · simp only [if_neg h6] at hR ⊢
        have hno := hend (by omega)
        have hvd := hbv (dgn (μ 2) n p) (by omega) (Nat.le_refl _)
        have h41' : f_Rdr_readNumber_41 z e ((dgv (μ 2) p (dgn (μ 2) n p) : Nat) : Int) (zup μ 1 2 ((p + dgn (μ 2) n p : Nat) : Int)) = some (0, R) := by
          rw [e_Rdr_readNumber_41 _ _ _ _ (m40 _), hdig, hno]
          simp -implicitDefEqProofs only [ob]
          rw [e_Rdr_readNumber_48 _ _ _ _ _ (m40 _), bi_f, cT rfl, hput _ _ hvd (m41 _) (mw5 _), hR]
        rw [e_Rdr_readNumber_4 _ _ _ _ _ (m40 _)]
        by_cases h5 : dgn (μ 2) n p = 5
        · rw [cT (by omega)]
          exact h41'
        · rw [cF (by omega), hdig, hno]
          simp -implicitDefEqProofs only [ob]
          rw [e_Rdr_readNumber_16 _ _ _ _ _ _ (m40 _), bi_f, cT rfl]
          exact h41')
    (by
      intro k hk ih
      have hk5 : k < 5 := by split at hk <;> omega
      have hkd : k < dgn (μ 2) n p := by split at hk <;> omega
      have m40 : ∀ v : Int, zup μ 1 2 v 40 0 = 2 := fun v => by rw [r40]; exact h40
      have hyes := hall k hkd
      have hlt := isg_lt hyes
      have hbk := isg_b hyes
      have hvk := hbv k (by omega) (by omega)
      rw [e_Rdr_readNumber_4 _ _ _ _ _ (m40 _), cF (by omega), hdig, hyes]
      simp -implicitDefEqProofs only [ob]
      rw [e_Rdr_readNumber_16 _ _ _ _ _ _ (m40 _), bi_t, cF (by omega), s_takeByte (p := p + k) (n := n) he zup_hit (r3 _) hn (by omega), rb, tx_in hlt, zup_zup]
      simp -implicitDefEqProofs only [ob]
      rw [dgv_step hvk hbk.1 hbk.2, zwc (by omega)]
      exact ih)
  have H0 := H 0 (by omega)
  rw [Nat.add_zero, zup_self h2] at H0
  exact H0
