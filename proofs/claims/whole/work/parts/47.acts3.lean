/-! all acts of a text, the class -/
def actsS (b : Row) (n : Nat) : Nat → Nat → Nat → Row → Row → Row → Int × Row × Row × Row
  | 0, _, _, K, A, O => (0, K, A, O)
  | j + 1, k, p, K, A, O =>
    if canB b n p = false then (-1000 - (p : Int), K, A, O)
    else if k = 12 then (-4000 - (p : Int), K, A, O)
    else if actF b n p ≠ 0 then (actF b n p, K, A, O)
    else if n ≤ actE b n p then (((k + 1 : Nat) : Int), rup K k (aK b n p), rup A k (actA b n p), rup O k (actO b n p))
    else if tx b n (actE b n p) = 59 then actsS b n j (k + 1) (actE b n p + 1) (rup K k (aK b n p)) (rup A k (actA b n p)) (rup O k (actO b n p))
    else (-1000 - ((actE b n p : Nat) : Int), K, A, O)
theorem actF_neg (b : Row) (n p : Nat) : actF b n p ≤ 0 := by
  unfold actF
  have h1 := wF_neg b n (aP b n p)
  have h2 := wF_neg b n (aQ b n p + 1)
  split
  · exact h1
  · split
    · split <;> omega
    · split
      · split
        · omega
        · split
          · omega
          · split
            · omega
            · split <;> omega
      · omega
/-- rows that reading acts may change -/
def afr (μ M : Mu) : Prop := (∀ a, a ≠ 1 → a ≠ 36 → a ≠ 37 → a ≠ 38 → a ≠ 39 → M a = μ a) ∧ M 1 1 = μ 1 1 ∧ ∀ k, k ≠ 3 → M 36 k = μ 36 k
theorem afr_trans {μ M K : Mu} (h1 : afr μ M) (h2 : afr M K) : afr μ K := ⟨fun a q1 q2 q3 q4 q5 => by rw [h2.1 a q1 q2 q3 q4 q5, h1.1 a q1 q2 q3 q4 q5], by rw [h2.2.1, h1.2.1], fun k hk => by rw [h2.2.2 k hk, h1.2.2 k hk]⟩
theorem afr_zup1 {μ : Mu} {k : Nat} {v : Int} (hk : k ≠ 1) : afr μ (zup μ 1 k v) := ⟨fun a q1 _ _ _ _ => zup_ro q1, zup_nk (Ne.symm hk), fun j _ => by rw [zup_ro (by omega)]⟩
theorem afr_refl (μ : Mu) : afr μ μ := ⟨fun _ _ _ _ _ _ => rfl, rfl, fun _ _ => rfl⟩
theorem afr_post {μ M : Mu} {b : Row} {n p i : Nat} (h : actPost μ M b n p i) : afr μ M := ⟨h.2.2.2.1, h.2.2.2.2.1, fun k hk => by rw [h.2.2.1, rup_ne hk]⟩
theorem s_actF {z : zZ} {e i : Nat} {q : Nat} {M : Mu} (he : 2 ≤ e) (hf : M 1 4 ≠ 0) (hi : i ≤ 12) : f_Acts_read_72 z e (i : Int) M = some (0, M) := by
  obtain ⟨e', rfl, he'⟩ := pred_of he
  rw [e_Acts_read_72, c_Acts_readAct, nF hf, e_Acts_readAct_23, s_fail1 (by omega) hf]
  simp -implicitDefEqProofs only [ob]
  rw [zwc (by omega), e_Acts_read_7]
  by_cases h : i = 12
  · rw [cT (by omega), e_Acts_read_83]
  · rw [cF (by omega), nF hf, e_Acts_read_83]
theorem s_acts {z : zZ} {e n : Nat} (he : 7 ≤ e) (hn : n ≤ 220) (j : Nat) : ∀ (k p : Nat) (μ : Mu), j + k = 12 → p ≤ n → μ 1 2 = (p : Int) → μ 1 3 = (n : Int) → μ 1 4 = 0 → byt (μ 2) → μ 36 3 = (k : Int) → ∀ R, actsS (μ 2) n (j + 1) k p (μ 37) (μ 38) (μ 39) = R → ∃ M, f_Acts_read_43 z e (k : Int) μ = some (0, M) ∧ afr μ M ∧ ((R.1 < 0 ∧ M 1 4 = R.1) ∨ (∃ m : Nat, R.1 = (m : Int) ∧ 1 ≤ m ∧ m ≤ 12 ∧ M 1 4 = 0 ∧ M 36 3 = (m : Int) ∧ M 37 = R.2.1 ∧ M 38 = R.2.2.1 ∧ M 39 = R.2.2.2)) := by
  induction j using Nat.strongRecOn with
  | ind j ih =>
    intro k p μ hjk hp h2 h3 h4 hb h36 R hR
    simp only [actsS] at hR
    have hstop : ∀ M : Mu, M 1 4 ≠ 0 → f_Acts_read_7 z e ((k + 1 : Nat) : Int) M = some (0, M) := by
      intro M hM
      rw [e_Acts_read_7]
      by_cases h : k = 12
      · rw [cT (by omega), e_Acts_read_83]
      · rw [cF (by omega), nF hM, e_Acts_read_83]
    cases hc : canB (μ 2) n p
    · rw [if_pos hc] at hR
      subst hR
      have h72 : f_Acts_read_43 z e (k : Int) μ = f_Acts_read_72 z e (k : Int) μ := by
        rw [e_Acts_read_43]
        by_cases h12 : k = 12
        · rw [nT (by omega), nT h4, s_canBegin (by omega) h2 h3 hn hb, hc]
          simp -implicitDefEqProofs only [ob, cB, cond_false]
        · rw [nF (by omega)]
      have m4 : zup μ 1 4 (-1000 - (p : Int)) 1 4 = -1000 - (p : Int) := zup_hit
      refine ⟨zup μ 1 4 (-1000 - (p : Int)), ?_, afr_zup1 (by omega), Or.inl ⟨by show -1000 - (p : Int) < 0; omega, m4⟩⟩
      obtain ⟨e', rfl, he'⟩ := pred_of he
      rw [h72, e_Acts_read_72, c_Acts_readAct, nT h4, s_canBegin (by omega) h2 h3 hn hb, hc]
      simp -implicitDefEqProofs only [ob, cB, cond_false]
      rw [e_Acts_readAct_23, h2, s_fail0 (by omega) h4 (by omega) (by omega)]
      simp -implicitDefEqProofs only [ob]
      rw [show (-1000 * 1 - (p : Int)) = -1000 - (p : Int) by omega, zwc (by omega), hstop _ (by rw [m4]; omega)]
    · rw [if_neg (by rw [hc]; decide)] at hR
      by_cases h12 : k = 12
      · rw [if_pos h12] at hR
        subst hR
        have m4 : zup μ 1 4 (-4000 - (p : Int)) 1 4 = -4000 - (p : Int) := zup_hit
        refine ⟨zup μ 1 4 (-4000 - (p : Int)), ?_, afr_zup1 (by omega), Or.inl ⟨by show -4000 - (p : Int) < 0; omega, m4⟩⟩
        rw [e_Acts_read_43, nT (by omega), nT h4, s_canBegin (by omega) h2 h3 hn hb, hc]
        simp -implicitDefEqProofs only [ob, cB, cond_true]
        rw [h2, s_fail0 (by omega) h4 (by omega) (by omega)]
        simp -implicitDefEqProofs only [ob]
        rw [show (-1000 * 4 - (p : Int)) = -4000 - (p : Int) by omega, s_actF (q := 0) (by omega) (by rw [m4]; omega) (by omega)]
      · rw [if_neg h12] at hR
        have hneg := actF_neg (μ 2) n p
        obtain ⟨M, g0, g1⟩ := s_readAct (z := z) (d := e) (by omega) h2 h3 h4 hn hp hb (by omega) h36 hc
        have gp := g1
        obtain ⟨g2, g3, g4, g5, g6, g7, g8⟩ := g1
        rw [e_Acts_read_43, nF (by omega), e_Acts_read_72, g0]
        simp -implicitDefEqProofs only [ob]
        rw [zwc (by omega)]
        by_cases hF : actF (μ 2) n p = 0
        · rw [if_neg (by intro h; exact h hF)] at hR
          obtain ⟨q1, q2, q3, q4⟩ := g3 hF
          have m4 : M 1 4 = 0 := by rw [g2]; exact hF
          have m3 : M 1 3 = (n : Int) := by rw [g7]; exact h3
          have mb : M 2 = μ 2 := g5 2 (by omega) (by omega) (by omega) (by omega) (by omega)
          have m36 : M 36 3 = ((k + 1 : Nat) : Int) := by rw [g4, rup_same]
          obtain ⟨q, hq240, hq⟩ := g8
          have hE : actE (μ 2) n p = q := by omega
          rw [e_Acts_read_7, cF (by omega), nT m4, cF (by omega), s_atEnd (by omega) q1 m3]
          simp -implicitDefEqProofs only [ob, cB]
          by_cases hend : n ≤ actE (μ 2) n p
          · rw [if_pos hend] at hR
            subst hR
            simp -implicitDefEqProofs only [hend, decide_true, cond_true]
            exact ⟨M, rfl, afr_post gp, Or.inr ⟨k + 1, rfl, by omega, by omega, m4, m36, q2, q3, q4⟩⟩
          · rw [if_neg hend] at hR
            simp -implicitDefEqProofs only [hend, decide_false, cond_false]
            rw [e_Acts_read_32, cF (by omega), s_pass (by omega) q1 m3 m4 hn (by omega), mb]
            by_cases h59 : tx (μ 2) n (actE (μ 2) n p) = 59
            · rw [if_pos h59] at hR ⊢
              simp -implicitDefEqProofs only [ob]
              obtain ⟨j', rfl⟩ : ∃ j', j = j' + 1 := ⟨j - 1, by omega⟩
              have x : ∀ a, a ≠ 1 → zup M 1 2 ((actE (μ 2) n p + 1 : Nat) : Int) a = M a := fun a h => zup_ro h
              obtain ⟨M', r1, r2, r3⟩ := ih j' (by omega) (k + 1) (actE (μ 2) n p + 1) (zup M 1 2 ((actE (μ 2) n p + 1 : Nat) : Int)) (by omega) (by omega) zup_hit (by rw [zup_nk (by omega)]; exact m3) (by rw [zup_nk (by omega)]; exact m4) (by rw [x 2 (by omega), mb]; exact hb) (by rw [x 36 (by omega)]; exact m36) R (by rw [x 2 (by omega), x 37 (by omega), x 38 (by omega), x 39 (by omega), mb, q2, q3, q4]; exact hR)
              exact ⟨M', r1, afr_trans (afr_post gp) (afr_trans (afr_zup1 (by omega)) r2), r3⟩
            · rw [if_neg h59] at hR ⊢
              simp -implicitDefEqProofs only [ob]
              subst hR
              have m4' : zup M 1 4 (-1000 - ((actE (μ 2) n p : Nat) : Int)) 1 4 = -1000 - ((actE (μ 2) n p : Nat) : Int) := zup_hit
              have hne : zup M 1 4 (-1000 - ((actE (μ 2) n p : Nat) : Int)) 1 4 ≠ 0 := by rw [m4']; omega
              refine ⟨zup M 1 4 (-1000 - ((actE (μ 2) n p : Nat) : Int)), ?_, afr_trans (afr_post gp) (afr_zup1 (by omega)), Or.inl ⟨by show -1000 - ((actE (μ 2) n p : Nat) : Int) < 0; omega, m4'⟩⟩
              rw [e_Acts_read_43]
              by_cases h11 : k + 1 = 12
              · rw [nT (by omega), nF hne, s_actF (q := 0) (by omega) hne (by omega)]
              · rw [nF (by omega), s_actF (q := 0) (by omega) hne (by omega)]
        · rw [if_pos hF] at hR
          subst hR
          have hne : M 1 4 ≠ 0 := by rw [g2]; exact hF
          refine ⟨M, hstop M hne, afr_post gp, Or.inl ⟨?_, g2⟩⟩
          show actF (μ 2) n p < 0
          omega
