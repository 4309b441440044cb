/-! the law's tongue: ends lie ahead, and steps are no more than signs -/
theorem tx_lt {b : Row} {n p : Nat} {c : Int} (h : tx b n p = c) (hc : c ≠ -1) : p < n := by
  apply Nat.lt_of_not_le
  intro h2
  rw [tx_out h2] at h
  exact hc h.symm
theorem isg_lt {b : Row} {n p : Nat} (h : isg b n p = true) : p < n := by
  apply Nat.lt_of_not_le
  intro h2
  unfold isg at h
  rw [tx_out h2] at h
  simp at h
theorem dgn_n {b : Row} {n p : Nat} (h : isg b n p = true) : 1 ≤ dgn b n p ∧ p + dgn b n p ≤ n := by
  have h1 : 1 ≤ dgn b n p := by
    unfold dgn wl9
    simp [h]
  refine ⟨h1, ?_⟩
  have := isg_lt (wl9_all (isg b n) 6 p (dgn b n p - 1) (by unfold dgn at *; omega))
  omega
theorem tlx_m1 : tlx (-1) = -1 := by decide
theorem pz_ln {b : Row} {n : Nat} : ∀ (f m o p : Nat), p ≤ n → (pz b n f m o p).1 = 0 → (pz b n f m o p).2 ≤ n ∧ p + ln b n f m o p ≤ (pz b n f m o p).2 ∧ (m = 0 ∨ m = 2 ∨ m = 4 ∨ m = 5 ∨ m = 7 ∨ 9 ≤ m → p < (pz b n f m o p).2) := by
  intro f
  induction f with
  | zero => intro m o p _ h; simp [pz] at h
  | succ f ih =>
    intro m o p hp h
    have seq : ∀ m1 m2, (pz b n f m1 o p).1 = 0 → (pz b n f m2 o (pz b n f m1 o p).2).1 = 0 → (m1 = 0 ∨ m1 = 2 ∨ m1 = 4 ∨ m1 = 5 ∨ m1 = 7 ∨ 9 ≤ m1) → (pz b n f m2 o (pz b n f m1 o p).2).2 ≤ n ∧ p + (ln b n f m1 o p + ln b n f m2 o (pz b n f m1 o p).2) ≤ (pz b n f m2 o (pz b n f m1 o p).2).2 ∧ p < (pz b n f m2 o (pz b n f m1 o p).2).2 := by
      intro m1 m2 h1 h2 hm
      obtain ⟨a1, a2, a3⟩ := ih m1 o p hp h1
      obtain ⟨b1, b2, b3⟩ := ih m2 o _ a1 h2
      have := a3 hm
      omega
    have rest : ∀ m1 m2, p < n → (pz b n f m1 o (p + 1)).1 = 0 → (pz b n f m2 o (pz b n f m1 o (p + 1)).2).1 = 0 → (pz b n f m2 o (pz b n f m1 o (p + 1)).2).2 ≤ n ∧ p + (ln b n f m1 o (p + 1) + 1 + ln b n f m2 o (pz b n f m1 o (p + 1)).2) ≤ (pz b n f m2 o (pz b n f m1 o (p + 1)).2).2 := by
      intro m1 m2 hpn h1 h2
      obtain ⟨a1, a2, a3⟩ := ih m1 o (p + 1) (by omega) h1
      obtain ⟨b1, b2, b3⟩ := ih m2 o _ a1 h2
      omega
    by_cases m0 : m = 0
    · subst m0
      simp only [pz, ln, if_true] at h ⊢
      by_cases h2 : (pz b n f 2 o p).1 = 0
      · rw [if_neg (by intro q; exact q h2)] at h ⊢
        obtain ⟨a1, a2, a3⟩ := seq 2 1 h2 h (by omega)
        exact ⟨a1, a2, fun _ => a3⟩
      · rw [if_pos h2] at h
        exact absurd h h2
    · by_cases m1 : m = 1
      · subst m1
        simp only [pz, ln, Nat.one_ne_zero, if_false, if_true] at h ⊢
        by_cases hs : tx b n p = 43 ∨ tx b n p = 45
        · have hpn : p < n := by rcases hs with q | q <;> exact tx_lt q (by decide)
          simp only [if_pos hs] at h ⊢
          by_cases h2 : (pz b n f 2 o (p + 1)).1 = 0
          · rw [if_neg (by intro q; exact q h2)] at h ⊢
            obtain ⟨a1, a2⟩ := rest 2 1 hpn h2 h
            exact ⟨a1, a2, fun q => by omega⟩
          · rw [if_pos h2] at h
            exact absurd h h2
        · simp only [if_neg hs]
          exact ⟨hp, by omega, by intro q; simp at q⟩
      · by_cases m2 : m = 2
        · subst m2
          simp only [pz, ln, Nat.reduceEqDiff, if_false, if_true] at h ⊢
          by_cases h2 : (pz b n f 4 o p).1 = 0
          · rw [if_neg (by intro q; exact q h2)] at h ⊢
            obtain ⟨a1, a2, a3⟩ := seq 4 3 h2 h (by omega)
            exact ⟨a1, a2, fun _ => a3⟩
          · rw [if_pos h2] at h
            exact absurd h h2
        · by_cases m3 : m = 3
          · subst m3
            simp only [pz, ln, Nat.reduceEqDiff, if_false, if_true] at h ⊢
            by_cases hs : tx b n p = 42 ∨ tx b n p = 47 ∨ tx b n p = 37
            · have hpn : p < n := by rcases hs with q | q | q <;> exact tx_lt q (by decide)
              simp only [if_pos hs] at h ⊢
              by_cases h2 : (pz b n f 4 o (p + 1)).1 = 0
              · rw [if_neg (by intro q; exact q h2)] at h ⊢
                obtain ⟨a1, a2⟩ := rest 4 3 hpn h2 h
                exact ⟨a1, a2, fun q => by omega⟩
              · rw [if_pos h2] at h
                exact absurd h h2
            · simp only [if_neg hs]
              exact ⟨hp, by omega, by intro q; simp at q⟩
          · by_cases m4 : m = 4
            · subst m4
              simp only [pz, ln, Nat.reduceEqDiff, if_false, if_true] at h ⊢
              by_cases h91 : tx b n p = 91
              · have hpn := tx_lt h91 (by decide)
                simp only [if_pos h91] at h ⊢
                by_cases h6 : 6 ≤ o
                · rw [if_pos h6] at h
                  simp only at h
                  omega
                · rw [if_neg h6] at h ⊢
                  by_cases h0 : (pz b n f 0 (o + 1) (p + 1)).1 = 0
                  · rw [if_neg (by intro q; exact q h0)] at h ⊢
                    obtain ⟨a1, a2, a3⟩ := ih 0 (o + 1) (p + 1) (by omega) h0
                    by_cases h93 : tx b n (pz b n f 0 (o + 1) (p + 1)).2 = 93
                    · have := tx_lt h93 (by decide)
                      rw [if_pos h93] at h ⊢
                      simp only
                      omega
                    · rw [if_neg h93] at h
                      simp only at h
                      omega
                  · rw [if_pos h0] at h
                    exact absurd h h0
              · simp only [if_neg h91] at h ⊢
                by_cases hg : isg b n p = true
                · have hd := dgn_n hg
                  simp only [if_pos hg] at h ⊢
                  by_cases h6 : dgn b n p = 6
                  · rw [if_pos h6] at h
                    simp only at h
                    omega
                  · rw [if_neg h6]
                    simp only
                    omega
                · simp only [if_neg hg] at h ⊢
                  by_cases ht : tlx (tx b n p) ≠ -1
                  · have hpn : p < n := by
                      apply Nat.lt_of_not_le
                      intro q
                      rw [tx_out q] at ht
                      exact ht tlx_m1
                    rw [if_pos ht]
                    simp only
                    omega
                  · rw [if_neg ht] at h
                    simp only at h
                    omega
            · by_cases m5 : m = 5
              · subst m5
                simp only [pz, ln, Nat.reduceEqDiff, if_false, if_true] at h ⊢
                by_cases h2 : (pz b n f 7 o p).1 = 0
                · rw [if_neg (by intro q; exact q h2)] at h ⊢
                  obtain ⟨a1, a2, a3⟩ := seq 7 6 h2 h (by omega)
                  exact ⟨a1, a2, fun _ => a3⟩
                · rw [if_pos h2] at h
                  exact absurd h h2
              · by_cases m6 : m = 6
                · subst m6
                  simp only [pz, ln, Nat.reduceEqDiff, if_false, if_true] at h ⊢
                  by_cases hs : tx b n p = 124
                  · have hpn := tx_lt hs (by decide)
                    simp only [if_pos hs] at h ⊢
                    by_cases h2 : (pz b n f 7 o (p + 1)).1 = 0
                    · rw [if_neg (by intro q; exact q h2)] at h ⊢
                      obtain ⟨a1, a2⟩ := rest 7 6 hpn h2 h
                      exact ⟨a1, by omega, fun q => by omega⟩
                    · rw [if_pos h2] at h
                      exact absurd h h2
                  · simp only [if_neg hs]
                    exact ⟨hp, by omega, by intro q; simp at q⟩
                · by_cases m7 : m = 7
                  · subst m7
                    simp only [pz, ln, Nat.reduceEqDiff, if_false, if_true] at h ⊢
                    by_cases h2 : (pz b n f 9 o p).1 = 0
                    · rw [if_neg (by intro q; exact q h2)] at h ⊢
                      obtain ⟨a1, a2, a3⟩ := seq 9 8 h2 h (by omega)
                      exact ⟨a1, a2, fun _ => a3⟩
                    · rw [if_pos h2] at h
                      exact absurd h h2
                  · by_cases m8 : m = 8
                    · subst m8
                      simp only [pz, ln, Nat.reduceEqDiff, if_false, if_true] at h ⊢
                      by_cases hs : tx b n p = 38
                      · have hpn := tx_lt hs (by decide)
                        simp only [if_pos hs] at h ⊢
                        by_cases h2 : (pz b n f 9 o (p + 1)).1 = 0
                        · rw [if_neg (by intro q; exact q h2)] at h ⊢
                          obtain ⟨a1, a2⟩ := rest 9 8 hpn h2 h
                          exact ⟨a1, by omega, fun q => by omega⟩
                        · rw [if_pos h2] at h
                          exact absurd h h2
                      · simp only [if_neg hs]
                        exact ⟨hp, by omega, by intro q; simp at q⟩
                    · simp only [pz, ln, if_neg m0, if_neg m1, if_neg m2, if_neg m3, if_neg m4, if_neg m5, if_neg m6, if_neg m7, if_neg m8] at h ⊢
                      by_cases h33 : tx b n p = 33
                      · have hpn := tx_lt h33 (by decide)
                        simp only [if_pos h33] at h ⊢
                        by_cases h6 : 6 ≤ o
                        · rw [if_pos h6] at h
                          simp only at h
                          omega
                        · rw [if_neg h6] at h ⊢
                          obtain ⟨a1, a2, a3⟩ := ih 9 (o + 1) (p + 1) (by omega) h
                          exact ⟨a1, by omega, fun _ => by omega⟩
                      · simp only [if_neg h33] at h ⊢
                        by_cases h40 : tx b n p = 40
                        · have hpn := tx_lt h40 (by decide)
                          simp only [if_pos h40] at h ⊢
                          by_cases h6 : 6 ≤ o
                          · rw [if_pos h6] at h
                            simp only at h
                            omega
                          · rw [if_neg h6] at h ⊢
                            by_cases h0 : (pz b n f 5 (o + 1) (p + 1)).1 = 0
                            · rw [if_neg (by intro q; exact q h0)] at h ⊢
                              obtain ⟨a1, a2, a3⟩ := ih 5 (o + 1) (p + 1) (by omega) h0
                              by_cases h41 : tx b n (pz b n f 5 (o + 1) (p + 1)).2 = 41
                              · have := tx_lt h41 (by decide)
                                rw [if_pos h41] at h ⊢
                                simp only
                                omega
                              · rw [if_neg h41] at h
                                simp only at h
                                omega
                            · rw [if_pos h0] at h
                              exact absurd h h0
                        · simp only [if_neg h40] at h ⊢
                          by_cases h0 : (pz b n f 0 o p).1 = 0
                          · rw [if_neg (by intro q; exact q h0)] at h ⊢
                            obtain ⟨a1, a2, a3⟩ := ih 0 o p hp h0
                            by_cases hs : tx b n (pz b n f 0 o p).2 = 60 ∨ tx b n (pz b n f 0 o p).2 = 62 ∨ tx b n (pz b n f 0 o p).2 = 61
                            · have hqn : (pz b n f 0 o p).2 < n := by rcases hs with q | q | q <;> exact tx_lt q (by decide)
                              rw [if_pos hs] at h ⊢
                              obtain ⟨b1, b2, b3⟩ := ih 0 o _ (by omega) h
                              exact ⟨b1, by omega, fun _ => by omega⟩
                            · rw [if_neg hs] at h
                              simp only at h
                              omega
                          · rw [if_pos h0] at h
                            exact absurd h h0
