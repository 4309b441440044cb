/-! peace: the reference's row, and both -/
theorem pc_at {a b : Nat → Int} {r : Row} {m n i j : Nat} (h : i < m ∨ j < n) : (if i < m ∧ a i = pcL a b r m n i j then i + 1 else i) = pcI a b r m n i j ∧ (if j < n ∧ b j = pcL a b r m n i j then j + 1 else j) = pcJ a b r m n i j ∧ pcI a b r m n i j + pcJ a b r m n i j ≠ i + j := by
  unfold pcI pcJ pcL
  cases hE : pcE a b m n i j with
  | true =>
    unfold pcE at hE
    simp only [Bool.and_eq_true, decide_eq_true_eq] at hE
    obtain ⟨h1, h2, h3⟩ := hE
    rw [Bool.true_or, Bool.true_or, if_pos rfl, if_pos rfl, if_pos rfl, if_pos ⟨h1, rfl⟩, if_pos ⟨h2, h3.symm⟩]
    exact ⟨rfl, rfl, by omega⟩
  | false =>
    rw [Bool.false_or, Bool.false_or]
    cases hF : pcF a b r m n i j with
    | true =>
      have h1 : i < m := by
        unfold pcF at hF
        rw [Bool.and_eq_true, decide_eq_true_eq] at hF
        exact hF.1
      have h2 : ¬ (j < n ∧ b j = a i) := by
        intro q
        have : pcE a b m n i j = true := by unfold pcE; simp [h1, q.1, q.2]
        rw [hE] at this
        exact absurd this (by decide)
      rw [if_pos (show true = true from rfl), if_pos (show true = true from rfl), if_neg (show ¬ ((!true) = true) by decide)]
      rw [if_pos ⟨h1, rfl⟩, if_neg h2]
      exact ⟨rfl, rfl, by omega⟩
    | false =>
      have h2 : j < n := by
        by_cases h1 : i < m
        · by_cases h3 : n ≤ j
          · have : pcF a b r m n i j = true := by unfold pcF; simp [h1, h3]
            rw [hF] at this
            exact absurd this (by decide)
          · omega
        · omega
      have h1 : ¬ (i < m ∧ a i = b j) := by
        intro q
        have : pcE a b m n i j = true := by unfold pcE; simp [q.1, q.2, h2]
        rw [hE] at this
        exact absurd this (by decide)
      rw [if_neg (show ¬ (false = true) by decide), if_neg (show ¬ (false = true) by decide), if_pos (show (!false) = true from rfl)]
      rw [if_neg h1, if_pos ⟨h2, rfl⟩]
      exact ⟨rfl, rfl, by omega⟩
theorem pc_not {a b : Nat → Int} {r : Row} {m n i j : Nat} {x : Int} (hx : r x.toNat < r (pcL a b r m n i j).toNat) : (if i < m ∧ a i = x then i + 1 else i) + (if j < n ∧ b j = x then j + 1 else j) = i + j ∨ scs a b m n (m - (if i < m ∧ a i = x then i + 1 else i)) (n - (if j < n ∧ b j = x then j + 1 else j)) ≠ scs a b m n (m - i) (n - j) - 1 := by
  have hne : ∀ y, y = pcL a b r m n i j → x ≠ y := fun y hy q => by
    rw [← hy, ← q] at hx
    omega
  unfold pcL at hx hne
  by_cases h1 : i < m ∧ a i = x
  · by_cases h2 : j < n ∧ b j = x
    · exfalso
      have hE : pcE a b m n i j = true := by unfold pcE; simp [h1.1, h2.1, h1.2, h2.2]
      rw [hE, Bool.true_or, if_pos rfl] at hne
      exact hne _ rfl h1.2.symm
    · rw [if_pos h1, if_neg h2]
      right
      by_cases h3 : j < n
      · have hab : ¬ a i = b j := fun q => h2 ⟨h3, by rw [← q]; exact h1.2⟩
        have hE : pcE a b m n i j = false := by unfold pcE; simp [hab]
        rw [hE, Bool.false_or] at hne hx
        cases hF : pcF a b r m n i j with
        | true => rw [hF, if_pos rfl] at hne; exact absurd h1.2.symm (hne _ rfl)
        | false =>
          rw [hF, if_neg (by decide)] at hx
          unfold pcF at hF
          have hn : decide (n ≤ j) = false := decide_eq_false (by omega)
          rw [decide_eq_true h1.1, hn, Bool.true_and, Bool.false_or, Bool.or_eq_false_iff, decide_eq_false_iff_not] at hF
          rw [scs_step h1.1 h3, if_neg hab]
          by_cases c1 : scs a b m n (m - (i + 1)) (n - j) = scs a b m n (m - i) (n - (j + 1))
          · have hF2 := hF.2
            rw [decide_eq_true c1, Bool.true_and, decide_eq_false_iff_not, h1.2] at hF2
            exact absurd hx hF2
          · rw [if_pos (by omega)]
            omega
      · exfalso
        have hF : pcF a b r m n i j = true := by unfold pcF; simp [h1.1]; left; omega
        rw [hF, Bool.or_true, if_pos rfl] at hne
        exact hne _ rfl h1.2.symm
  · rw [if_neg h1]
    by_cases h2 : j < n ∧ b j = x
    · rw [if_pos h2]
      right
      by_cases h3 : i < m
      · have hab : ¬ a i = b j := fun q => h1 ⟨h3, by rw [q]; exact h2.2⟩
        have hE : pcE a b m n i j = false := by unfold pcE; simp [hab]
        rw [hE, Bool.false_or] at hne hx
        cases hF : pcF a b r m n i j with
        | false => rw [hF, if_neg (by decide)] at hne; exact absurd h2.2.symm (hne _ rfl)
        | true =>
          rw [hF, if_pos rfl] at hx
          unfold pcF at hF
          have hn : decide (n ≤ j) = false := decide_eq_false (by omega)
          rw [decide_eq_true h3, hn, Bool.true_and, Bool.false_or, Bool.or_eq_true, decide_eq_true_eq, Bool.and_eq_true, decide_eq_true_eq, decide_eq_true_eq] at hF
          rw [scs_step h3 h2.1, if_neg hab]
          rcases hF with hF | hF
          · rw [if_neg (by omega)]
            omega
          · rw [h2.2] at hF
            omega
      · exfalso
        have hE : pcE a b m n i j = false := by unfold pcE; simp [h3]
        have hF : pcF a b r m n i j = false := by unfold pcF; simp [h3]
        rw [hE, hF, Bool.or_false, if_neg (by decide)] at hne
        exact hne _ rfl h2.2.symm
    · rw [if_neg h2]
      left
      rfl
