/-! the class reads a law -/
def stC (b : Row) (n : Nat) : Nat → Nat
  | 0 => 0
  | k + 1 => (clD b n (stC b n k)).2 + 2
def szC (b : Row) (n : Nat) : Nat → Nat
  | 0 => 0
  | k + 1 => szC b n k + cl1 b n (stC b n k) + 1 + cl2 b n (stC b n k) + 1
def lawS (b : Row) (n : Nat) : Nat → Nat → Int
  | 0, _ => 0
  | j + 1, k => if isK (tx b n (stC b n k)) = false then -1000 - ((stC b n k : Nat) : Int) else if k = 14 then -4000 - ((stC b n k : Nat) : Int) else if clF b n (stC b n k) ≠ 0 then clF b n (stC b n k) else if n ≤ (clD b n (stC b n k)).2 + 1 then ((k + 1 : Nat) : Int) else if tx b n ((clD b n (stC b n k)).2 + 1) = 59 then lawS b n j (k + 1) else -1000 - (((clD b n (stC b n k)).2 + 1 : Nat) : Int)
theorem ite_neg {c : Prop} [Decidable c] {x y : Int × Nat} (hx : x.1 ≤ 0) (hy : y.1 ≤ 0) : (if c then x else y).1 ≤ 0 := by
  by_cases h : c
  · rw [if_pos h]; exact hx
  · rw [if_neg h]; exact hy
theorem pr_neg {a : Int} {k : Nat} (h : a ≤ 0) : ((a, k) : Int × Nat).1 ≤ 0 := h
theorem pz_neg {b : Row} {n : Nat} : ∀ (f m o p : Nat), (pz b n f m o p).1 ≤ 0 := by
  intro f
  induction f with
  | zero => intro m o p; simp [pz]
  | succ f ih =>
    intro m o p
    simp only [pz]
    repeat' (first | exact ih _ _ _ | refine ite_neg ?_ ?_)
    all_goals (refine pr_neg ?_; omega)
theorem clF_neg (b : Row) (n p : Nat) (h : clF b n p ≠ 0) : clF b n p < 0 := by
  have h1 := pz_neg (b := b) (n := n) fuL 0 0 (p + 1)
  have h2 := pz_neg (b := b) (n := n) fuL 5 1 ((clS b n p).2 + 1)
  have e1 : (pz b n fuL 0 0 (p + 1)) = clS b n p := rfl
  have e2 : (pz b n fuL 5 1 ((clS b n p).2 + 1)) = clD b n p := rfl
  rw [e1] at h1
  rw [e2] at h2
  unfold clF at h ⊢
  split at h
  · rename_i q1; rw [if_pos q1]; omega
  · rename_i q1
    rw [if_neg q1]
    split at h
    · rename_i q2; rw [if_pos q2]; omega
    · rename_i q2
      rw [if_neg q2]
      split at h
      · rename_i q3; rw [if_pos q3]; omega
      · rename_i q3
        rw [if_neg q3]
        split at h
        · rename_i q4; rw [if_pos q4]; omega
        · exact absurd rfl h
/-- k clauses are read -/
def LCk (w : Nat) (b : Row) (n k : Nat) (M : Mu) : Prop := M w 3 = (k : Int) ∧ M w 5 = ((szC b n k : Nat) : Int) ∧ ∀ c, c < k → M (w + 1) c = tx b n (stC b n c) ∧ M (w + 2) c = ((szC b n c : Nat) : Int) ∧ M (w + 3) c = ((szC b n c + cl1 b n (stC b n c) + 1 : Nat) : Int) ∧ clC b n (M (w + 4)) (stC b n c) (szC b n c)
theorem szC_mono {b : Row} {n : Nat} {c : Nat} : ∀ k, c < k → szC b n (c + 1) ≤ szC b n k := by
  intro k h
  induction k with
  | zero => omega
  | succ k ih =>
    by_cases e : c = k
    · subst e; exact Nat.le_refl _
    · have h1 := ih (by omega)
      have h2 : szC b n (k + 1) = szC b n k + cl1 b n (stC b n k) + 1 + cl2 b n (stC b n k) + 1 := rfl
      omega
theorem clC_congr {b : Row} {n p q : Nat} {st st' : Row} (h : ∀ j, q ≤ j → j < q + cl1 b n p + 1 + cl2 b n p + 1 → st' j = st j) (hc : clC b n st p q) : clC b n st' p q := by
  obtain ⟨h1, h2, h3, h4⟩ := hc
  have l1 : ln b n fuL 0 0 (p + 1) = cl1 b n p := rfl
  have l2 : ln b n fuL 5 1 ((clS b n p).2 + 1) = cl2 b n p := rfl
  exact ⟨cdC_congr _ _ _ _ _ _ _ _ (fun j a c => h j a (by rw [l1] at c; omega)) h1, by rw [h _ (by omega) (by omega)]; exact h2, cdC_congr _ _ _ _ _ _ _ _ (fun j a c => h j (by omega) (by rw [l2] at c; omega)) h3, by rw [h _ (by omega) (by omega)]; exact h4⟩
theorem LCk_next {w n k : Nat} {b : Row} {μ M : Mu} (h : LCk w b n k μ) (hP : CLP w n k (szC b n k) b (stC b n k) μ M) (h0 : clF b n (stC b n k) = 0) : LCk w b n (k + 1) M := by
  obtain ⟨a1, a2, a3, a4, a5, a6, a7, a8⟩ := hP.2.2.2 h0
  refine ⟨a2, a3, fun c hc => ?_⟩
  by_cases e : c = k
  · subst e
    exact ⟨by rw [a5, rup_same], by rw [a6, rup_same], by rw [a7, rup_same], a8⟩
  · obtain ⟨b1, b2, b3, b4⟩ := h.2.2 c (by omega)
    have hm := szC_mono (b := b) (n := n) k (show c < k by omega)
    have hs : szC b n (c + 1) = szC b n c + cl1 b n (stC b n c) + 1 + cl2 b n (stC b n c) + 1 := rfl
    exact ⟨by rw [a5, rup_ne e]; exact b1, by rw [a6, rup_ne e]; exact b2, by rw [a7, rup_ne e]; exact b3, clC_congr (fun j h1 h2 => a4 j (by omega)) b4⟩
theorem s_read19_f {z : zZ} {e : Nat} {v : Int} {M : Mu} (h40 : M 40 0 = 2) (h4 : M 1 4 ≠ 0) : f_Rdr_read_19 z e v M = some (0, M) := by
  rw [e_Rdr_read_19 _ _ _ _ h40, e_Rdr_read_74, nF h4]
  cases decide (14 < v) <;> rfl
theorem s_clause_f {z : zZ} {d w : Nat} {μ : Mu} {p n : Nat} (hd : 2 ≤ d) (hw : isLw w) (hn : n ≤ 200) (h40 : μ 40 0 = 2) (h41 : μ 40 1 = ((w : Nat) : Int) + 1) (h2 : μ 1 2 = (p : Int)) (h3 : μ 1 3 = (n : Int)) (h4 : μ 1 4 ≠ 0) : mC z d 47 [(2, 40)] μ = some (0, μ) := by
  obtain ⟨e, rfl, he⟩ := pred_of hd
  rw [c_Rdr_readClause _ _ _ h40, s_peek (by omega) h2 h3 (by omega)]
  simp -implicitDefEqProofs only [ob]
  rw [e_Rdr_readClause_7 _ _ _ _ h40 w hw h41, nF h4, e_Rdr_readClause_28 _ _ _ h40, s_fail1 (by omega) h4]
  rfl
theorem s_lawgo {z : zZ} {e w n : Nat} {b : Row} (he : 64 ≤ e) (hw : isLw w) (hn : n ≤ 200) (hb : byt b) : ∀ (j k : Nat) (μ : Mu), j + k = 14 → RS w μ b n (stC b n k) (szC b n k) → stC b n k ≤ n → szC b n k ≤ stC b n k → LCk w b n k μ → (∀ c, c < k → clF b n (stC b n c) = 0 ∧ stC b n c < n) → ∃ M, f_Rdr_read_64 z e (k : Int) μ = some (0, M) ∧ lwf w μ M ∧ ((lawS b n (j + 1) k < 0 ∧ M 1 4 = lawS b n (j + 1) k) ∨ (∃ N : Nat, lawS b n (j + 1) k = (N : Int) ∧ 1 ≤ N ∧ N ≤ 14 ∧ M 1 4 = 0 ∧ LCk w b n N M ∧ szC b n N ≤ n ∧ ∀ c, c < N → clF b n (stC b n c) = 0 ∧ stC b n c < n)) := by
  have w1 : w ≠ 1 ∧ 40 ≠ w ∧ 40 ≠ w + 1 ∧ 40 ≠ w + 2 ∧ 40 ≠ w + 3 ∧ 40 ≠ w + 4 ∧ 2 ≠ w ∧ 2 ≠ w + 1 ∧ 2 ≠ w + 2 ∧ 2 ≠ w + 3 ∧ 2 ≠ w + 4 := by rcases hw with h | h <;> omega
  intro j
  induction j with
  | zero =>
    intro k μ hjk hs hp hq hL hcl
    have hk : k = 14 := by omega
    rw [e_Rdr_read_64]
    by_cases hK : isK (tx b n (stC b n k)) = true
    · have hK' := of_decide_eq_true hK
      have hS : lawS b n (0 + 1) k = -4000 - ((stC b n k : Nat) : Int) := by
        simp only [lawS]
        rw [if_neg (by simp [hK]), if_pos hk]
      have r1 : mC z e 47 [(2, 40)] μ = some (0, zup μ 1 4 (-4000 - ((stC b n k : Nat) : Int))) := by
        obtain ⟨e, rfl, he'⟩ := pred_of (k := 63) he
        rw [c_Rdr_readClause _ _ _ hs.1, s_peek (by omega) hs.2.2.1 hs.2.2.2.1 (by omega), hs.2.2.2.2.2.2]
        simp -implicitDefEqProofs only [ob]
        rw [e_Rdr_readClause_7 _ _ _ _ hs.1 w hw hs.2.1, nT hs.2.2.2.2.1, nF (by intro h; exact (zpl0 _).mp h hK'), hL.1, cF (by omega), hs.2.2.1, s_fail0 (by omega) hs.2.2.2.2.1 (by omega) (by omega)]
        rfl
      rw [r1]
      simp -implicitDefEqProofs only [ob]
      rw [s_read19_f (by rw [zup_ro (by omega)]; exact hs.1) (by rw [zup_hit]; omega)]
      exact ⟨_, rfl, lwf_1 (Or.inr rfl), Or.inl ⟨by omega, by rw [zup_hit, hS]⟩⟩
    · have hS : lawS b n (0 + 1) k = -1000 - ((stC b n k : Nat) : Int) := by
        simp only [lawS]
        rw [if_pos (by simpa using hK)]
      have r1 : mC z e 47 [(2, 40)] μ = some (0, zup μ 1 4 (-1000 - ((stC b n k : Nat) : Int))) := by
        obtain ⟨e, rfl, he'⟩ := pred_of (k := 63) he
        have hz : zpl 0 (tx b n (stC b n k)) = -1 := (zpl0 _).mpr (fun h => hK (decide_eq_true h))
        rw [c_Rdr_readClause _ _ _ hs.1, s_peek (by omega) hs.2.2.1 hs.2.2.2.1 (by omega), hs.2.2.2.2.2.2]
        simp -implicitDefEqProofs only [ob]
        rw [e_Rdr_readClause_7 _ _ _ _ hs.1 w hw hs.2.1, nT hs.2.2.2.2.1, nT hz, e_Rdr_readClause_28 _ _ _ hs.1, hs.2.2.1, s_fail0 (by omega) hs.2.2.2.2.1 (by omega) (by omega)]
        simp -implicitDefEqProofs only [ob]
        rw [show (-1000 * 1 - ((stC b n k : Nat) : Int)) = -1000 - ((stC b n k : Nat) : Int) by omega]
      rw [r1]
      simp -implicitDefEqProofs only [ob]
      rw [s_read19_f (by rw [zup_ro (by omega)]; exact hs.1) (by rw [zup_hit]; omega)]
      exact ⟨_, rfl, lwf_1 (Or.inr rfl), Or.inl ⟨by omega, by rw [zup_hit, hS]⟩⟩
  | succ j ih =>
    intro k μ hjk hs hp hq hL hcl
    have hk : k < 14 := by omega
    rw [e_Rdr_read_64]
    by_cases hK : isK (tx b n (stC b n k)) = true
    · have hK' := of_decide_eq_true hK
      have hpn : stC b n k < n := by rcases hK' with h | h | h | h | h <;> exact tx_lt h (by decide)
      obtain ⟨M1, r1, P1⟩ := s_clause he hw hn hb hs hL.1 hk (by omega) hK (z := z)
      have h40 : M1 40 = μ 40 := P1.1.1 40 (by omega) w1.2.1 w1.2.2.1 w1.2.2.2.1 w1.2.2.2.2.1 w1.2.2.2.2.2.1
      rw [r1]
      simp -implicitDefEqProofs only [ob]
      rw [zwc (by omega)]
      by_cases hF : clF b n (stC b n k) = 0
      · have hLn := LCk_next hL P1 hF
        have zl := clF_ln hpn hF
        obtain ⟨a1, a2, a3, a4, a5, a6, a7, a8⟩ := P1.2.2.2 hF
        have m3 : M1 1 3 = (n : Int) := by rw [P1.1.2 3 (by omega) (by omega)]; exact hs.2.2.2.1
        have m4 : M1 1 4 = 0 := by rw [P1.2.1, hF]
        have hcl' : ∀ c, c < k + 1 → clF b n (stC b n c) = 0 ∧ stC b n c < n := by
          intro c hc
          by_cases ec : c = k
          · rw [ec]; exact ⟨hF, hpn⟩
          · exact hcl c (by omega)
        have hsz : szC b n (k + 1) = szC b n k + cl1 b n (stC b n k) + 1 + cl2 b n (stC b n k) + 1 := rfl
        have hst : stC b n (k + 1) = (clD b n (stC b n k)).2 + 2 := rfl
        rw [e_Rdr_read_19 _ _ _ _ (by rw [h40]; exact hs.1), cF (by omega), nT m4, cF (by omega), s_atEnd (by omega) a1 m3]
        simp -implicitDefEqProofs only [ob]
        rw [cB]
        by_cases hE : n ≤ (clD b n (stC b n k)).2 + 1
        · have hS : lawS b n (j + 1 + 1) k = ((k + 1 : Nat) : Int) := by
            simp only [lawS]
            rw [if_neg (by simp [hK]), if_neg (by omega), if_neg (by intro h; exact h hF), if_pos hE]
          rw [cT hE]
          exact ⟨_, rfl, P1.1, Or.inr ⟨k + 1, hS, by omega, by omega, m4, hLn, by omega, hcl'⟩⟩
        · rw [cF hE, e_Rdr_read_50 _ _ _ _ (by rw [h40]; exact hs.1), cF (by omega), s_pass (by omega) a1 m3 m4 (by omega) (by omega), P1.1.1 2 (by omega) w1.2.2.2.2.2.2.1 w1.2.2.2.2.2.2.2.1 w1.2.2.2.2.2.2.2.2.1 w1.2.2.2.2.2.2.2.2.2.1 w1.2.2.2.2.2.2.2.2.2.2, hs.2.2.2.2.2.2]
          by_cases h59 : tx b n ((clD b n (stC b n k)).2 + 1) = 59
          · have hS : lawS b n (j + 1 + 1) k = lawS b n (j + 1) (k + 1) := by
              rw [lawS]
              rw [if_neg (by simp [hK]), if_neg (by omega), if_neg (by intro h; exact h hF), if_neg hE, if_pos h59]
            rw [if_pos h59]
            simp -implicitDefEqProofs only [ob]
            have hs' : RS w (zup M1 1 2 (((clD b n (stC b n k)).2 + 1 + 1 : Nat) : Int)) b n (stC b n (k + 1)) (szC b n (k + 1)) := by
              refine ⟨by rw [zup_ro (by omega), h40]; exact hs.1, by rw [zup_ro (by omega), h40]; exact hs.2.1, by rw [hst]; exact zup_hit, by rw [zup_nk (by omega)]; exact m3, by rw [zup_nk (by omega)]; exact m4, by rw [zup_ro w1.1, hsz]; exact a3, by rw [zup_ro (by omega), P1.1.1 2 (by omega) w1.2.2.2.2.2.2.1 w1.2.2.2.2.2.2.2.1 w1.2.2.2.2.2.2.2.2.1 w1.2.2.2.2.2.2.2.2.2.1 w1.2.2.2.2.2.2.2.2.2.2]; exact hs.2.2.2.2.2.2⟩
            have wi : ∀ i, i ≤ 4 → w + i ≠ 1 := by intro i hi; rcases hw with h | h <;> omega
            have hL' : LCk w b n (k + 1) (zup M1 1 2 (((clD b n (stC b n k)).2 + 1 + 1 : Nat) : Int)) := by
              refine ⟨by rw [zup_ro w1.1]; exact hLn.1, by rw [zup_ro w1.1]; exact hLn.2.1, fun c hc => ?_⟩
              rw [zup_ro (wi 1 (by omega)), zup_ro (wi 2 (by omega)), zup_ro (wi 3 (by omega)), zup_ro (wi 4 (by omega))]
              exact hLn.2.2 c hc
            obtain ⟨M, r2, f2, h2⟩ := ih (k + 1) _ (by omega) hs' (by omega) (by omega) hL' hcl'
            refine ⟨M, r2, lwf_trans P1.1 (lwf_trans (lwf_1 (Or.inl rfl)) f2), ?_⟩
            rw [hS]
            exact h2
          · have hS : lawS b n (j + 1 + 1) k = -1000 - (((clD b n (stC b n k)).2 + 1 : Nat) : Int) := by
              rw [lawS]
              rw [if_neg (by simp [hK]), if_neg (by omega), if_neg (by intro h; exact h hF), if_neg hE, if_neg h59]
            rw [if_neg h59]
            simp -implicitDefEqProofs only [ob]
            rw [e_Rdr_read_64, s_clause_f (p := (clD b n (stC b n k)).2 + 1) (n := n) (by omega) hw hn (by rw [zup_ro (by omega), h40]; exact hs.1) (by rw [zup_ro (by omega), h40]; exact hs.2.1) (by rw [zup_nk (by omega)]; exact a1) (by rw [zup_nk (by omega)]; exact m3) (by rw [zup_hit]; omega)]
            simp -implicitDefEqProofs only [ob]
            rw [s_read19_f (by rw [zup_ro (by omega), h40]; exact hs.1) (by rw [zup_hit]; omega)]
            exact ⟨_, rfl, lwf_trans P1.1 (lwf_1 (Or.inr rfl)), Or.inl ⟨by omega, by rw [zup_hit, hS]⟩⟩
      · have hS : lawS b n (j + 1 + 1) k = clF b n (stC b n k) := by
          rw [lawS]
          rw [if_neg (by simp [hK]), if_neg (by omega), if_pos hF]
        rw [s_read19_f (by rw [h40]; exact hs.1) (by rw [P1.2.1]; exact hF)]
        have hneg : clF b n (stC b n k) < 0 := clF_neg _ _ _ hF
        exact ⟨_, rfl, P1.1, Or.inl ⟨by rw [hS]; exact hneg, by rw [P1.2.1, hS]⟩⟩
    · have hS : lawS b n (j + 1 + 1) k = -1000 - ((stC b n k : Nat) : Int) := by
        rw [lawS]
        rw [if_pos (by simpa using hK)]
      have r1 : mC z e 47 [(2, 40)] μ = some (0, zup μ 1 4 (-1000 - ((stC b n k : Nat) : Int))) := by
        obtain ⟨e, rfl, he'⟩ := pred_of (k := 63) he
        have hz : zpl 0 (tx b n (stC b n k)) = -1 := (zpl0 _).mpr (fun h => hK (decide_eq_true h))
        rw [c_Rdr_readClause _ _ _ hs.1, s_peek (by omega) hs.2.2.1 hs.2.2.2.1 (by omega), hs.2.2.2.2.2.2]
        simp -implicitDefEqProofs only [ob]
        rw [e_Rdr_readClause_7 _ _ _ _ hs.1 w hw hs.2.1, nT hs.2.2.2.2.1, nT hz, e_Rdr_readClause_28 _ _ _ hs.1, hs.2.2.1, s_fail0 (by omega) hs.2.2.2.2.1 (by omega) (by omega)]
        simp -implicitDefEqProofs only [ob]
        rw [show (-1000 * 1 - ((stC b n k : Nat) : Int)) = -1000 - ((stC b n k : Nat) : Int) by omega]
      rw [r1]
      simp -implicitDefEqProofs only [ob]
      rw [s_read19_f (by rw [zup_ro (by omega)]; exact hs.1) (by rw [zup_hit]; omega)]
      exact ⟨_, rfl, lwf_1 (Or.inr rfl), Or.inl ⟨by omega, by rw [zup_hit, hS]⟩⟩
