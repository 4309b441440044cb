/-! the reference reads a law -/
def ssC (b : Row) (n : Nat) : Nat → Nat
  | 0 => 0
  | k + 1 => ssC b n k + cl1 b n (stC b n k) + cl2 b n (stC b n k)
theorem ssC_mono {b : Row} {n : Nat} {c : Nat} : ∀ k, c < k → ssC b n (c + 1) ≤ ssC b n k := by
  intro k h
  induction k with
  | zero => omega
  | succ k ih =>
    by_cases e : c = k
    · subst e; exact Nat.le_refl _
    · have h1 := ih (by omega)
      have h2 : ssC b n (k + 1) = ssC b n k + cl1 b n (stC b n k) + cl2 b n (stC b n k) := rfl
      omega
def LRk (b : Row) (n k : Nat) (M : Mu) : Prop := M 86 26 = (k : Int) ∧ M 86 24 = ((ssC b n k : Nat) : Int) ∧ ∀ c, c < k → M 100 c = tx b n (stC b n c) ∧ M 101 c = ((ssC b n c : Nat) : Int) ∧ M 102 c = ((ssC b n c + cl1 b n (stC b n c) : Nat) : Int) ∧ M 103 c = ((ssC b n c + cl1 b n (stC b n c) + cl2 b n (stC b n c) : Nat) : Int) ∧ ∀ r : Row, (∀ j, ssC b n c ≤ j → j < ssC b n (c + 1) → r j = M 98 j) → rlC b n (stC b n c) (ssC b n c) r
theorem LRk_next {n k : Nat} {b : Row} {μ M : Mu} (h : LRk b n k μ) (hP : RCP b n k (stC b n k) (ssC b n k) μ M) : LRk b n (k + 1) M := by
  obtain ⟨a1, a2, a3, a4, a5, a6, a7, a8, a9⟩ := hP
  refine ⟨a3, a2, fun c hc => ?_⟩
  by_cases e : c = k
  · subst e
    exact ⟨by rw [a4, rup_same], by rw [a5, rup_same], by rw [a6, rup_same], by rw [a7, rup_same], a9⟩
  · obtain ⟨b1, b2, b3, b4, b5⟩ := h.2.2 c (by omega)
    have hm := ssC_mono (b := b) (n := n) k (show c < k by omega)
    exact ⟨by rw [a4, rup_ne e]; exact b1, by rw [a5, rup_ne e]; exact b2, by rw [a6, rup_ne e]; exact b3, by rw [a7, rup_ne e]; exact b4, fun r hr => b5 r (fun j h1 h2 => by rw [hr j h1 h2, a8 j (by omega)])⟩
theorem t_law46 {z : zZ} {e n k : Nat} {b : Row} {M : Mu} (he : 2 ≤ e) (hx : CX M b n) (h10 : M 86 10 = (k : Int)) (hk : k ≤ n) : f_M_law_46 z e 1 M = if n ≤ k then f_M_law_86 z e 1 M else if tx b n k = 59 then (mC z e 209 [(2, 86)] (zup M 86 10 ((k + 1 : Nat) : Int))).bind (fun q2 => (bif decide (q2.1 = 0) then (f_M_law_46 z e 0 q2.2) else (f_M_law_46 z e 1 q2.2))) else f_M_law_46 z e 0 (zup M 86 12 (-1000 - (k : Int))) := by
  have hn := hx.2.1
  have h81 : ∀ X, f_M_law_81 z e X = f_M_law_46 z e 0 X := fun X => by rw [e_M_law_81, e_M_law_82]
  have h82 : ∀ X, f_M_law_82 z e 1 X = f_M_law_46 z e 1 X := fun X => by rw [e_M_law_82]
  rw [e_M_law_46, cF (by decide), hx.1, h10]
  by_cases h : n ≤ k
  · rw [cT (by omega), if_pos h]
  · rw [cF (by omega), if_neg h, t_takes he h10 hx.1 (by omega) (by omega) hx.2.2]
    by_cases h59 : tx b n k = 59
    · rw [if_pos h59, if_pos h59]
      simp -implicitDefEqProofs only [ob]
      rw [cF (by decide)]
      congr 1
      funext q2
      rw [h81, h82]
    · rw [if_neg h59, if_neg h59]
      simp -implicitDefEqProofs only [ob]
      rw [cTt, h81]
theorem t_law46_0 {z : zZ} {e : Nat} {M : Mu} : f_M_law_46 z e 0 M = some (M 86 12, zup M 86 9 0) := by
  rw [e_M_law_46, cT rfl, e_M_law_86, nT rfl]
theorem t_law86_1 {z : zZ} {e : Nat} {M : Mu} : f_M_law_86 z e 1 M = f_M_law_110 z e 0 (zup (zup M 86 9 0) 86 27 (M 86 26)) := by
  rw [e_M_law_86, nF (by decide)]
theorem t_lawgo {z : zZ} {e n : Nat} {b : Row} (he : 9 ≤ e) : ∀ (j k : Nat) (μ : Mu), j + k = 14 → CX μ b n → μ 86 10 = ((stC b n k : Nat) : Int) → LRk b n k μ → ssC b n k ≤ stC b n k → stC b n k ≤ n → (∀ c, c < k → clF b n (stC b n c) = 0 ∧ stC b n c < n) → ∀ (G : Int × Mu → mR), (∀ X, G (0, X) = f_M_law_46 z e 0 X) → (∀ X, G (1, X) = f_M_law_46 z e 1 X) → (lawS b n (j + 1) k < 0 ∧ ∃ M, (mC z e 209 [(2, 86)] μ).bind G = some (lawS b n (j + 1) k, zup M 86 9 0) ∧ lrf μ M) ∨ (∃ (N : Nat) (M : Mu), lawS b n (j + 1) k = (N : Int) ∧ 1 ≤ N ∧ N ≤ 14 ∧ (mC z e 209 [(2, 86)] μ).bind G = f_M_law_110 z e 0 (zup (zup M 86 9 0) 86 27 (N : Int)) ∧ lrf μ M ∧ LRk b n N M ∧ ssC b n N ≤ n ∧ ∀ c, c < N → clF b n (stC b n c) = 0 ∧ stC b n c < n) := by
  intro j
  induction j with
  | zero =>
    intro k μ hjk hx h10 hL hq hp hcl G hG0 hG1
    have hk : k = 14 := by omega
    have hn := hx.2.1
    left
    have hno := t_clause_no (z := z) (d := e) (k := k) (by omega) hx hp h10 hL.1
    by_cases hK : isK (tx b n (stC b n k)) = true
    · have hS : lawS b n (0 + 1) k = -4000 - ((stC b n k : Nat) : Int) := by
        simp only [lawS]
        rw [if_neg (by simp [hK]), if_pos hk]
      rw [hno (Or.inr ⟨hK, hk⟩), if_neg (by simp [hK]), ob, hG0, t_law46_0, zup_hit, hS]
      exact ⟨by omega, _, rfl, lrf_86 (by omega)⟩
    · have hK' : isK (tx b n (stC b n k)) = false := by simpa using hK
      have hS : lawS b n (0 + 1) k = -1000 - ((stC b n k : Nat) : Int) := by
        simp only [lawS]
        rw [if_pos hK']
      rw [hno (Or.inl hK'), if_pos hK', ob, hG0, t_law46_0, zup_hit, hS]
      exact ⟨by omega, _, rfl, lrf_86 (by omega)⟩
  | succ j ih =>
    intro k μ hjk hx h10 hL hq hp hcl G hG0 hG1
    have hk : k < 14 := by omega
    have hn := hx.2.1
    by_cases hK : isK (tx b n (stC b n k)) = true
    · have hK' := of_decide_eq_true hK
      have hpn : stC b n k < n := by rcases hK' with h | h | h | h | h <;> exact tx_lt h (by decide)
      obtain ⟨r, M1, r1, f1, hP⟩ := t_clause (z := z) (d := e) (q := ssC b n k) (k := k) (by omega) hx h10 hL.2.1 hL.1 hk (by omega) hK
      rw [r1, ob]
      rcases hP with ⟨hF, hr, h12⟩ | ⟨hF, hr, hP⟩
      · have hS : lawS b n (j + 1 + 1) k = clF b n (stC b n k) := by
          rw [lawS]
          rw [if_neg (by simp [hK]), if_neg (by omega), if_pos hF]
        have hneg := clF_neg _ _ _ hF
        left
        rw [hr, bi_f, hG0, t_law46_0, h12, hS]
        exact ⟨hneg, _, rfl, f1⟩
      · have hLn := LRk_next hL hP
        have zl := clF_ln hpn hF
        have hx1 := CX_lrf hx f1
        have hcl' : ∀ c, c < k + 1 → clF b n (stC b n c) = 0 ∧ stC b n c < n := by
          intro c hc
          by_cases ec : c = k
          · rw [ec]; exact ⟨hF, hpn⟩
          · exact hcl c (by omega)
        have hsz : ssC b n (k + 1) = ssC b n k + cl1 b n (stC b n k) + cl2 b n (stC b n k) := rfl
        have hst : stC b n (k + 1) = (clD b n (stC b n k)).2 + 2 := rfl
        rw [hr, bi_t, hG1, t_law46 (by omega) hx1 hP.1 (by omega)]
        by_cases hE : n ≤ (clD b n (stC b n k)).2 + 1
        · have hS : lawS b n (j + 1 + 1) k = ((k + 1 : Nat) : Int) := by
            simp only [lawS]
            rw [if_neg (by simp [hK]), if_neg (by omega), if_neg (by intro h; exact h hF), if_pos hE]
          right
          rw [if_pos hE, t_law86_1, hLn.1]
          exact ⟨k + 1, M1, hS, by omega, by omega, rfl, f1, hLn, by omega, hcl'⟩
        · rw [if_neg hE]
          by_cases h59 : tx b n ((clD b n (stC b n k)).2 + 1) = 59
          · have hS : lawS b n (j + 1 + 1) k = lawS b n (j + 1) (k + 1) := by
              rw [lawS]
              rw [if_neg (by simp [hK]), if_neg (by omega), if_neg (by intro h; exact h hF), if_neg hE, if_pos h59]
            rw [if_pos h59]
            have f2 : lrf M1 (zup M1 86 10 (((clD b n (stC b n k)).2 + 1 + 1 : Nat) : Int)) := lrf_86 (by omega)
            have hL2 : LRk b n (k + 1) (zup M1 86 10 (((clD b n (stC b n k)).2 + 1 + 1 : Nat) : Int)) := by
              refine ⟨by rw [zup_nk (by omega)]; exact hLn.1, by rw [zup_nk (by omega)]; exact hLn.2.1, fun c hc => ?_⟩
              rw [zup_ro (by omega), zup_ro (by omega), zup_ro (by omega), zup_ro (by omega), zup_ro (by omega)]
              exact hLn.2.2 c hc
            have h := ih (k + 1) _ (by omega) (CX_lrf hx1 f2) (by rw [hst]; exact zup_hit) hL2 (by omega) (by omega) hcl' (fun q2 => (bif decide (q2.1 = 0) then (f_M_law_46 z e 0 q2.2) else (f_M_law_46 z e 1 q2.2))) (fun X => cT rfl) (fun X => cF (p := (1 : Int) = 0) (by decide))
            rw [hS]
            rcases h with ⟨h1, M, h2, h3⟩ | ⟨N, M, h1, h2, h3, h4, h5, h6⟩
            · exact Or.inl ⟨h1, M, h2, lrf_trans f1 (lrf_trans f2 h3)⟩
            · exact Or.inr ⟨N, M, h1, h2, h3, h4, lrf_trans f1 (lrf_trans f2 h5), h6⟩
          · have hS : lawS b n (j + 1 + 1) k = -1000 - (((clD b n (stC b n k)).2 + 1 : Nat) : Int) := by
              rw [lawS]
              rw [if_neg (by simp [hK]), if_neg (by omega), if_neg (by intro h; exact h hF), if_neg hE, if_neg h59]
            left
            rw [if_neg h59, t_law46_0, zup_hit, hS]
            exact ⟨by omega, _, rfl, lrf_trans f1 (lrf_86 (by omega))⟩
    · have hK' : isK (tx b n (stC b n k)) = false := by simpa using hK
      have hS : lawS b n (j + 1 + 1) k = -1000 - ((stC b n k : Nat) : Int) := by
        rw [lawS]
        rw [if_pos hK']
      left
      rw [t_clause_no (z := z) (d := e) (k := k) (by omega) hx hp h10 hL.1 (Or.inl hK'), if_pos hK', ob, hG0, t_law46_0, zup_hit, hS]
      exact ⟨by omega, _, rfl, lrf_86 (by omega)⟩
/-- codes and clauses are copied -/
theorem zcp (h g : Row) (k : Nat) : rup (cpy h g k) k (h k) = cpy h g (k + 1) := by
  funext j
  unfold rup cpy
  by_cases h1 : j = k
  · rw [if_pos h1, if_pos (by omega), h1]
  · rw [if_neg h1]
    by_cases h2 : j < k
    · rw [if_pos h2, if_pos (by omega)]
    · rw [if_neg h2, if_neg (by omega)]
theorem cpy_0 (h g : Row) : cpy h g 0 = g := by
  funext j
  unfold cpy
  rw [if_neg (by omega)]
theorem t_law110 {z : zZ} {e S : Nat} {μ : Mu} (h24 : μ 86 24 = (S : Int)) (hS : S ≤ 220) : f_M_law_110 z e 0 μ = f_M_law_138 z e 0 (zrow μ 104 (cpy (μ 98) (μ 104) S)) := by
  have H := down (n := S) (P := fun k => f_M_law_110 z e (k : Int) (zrow μ 104 (cpy (μ 98) (μ 104) k)) = f_M_law_138 z e 0 (zrow μ 104 (cpy (μ 98) (μ 104) S)))
    (by rw [e_M_law_110, zrow_ne (by omega), h24, cT (by omega)])
    (by
      intro k hk ih
      rw [e_M_law_110, zrow_ne (by omega), h24, cF (by omega), gI_ok (by omega) (by omega), gI_ok (by omega) (by omega), Int.toNat_natCast, zrow_ne (by omega), zupr, zrow_same, zrow_zrow, zcp, zwc (by omega)]
      exact ih) 0 (by omega)
  rw [cpy_0, zrow_id] at H
  exact H
def lwcp (μ : Mu) (k : Nat) : Mu := zrow (zrow (zrow (zrow μ 105 (cpy (μ 100) (μ 105) k)) 106 (cpy (μ 101) (μ 106) k)) 107 (cpy (μ 102) (μ 107) k)) 108 (cpy (μ 103) (μ 108) k)
theorem t_law138 {z : zZ} {e N : Nat} {μ : Mu} (h26 : μ 86 26 = (N : Int)) (hN : N ≤ 14) : f_M_law_138 z e 0 μ = some ((N : Int), lwcp μ N) := by
  have H := down (n := N) (P := fun k => f_M_law_138 z e (k : Int) (lwcp μ k) = some ((N : Int), lwcp μ N))
    (by
      have h : lwcp μ N 86 26 = (N : Int) := by unfold lwcp; rw [zrow_ne (by omega), zrow_ne (by omega), zrow_ne (by omega), zrow_ne (by omega)]; exact h26
      rw [e_M_law_138, h, cT (by omega)])
    (by
      intro k hk ih
      have h : lwcp μ k 86 26 = (N : Int) := by unfold lwcp; rw [zrow_ne (by omega), zrow_ne (by omega), zrow_ne (by omega), zrow_ne (by omega)]; exact h26
      have hs : zup (zup (zup (zup (lwcp μ k) 105 k (lwcp μ k 100 k)) 106 k (lwcp μ k 101 k)) 107 k (lwcp μ k 102 k)) 108 k (lwcp μ k 103 k) = lwcp μ (k + 1) := by
        have e5 : lwcp μ k 105 = cpy (μ 100) (μ 105) k := by unfold lwcp; rw [zrow_ne (by omega), zrow_ne (by omega), zrow_ne (by omega), zrow_same]
        have e6 : lwcp μ k 106 = cpy (μ 101) (μ 106) k := by unfold lwcp; rw [zrow_ne (by omega), zrow_ne (by omega), zrow_same]
        have e7 : lwcp μ k 107 = cpy (μ 102) (μ 107) k := by unfold lwcp; rw [zrow_ne (by omega), zrow_same]
        have e8 : lwcp μ k 108 = cpy (μ 103) (μ 108) k := by unfold lwcp; rw [zrow_same]
        have ea : ∀ a, a ≠ 105 → a ≠ 106 → a ≠ 107 → a ≠ 108 → lwcp μ k a = μ a := fun a h1 h2 h3 h4 => by unfold lwcp; rw [zrow_ne h4, zrow_ne h3, zrow_ne h2, zrow_ne h1]
        rw [ea 100 (by omega) (by omega) (by omega) (by omega), ea 101 (by omega) (by omega) (by omega) (by omega), ea 102 (by omega) (by omega) (by omega) (by omega), ea 103 (by omega) (by omega) (by omega) (by omega)]
        rw [zupr, zupr, zupr, zupr, zrow_ne (by omega), zrow_ne (by omega), zrow_ne (by omega), zrow_ne (by omega), zrow_ne (by omega), zrow_ne (by omega), e5, e6, e7, e8, zcp, zcp, zcp, zcp]
        funext a
        by_cases h5 : a = 105
        · subst h5; rw [zrow_ne (by omega), zrow_ne (by omega), zrow_ne (by omega), zrow_same]; unfold lwcp; rw [zrow_ne (by omega), zrow_ne (by omega), zrow_ne (by omega), zrow_same]
        by_cases h6 : a = 106
        · subst h6; rw [zrow_ne (by omega), zrow_ne (by omega), zrow_same]; unfold lwcp; rw [zrow_ne (by omega), zrow_ne (by omega), zrow_same]
        by_cases h7 : a = 107
        · subst h7; rw [zrow_ne (by omega), zrow_same]; unfold lwcp; rw [zrow_ne (by omega), zrow_same]
        by_cases h8 : a = 108
        · subst h8; rw [zrow_same]; unfold lwcp; rw [zrow_same]
        rw [zrow_ne h8, zrow_ne h7, zrow_ne h6, zrow_ne h5, ea a h5 h6 h7 h8]
        unfold lwcp
        rw [zrow_ne h8, zrow_ne h7, zrow_ne h6, zrow_ne h5]
      rw [e_M_law_138, h, cF (by omega), gI_ok (by omega) (by omega), gI_ok (by omega) (by omega), gI_ok (by omega) (by omega), gI_ok (by omega) (by omega), gI_ok (by omega) (by omega), gI_ok (by omega) (by omega), gI_ok (by omega) (by omega), gI_ok (by omega) (by omega), Int.toNat_natCast, hs, zwc (by omega)]
      exact ih) 0 (by omega)
  have h0 : lwcp μ 0 = μ := by
    unfold lwcp
    rw [cpy_0, cpy_0, cpy_0, cpy_0, zrow_id]
    have a1 : zrow μ 106 (μ 106) = μ := zrow_id
    have a2 : zrow μ 107 (μ 107) = μ := zrow_id
    have a3 : zrow μ 108 (μ 108) = μ := zrow_id
    rw [a1, a2, a3]
  rw [h0] at H
  exact H
