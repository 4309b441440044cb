/-! soldiers; what is kept: both -/
def SOr (h a b c dd : Row) : Prop := ∀ i, i < 24 → (h (4 * i + 3) = 0 ∧ a i = -1) ∨ (0 ≤ a i ∧ a i < 12 ∧ h (4 * i) = a i ∧ (0 ≤ b i ∧ b i < 16 ∧ h (4 * i + 1) = b i) ∧ (0 ≤ c i ∧ c i < 16 ∧ h (4 * i + 2) = c i) ∧ 1 ≤ dd i ∧ dd i ≤ 9 ∧ h (4 * i + 3) = dd i)
theorem SOr_cnt {h a b c dd : Row} (hS : SOr h a b c dd) : cnt (fun i => decide (0 < h (4 * i + 3))) 24 = cnt (fun i => decide (a i ≠ -1)) 24 := by
  apply cnt_congr
  intro i hi
  apply decide_eq_decide.mpr
  rcases hS i hi with ⟨h1, h2⟩ | ⟨h1, h2, h3, h4, h5, h6, h7, h8⟩
  · constructor <;> intro q <;> omega
  · constructor <;> intro q <;> omega
theorem SOr_congr {h a b c dd h' a' b' c' d' : Row} (hS : SOr h a b c dd) (q0 : ∀ j, j < 96 → h' j = h j) (q1 : ∀ j, j < 24 → a' j = a j) (q2 : ∀ j, j < 24 → b' j = b j) (q3 : ∀ j, j < 24 → c' j = c j) (q4 : ∀ j, j < 24 → d' j = dd j) : SOr h' a' b' c' d' := by
  intro i hi
  rw [q0 (4 * i) (by omega), q0 (4 * i + 1) (by omega), q0 (4 * i + 2) (by omega), q0 (4 * i + 3) (by omega), q1 i hi, q2 i hi, q3 i hi, q4 i hi]
  exact hS i hi
theorem soldier_both {z : zZ} {d d' : Nat} {v1 v2 v3 v4 v5 : Int} {μ ρ : Mu} (hd : 3 ≤ d) (hd' : 2 ≤ d') (hS : SOr (μ 67) (ρ 132) (ρ 133) (ρ 134) (ρ 135)) : ∃ (r : Int) (M P : Mu), mC z d 154 [(2, 0), (0, v1), (0, v2), (0, v3), (0, v4), (0, v5)] μ = some (r, M) ∧ mC z d' 289 [(2, 86), (0, v1), (0, v2), (0, v3), (0, v4), (0, v5)] ρ = some (r, P) ∧ SOr (M 67) (P 132) (P 133) (P 134) (P 135) ∧ (∀ a, a ≠ 67 → M a = μ a) ∧ ∀ a, (a < 132 ∨ 135 < a) → P a = ρ a := by
  obtain ⟨e, rfl, he⟩ := pred_of (k := 2) hd
  obtain ⟨e', rfl, he'⟩ := pred_of (k := 1) hd'
  have hno : f_W_soldier_32 z e μ = some (0, μ) := by rw [e_W_soldier_32]
  have hno2 : f_W_soldier_47 z e μ = some (0, μ) := by rw [e_W_soldier_47]
  have hno' : f_M_soldier_49 z e' ρ = some (0, ρ) := by rw [e_M_soldier_49]
  have fin0 : mC z (e + 1) 154 [(2, 0), (0, v1), (0, v2), (0, v3), (0, v4), (0, v5)] μ = some (0, μ) → mC z (e' + 1) 289 [(2, 86), (0, v1), (0, v2), (0, v3), (0, v4), (0, v5)] ρ = some (0, ρ) → ∃ (r : Int) (M P : Mu), mC z (e + 1) 154 [(2, 0), (0, v1), (0, v2), (0, v3), (0, v4), (0, v5)] μ = some (r, M) ∧ mC z (e' + 1) 289 [(2, 86), (0, v1), (0, v2), (0, v3), (0, v4), (0, v5)] ρ = some (r, P) ∧ SOr (M 67) (P 132) (P 133) (P 134) (P 135) ∧ (∀ a, a ≠ 67 → M a = μ a) ∧ ∀ a, (a < 132 ∨ 135 < a) → P a = ρ a := fun h1 h2 => ⟨0, μ, ρ, h1, h2, hS, fun _ _ => rfl, fun _ _ => rfl⟩
  have hc := c_W_soldier z e v1 v2 v3 v4 v5 μ
  have hr := c_M_soldier z e' v1 v2 v3 v4 v5 ρ
  rw [t_in (by omega)] at hr
  simp -implicitDefEqProofs only [ob] at hr
  rw [cB] at hr
  by_cases h1 : 0 ≤ v1 ∧ v1 ≤ 23
  · rw [cF (show ¬ v1 < 0 by omega), cF (show ¬ 24 ≤ v1 by omega), s_isLetter (by omega)] at hc
    rw [decide_eq_true h1, cond_true, t_isLetter (by omega)] at hr
    simp -implicitDefEqProofs only [ob] at hc hr
    rw [cB] at hc hr
    by_cases h2 : 0 ≤ v2 ∧ v2 < 12
    · rw [decide_eq_true h2, cond_true, s_isOnNet (by omega)] at hc
      rw [decide_eq_true h2, cond_true, t_in (by omega)] at hr
      simp -implicitDefEqProofs only [ob] at hc hr
      rw [cB] at hc hr
      by_cases h3 : 0 ≤ v3 ∧ v3 < 16
      · rw [decide_eq_true h3, cond_true, s_isOnNet (by omega)] at hc
        rw [decide_eq_true (show (0 : Int) ≤ v3 ∧ v3 ≤ 15 by omega), cond_true, t_in (by omega)] at hr
        simp -implicitDefEqProofs only [ob] at hc hr
        rw [nB] at hc
        rw [cB] at hr
        by_cases h4 : 0 ≤ v4 ∧ v4 < 16
        · rw [decide_eq_true h4, cond_true] at hc
          rw [decide_eq_true (show (0 : Int) ≤ v4 ∧ v4 ≤ 15 by omega), cond_true, t_in (by omega)] at hr
          simp -implicitDefEqProofs only [ob] at hr
          rw [nB] at hr
          by_cases h5 : 1 ≤ v5 ∧ v5 ≤ 9
          · obtain ⟨i, rfl, hi⟩ : ∃ t : Nat, v1 = (t : Int) ∧ t < 24 := ⟨v1.toNat, by omega, by omega⟩
            obtain ⟨e2, rfl, he2⟩ := pred_of (k := 1) he
            have z4 : zw (4 * (i : Int)) = ((4 * i : Nat) : Int) := by rw [zw_id (by omega) (by omega)]; omega
            have z41 : zw (((4 * i : Nat) : Int) + 1) = ((4 * i + 1 : Nat) : Int) := zwc (by omega)
            have z42 : zw (((4 * i : Nat) : Int) + 2) = ((4 * i + 2 : Nat) : Int) := by rw [zw_id (by omega) (by omega)]; omega
            have z43 : zw (((4 * i : Nat) : Int) + 3) = ((4 * i + 3 : Nat) : Int) := by rw [zw_id (by omega) (by omega)]; omega
            rw [cF (show ¬ v5 < 1 by omega), cT h5.2, e_W_soldier_49, c_Sol_enlist, cF (show ¬ (i : Int) < 0 by omega), cF (show ¬ (24 : Int) ≤ (i : Int) by omega), z4, z41, z42, z43] at hc
            clear z4 z41 z42 z43
            rw [gI_ok (by omega) (by omega), gI_ok (by omega) (by omega), gI_ok (by omega) (by omega), gI_ok (by omega) (by omega), e_Sol_enlist_54] at hc
            simp -implicitDefEqProofs only [ob, Int.toNat_natCast] at hc
            rw [decide_eq_true h5, cond_true, e_M_soldier_51, gI_ok (by omega) (by omega), gI_ok (by omega) (by omega), gI_ok (by omega) (by omega), gI_ok (by omega) (by omega), Int.toNat_natCast] at hr
            refine ⟨_, _, _, hc, hr, fun k hk => ?_, fun a q => by rw [zup_ro q, zup_ro q, zup_ro q, zup_ro q], fun a q => by rw [zup_ro (by omega), zup_ro (by omega), zup_ro (by omega), zup_ro (by omega)]⟩
            rw [zup_ro (show (132 : Nat) ≠ 135 by omega), zup_ro (show (132 : Nat) ≠ 134 by omega), zup_ro (show (132 : Nat) ≠ 133 by omega), zup_ro (show (133 : Nat) ≠ 135 by omega), zup_ro (show (133 : Nat) ≠ 134 by omega), zup_ro (show (134 : Nat) ≠ 135 by omega)]
            by_cases hk2 : k = i
            · subst hk2
              right
              rw [zup_hit, zup_hit, zup_hit, zup_hit, zup_hit, zup_nk (show 4 * k ≠ 4 * k + 3 by omega), zup_nk (show 4 * k ≠ 4 * k + 2 by omega), zup_nk (show 4 * k ≠ 4 * k + 1 by omega), zup_hit, zup_nk (show 4 * k + 1 ≠ 4 * k + 3 by omega), zup_nk (show 4 * k + 1 ≠ 4 * k + 2 by omega), zup_hit, zup_nk (show 4 * k + 2 ≠ 4 * k + 3 by omega), zup_hit]
              exact ⟨h2.1, h2.2, rfl, ⟨h3.1, h3.2, rfl⟩, ⟨h4.1, h4.2, rfl⟩, h5.1, h5.2, rfl⟩
            · have hh := hS k hk
              rw [zup_nk (b := 132) hk2, zup_nk (b := 133) hk2, zup_nk (b := 134) hk2, zup_nk (b := 135) hk2, zup_ro (show (133 : Nat) ≠ 132 by omega), zup_ro (show (134 : Nat) ≠ 133 by omega), zup_ro (show (134 : Nat) ≠ 132 by omega), zup_ro (show (135 : Nat) ≠ 134 by omega), zup_ro (show (135 : Nat) ≠ 133 by omega), zup_ro (show (135 : Nat) ≠ 132 by omega)]
              have r67 : ∀ j, j ≠ 4 * i → j ≠ 4 * i + 1 → j ≠ 4 * i + 2 → j ≠ 4 * i + 3 → zup (zup (zup (zup μ 67 (4 * i) v2) 67 (4 * i + 1) v3) 67 (4 * i + 2) v4) 67 (4 * i + 3) v5 67 j = μ 67 j := fun j q1 q2 q3 q4 => by rw [zup_nk q4, zup_nk q3, zup_nk q2, zup_nk q1]
              rw [r67 (4 * k) (by omega) (by omega) (by omega) (by omega), r67 (4 * k + 1) (by omega) (by omega) (by omega) (by omega), r67 (4 * k + 2) (by omega) (by omega) (by omega) (by omega), r67 (4 * k + 3) (by omega) (by omega) (by omega) (by omega)]
              exact hh
          · rw [decide_eq_false h5, cond_false, hno'] at hr
            by_cases h6 : v5 < 1
            · rw [cT h6, hno2] at hc
              exact fin0 hc hr
            · rw [cF h6, cF (by omega), hno2] at hc
              exact fin0 hc hr
        · rw [decide_eq_false h4, cond_false, hno] at hc
          rw [decide_eq_false (show ¬ ((0 : Int) ≤ v4 ∧ v4 ≤ 15) by omega), cond_false, hno'] at hr
          exact fin0 hc hr
      · rw [decide_eq_false h3, cond_false, hno] at hc
        rw [decide_eq_false (show ¬ ((0 : Int) ≤ v3 ∧ v3 ≤ 15) by omega), cond_false, hno'] at hr
        exact fin0 hc hr
    · rw [decide_eq_false h2, cond_false, hno] at hc
      rw [decide_eq_false h2, cond_false, hno'] at hr
      exact fin0 hc hr
  · rw [decide_eq_false h1, cond_false, hno'] at hr
    by_cases h6 : v1 < 0
    · rw [cT h6, hno] at hc
      exact fin0 hc hr
    · rw [cF h6, cT (by omega), hno] at hc
      exact fin0 hc hr
/-- what is kept of a side, in both -/
def KC (μ ρ : Mu) (s : Nat) : Prop := (∀ j, j < 36 → 0 ≤ μ (74 + 3 * s) j ∧ μ (74 + 3 * s) j ≤ 999) ∧ pt (ρ 140) (12 * s) (μ (74 + 3 * s)) 0 ∧ pt (ρ 141) (12 * s) (μ (74 + 3 * s)) 12 ∧ pt (ρ 142) (12 * s) (μ (74 + 3 * s)) 24 ∧ ∃ m : Nat, m ≤ 6 ∧ μ (73 + 3 * s) 2 = (m : Int) ∧ ρ 143 s = (m : Int) ∧ ∀ q, q < m → 0 ≤ ρ 145 (6 * s + q) ∧ rwd ρ 144 (8 * (6 * s + q)) (ρ 145 (6 * s + q)).toNat (μ (75 + 3 * s) q)
def KG (μ ρ : Mu) : Prop := μ 0 16 = ρ 86 78 ∧ (μ 0 17 = ρ 86 77 ∧ 0 ≤ μ 0 17 ∧ μ 0 17 ≤ 65535) ∧ (∃ (A B : Nat → Nat) (n : Nat), n ≤ 24 ∧ μ 58 1 = (n : Int) ∧ ρ 86 79 = (n : Int) ∧ FGc (μ 60) A B n ∧ FGr (ρ 146) (ρ 147) A B n) ∧ SOr (μ 68) (ρ 148) (ρ 149) (ρ 150) (ρ 151) ∧ ∀ s, s < 2 → KC μ ρ s
def KT (μ ρ : Mu) : Prop := (μ 0 15 = 0 ∧ ρ 86 76 = 0) ∨ (μ 0 15 = 1 ∧ ρ 86 76 = 1 ∧ KG μ ρ)
theorem KC_rows {μ ρ M P : Mu} {s : Nat} (hs : s < 2) (r : ∀ a, 73 ≤ a → a ≤ 78 → M a = μ a) (p : ∀ a, 140 ≤ a → a ≤ 145 → P a = ρ a) (h : KC μ ρ s) : KC M P s := by
  obtain ⟨h1, h2, h3, h4, m, h5, h6, h7, h8⟩ := h
  have e1 := r (74 + 3 * s) (by omega) (by omega)
  have e2 := r (73 + 3 * s) (by omega) (by omega)
  have e3 := r (75 + 3 * s) (by omega) (by omega)
  refine ⟨by rw [e1]; exact h1, by rw [e1, p 140 (by omega) (by omega)]; exact h2, by rw [e1, p 141 (by omega) (by omega)]; exact h3, by rw [e1, p 142 (by omega) (by omega)]; exact h4, m, h5, by rw [e2]; exact h6, by rw [p 143 (by omega) (by omega)]; exact h7, fun q hq => ?_⟩
  rw [p 145 (by omega) (by omega), e3]
  exact ⟨(h8 q hq).1, rwd_congr (h8 q hq).2 (fun k _ => by rw [p 144 (by omega) (by omega)])⟩
theorem KT_rows {μ ρ M P : Mu} (m0 : ∀ k, 15 ≤ k → k ≤ 17 → M 0 k = μ 0 k) (m58 : M 58 1 = μ 58 1) (r : ∀ a, a = 60 ∨ a = 68 ∨ (73 ≤ a ∧ a ≤ 78) → M a = μ a) (p86 : ∀ k, 76 ≤ k → k ≤ 79 → P 86 k = ρ 86 k) (p : ∀ a, 140 ≤ a → P a = ρ a) (h : KT μ ρ) : KT M P := by
  rcases h with ⟨h1, h2⟩ | ⟨h1, h2, h3, h4, ⟨A, B, n, h5, h6, h7, h8, h9⟩, h10, h11⟩
  · exact Or.inl ⟨by rw [m0 15 (by omega) (by omega)]; exact h1, by rw [p86 76 (by omega) (by omega)]; exact h2⟩
  · refine Or.inr ⟨by rw [m0 15 (by omega) (by omega)]; exact h1, by rw [p86 76 (by omega) (by omega)]; exact h2, by rw [m0 16 (by omega) (by omega), p86 78 (by omega) (by omega)]; exact h3, by rw [m0 17 (by omega) (by omega), p86 77 (by omega) (by omega)]; exact h4, ⟨A, B, n, h5, by rw [m58]; exact h6, by rw [p86 79 (by omega) (by omega)]; exact h7, by rw [r 60 (by omega)]; exact h8, by rw [p 146 (by omega), p 147 (by omega)]; exact h9⟩, by rw [r 68 (by omega), p 148 (by omega), p 149 (by omega), p 150 (by omega), p 151 (by omega)]; exact h10, fun s hs => KC_rows hs (fun a q1 q2 => r a (by omega)) (fun a q1 q2 => p a (by omega)) (h11 s hs)⟩
theorem t_cp {z : zZ} {d a b : Nat} {va vb : Int} {P : Mu} (hd : 1 ≤ d) (hva : va = (a : Int)) (hvb : vb = (b : Int)) (ha : iar a 24) (hb : iar b 24) (hab : a ≠ b) : ∃ P', mC z d 253 [(2, va), (2, vb), (0, 24)] P = some (0, P') ∧ (∀ j, j < 24 → P' b j = P a j) ∧ (∀ j, 24 ≤ j → P' b j = P b j) ∧ ∀ c, c ≠ b → P' c = P c := by
  subst hva
  subst hvb
  have h := t_copies (z := z) (d := d) (μ := P) (n := 24) hd ha hb hab (by omega) (by omega) (by omega)
  rw [show ((24 : Nat) : Int) = 24 from rfl] at h
  exact ⟨_, h, fun j hj => by rw [zrow_same]; unfold cpy; rw [if_pos hj], fun j hj => by rw [zrow_same]; unfold cpy; rw [if_neg (by omega)], fun c q => zrow_ne q⟩
theorem cnt_at {p : Nat → Bool} {q : Nat} : ∀ N, q < cnt p N → ∃ v, v < N ∧ p v = true ∧ cnt p v = q := by
  intro N
  induction N with
  | zero => intro h; exact absurd h (by show ¬ q < 0; omega)
  | succ N ih =>
    intro h
    rw [cnt_succ] at h
    by_cases h1 : q < cnt p N
    · obtain ⟨v, h2, h3, h4⟩ := ih h1
      exact ⟨v, by omega, h3, h4⟩
    · by_cases h2 : p N = true
      · rw [if_pos h2] at h
        exact ⟨N, by omega, h2, by omega⟩
      · rw [if_neg h2] at h
        omega
