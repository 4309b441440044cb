/-! what the law is told; drawn numbers; strengths -/
def strS (c : Int) (r : Row) (k : Nat) : Int := if 1 ≤ nib c k ∧ nib c k ≤ 12 then r (nib c k - 1) else 0
def r99 (r : Row) : Prop := ∀ j, 0 ≤ r j ∧ r j ≤ 99
theorem strS_rg {c : Int} {r : Row} (h : r99 r) (k : Nat) : 0 ≤ strS c r k ∧ strS c r k ≤ 99 := by
  unfold strS
  have := h (nib c k - 1)
  split <;> omega
theorem s_strengthOf {z : zZ} {d : Nat} {c : Int} {μ : Mu} (hd : 2 ≤ d) (h : r99 (μ 35)) : mC z d 84 [(2, 0), (0, c)] μ = some (sm (strS c (μ 35)) 8, μ) := by
  obtain ⟨e, rfl, he⟩ := pred_of hd
  rw [c_W_strengthOf]
  have H := down (n := 8) (P := fun k => f_W_strengthOf_4 z e c (sm (strS c (μ 35)) k) (k : Int) μ = some (sm (strS c (μ 35)) 8, μ))
    (by rw [e_W_strengthOf_4, cT (by omega)])
    (by
      intro k hk ih
      have h15 := nib_lt c k
      have hb := sm_bound (strS_rg (c := c) h) k
      have hs := strS_rg (c := c) h k
      rw [e_W_strengthOf_4, cF (by omega), s_letterAt he, letc_nat hk]
      simp -implicitDefEqProofs only [ob]
      rw [s_isLetter he]
      simp -implicitDefEqProofs only [ob, cB]
      by_cases hl : 1 ≤ nib c k ∧ nib c k ≤ 12
      · have e1 : (0 : Int) ≤ (nib c k : Int) - 1 ∧ (nib c k : Int) - 1 < 12 := by omega
        have e2 : strS c (μ 35) k = μ 35 (nib c k - 1) := by unfold strS; rw [if_pos hl]
        rw [nibi hl.1]
        rw [nibi hl.1] at e1
        simp -implicitDefEqProofs only [e1, and_self, decide_true, cond_true, Int.toNat_natCast]
        rw [gI_ok (by omega) (by omega), e_W_strengthOf_35, zwc (by omega), ← e2, zw_id (by omega) (by omega)]
        exact ih
      · have e1 : ¬ ((0 : Int) ≤ (nib c k : Int) - 1 ∧ (nib c k : Int) - 1 < 12) := by omega
        have e2 : sm (strS c (μ 35)) (k + 1) = sm (strS c (μ 35)) k := by
          show sm (strS c (μ 35)) k + strS c (μ 35) k = _
          unfold strS
          rw [if_neg hl]
          omega
        rw [decide_eq_false e1]
        simp -implicitDefEqProofs only [cond_false]
        rw [e_W_strengthOf_35, zwc (by omega)]
        rw [e2] at ih
        exact ih)
  exact H 0 (by omega)
theorem sm_ext {g : Nat → Int} {n N : Nat} (h : n ≤ N) (hg : ∀ k, n ≤ k → g k = 0) : sm g N = sm g n := by
  induction N with
  | zero => have : n = 0 := by omega
            subst this; rfl
  | succ N ih =>
    by_cases e : n = N + 1
    · rw [e]
    · show sm g N + g N = _
      rw [hg N (by omega), ih (by omega)]
      omega
theorem t_strengthIn {z : zZ} {d s w N : Nat} {W r : Row} {L : Nat → Nat} {μ : Mu} (hd : 2 ≤ d) (hs : s < 2) (hx : lexR μ s N W L) (hw : w < N) (h : r99 r) (hr : ∀ k, k < 12 → μ 87 k = r k) : mC z d 247 [(2, 86), (0, (s : Int)), (0, (w : Int))] μ = some (sm (strS (W w) r) 8, μ) := by
  obtain ⟨e, rfl, he⟩ := pred_of hd
  obtain ⟨g1, g2, g3⟩ := hx.2.2 w hw
  have g4 := g3.1.2.1
  have n12 := hx.2.1
  rw [c_M_strengthIn, sm_ext g4 (fun k hk => by unfold strS; rw [g3.1.2.2.2 k hk]; simp)]
  have H := down (n := L w) (P := fun k => f_M_strengthIn_5 z e (s : Int) (w : Int) (sm (strS (W w) r) k) (k : Int) μ = some (sm (strS (W w) r) (L w), μ))
    (by
      rw [e_M_strengthIn_5, t_longOf he hs (by omega), g2]
      simp -implicitDefEqProofs only [ob]
      rw [cT (by omega)])
    (by
      intro k hk ih
      have hl := g3.1.2.2.1 k hk
      have hb := sm_bound (strS_rg (c := W w) h) k
      have hs2 := strS_rg (c := W w) h k
      have e2 : strS (W w) r k = r (nib (W w) k - 1) := by unfold strS; rw [if_pos hl]
      rw [e_M_strengthIn_5, t_longOf he hs (by omega), g2]
      simp -implicitDefEqProofs only [ob]
      rw [cF (by omega), t_beginOf he hs (by omega)]
      simp -implicitDefEqProofs only [ob]
      rw [zwa (by omega), gI_ok (by omega) (by omega)]
      simp -implicitDefEqProofs only [Int.toNat_natCast, g3.2 k hk, nibi hl.1]
      rw [gI_ok (by omega) (by omega), hr _ (by omega), ← e2, zwc (by omega), zw_id (by omega) (by omega)]
      exact ih)
  exact H 0 (by omega)
/-- drawn numbers -/
def nxd (x : Int) : Int := (25173 * x + 13849) % 65536
theorem s_nextDraw {z : zZ} {d : Nat} {μ : Mu} (hd : 1 ≤ d) (h0 : 0 ≤ μ 0 19) (h1 : μ 0 19 ≤ 65535) : mC z d 85 [(2, 0)] μ = some (nxd (μ 0 19) % 10, zup μ 0 19 (nxd (μ 0 19))) := by
  obtain ⟨e, rfl, he⟩ := pred_of hd
  have hm := z_and_mask (a := 25173 * μ 0 19 + 13849) (n := 16) (by omega)
  rw [show ((2 ^ 16 - 1 : Nat) : Int) = 65535 from rfl, show (2 : Int) ^ 16 = 65536 from rfl] at hm
  rw [c_W_nextDraw, zw_id (x := 25173 * μ 0 19) (by omega) (by omega), zw_id (by omega) (by omega), hm]
  unfold z_rem nxd
  rw [Int.tmod_eq_emod_of_nonneg (by omega)]
theorem t_draws {z : zZ} {d : Nat} {μ : Mu} (hd : 1 ≤ d) (h0 : 0 ≤ μ 86 0) (h1 : μ 86 0 ≤ 65535) : mC z d 244 [(2, 86)] μ = some (nxd (μ 86 0) % 10, zup μ 86 0 (nxd (μ 86 0))) := by
  obtain ⟨e, rfl, he⟩ := pred_of hd
  rw [c_M_draws, zw_id (x := 25173 * μ 86 0) (by omega) (by omega), zw_id (by omega) (by omega)]
  unfold z_rem nxd
  rw [Int.tmod_eq_emod_of_nonneg (a := 25173 * μ 86 0 + 13849) (by omega), Int.tmod_eq_emod_of_nonneg (by omega)]
/-- rows filled -/
def fil (h : Row) (v : Int) (n : Nat) : Row := fun j => if j < n then v else h j
theorem fil_step (h : Row) (v : Int) (k : Nat) : rup (fil h v k) k v = fil h v (k + 1) := by
  funext j
  unfold rup fil
  by_cases h1 : j = k
  · rw [if_pos h1, if_pos (by omega)]
  · rw [if_neg h1]
    by_cases h2 : j < k
    · rw [if_pos h2, if_pos (by omega)]
    · rw [if_neg h2, if_neg (by omega)]
theorem fil_0 (h : Row) (v : Int) : fil h v 0 = h := by
  funext j
  unfold fil
  rw [if_neg (by omega)]
theorem gKi {a n : Nat} {A : mR} (ha : iar a n) : gK (a : Int) A = A := by
  unfold gK
  have h1 := ha.1.2
  simp [h1]
theorem s_fill {z : zZ} {d a n : Nat} {v : Int} {μ : Mu} (hd : 1 ≤ d) (ha : iar a n) (hn : n ≤ 5000) : mC z d 5 [(2, (a : Int)), (0, v)] μ = some (0, zrow μ a (fil (μ a) v n)) := by
  obtain ⟨e, rfl, he⟩ := pred_of hd
  rw [c_Arr_fill_AIIV, gKi ha, ha.2]
  have H := down (n := n) (P := fun k => f_Arr_fill_AIIV_5 z e (a : Int) v (k : Int) (n : Int) (zrow μ a (fil (μ a) v k)) = some (0, zrow μ a (fil (μ a) v n)))
    (by rw [e_Arr_fill_AIIV_5, cT (by omega)])
    (by
      intro k hk ih
      rw [e_Arr_fill_AIIV_5, cF (by omega), gAi ha hk]
      simp -implicitDefEqProofs only [Int.toNat_natCast]
      rw [zwc (by omega), zupr, zrow_same, zrow_zrow, fil_step]
      exact ih)
  have H0 := H 0 (by omega)
  rw [fil_0, zrow_id] at H0
  exact H0
theorem ia53 : iar 53 10 := ⟨⟨by omega, rfl⟩, rfl⟩
/-- ten facts: the turns, the side, and nothing else yet -/
def tel (h : Row) (t s : Int) : Row := rup (rup (fil h 0 10) 0 t) 1 s
theorem s_tell {z : zZ} {d : Nat} {s : Int} {μ : Mu} (hd : 2 ≤ d) : mC z d 82 [(2, 0), (0, s)] μ = some (0, zrow μ 53 (tel (μ 53) (μ 0 18) s)) := by
  obtain ⟨e, rfl, he⟩ := pred_of hd
  have hf := s_fill (z := z) (d := e) (a := 53) (n := 10) (v := 0) (μ := μ) he ia53 (by omega)
  simp -implicitDefEqProofs only [Int.cast_ofNat_Int] at hf
  rw [c_W_tell, hf]
  simp -implicitDefEqProofs only [ob]
  rw [zrow_ne (by omega), zupr, zupr, zrow_same, zrow_same, zrow_zrow, zrow_zrow]
  rfl
theorem t_feels {z : zZ} {d : Nat} {s : Int} {μ : Mu} (hd : 1 ≤ d) : mC z d 246 [(2, 86), (0, s)] μ = some (0, zrow μ 110 (tel (μ 110) (μ 86 1) s)) := by
  obtain ⟨e, rfl, he⟩ := pred_of hd
  rw [c_M_feels]
  have H := down (n := 10) (P := fun k => f_M_feels_2 z e s (k : Int) (zrow μ 110 (fil (μ 110) 0 k)) = some (0, zrow μ 110 (tel (μ 110) (μ 86 1) s)))
    (by
      rw [e_M_feels_2, cT (by omega), zrow_ne (by omega), zupr, zupr, zrow_same, zrow_same, zrow_zrow, zrow_zrow]
      rfl)
    (by
      intro k hk ih
      rw [e_M_feels_2, cF (by omega), gI_ok (by omega) (by omega)]
      simp -implicitDefEqProofs only [Int.toNat_natCast]
      rw [zwc (by omega), zupr, zrow_same, zrow_zrow, fil_step]
      exact ih)
  have H0 := H 0 (by omega)
  rw [fil_0, zrow_id] at H0
  exact H0
theorem s_tellWord {z : zZ} {d n : Nat} {c : Int} {μ : Mu} (hd : 3 ≤ d) (hc : isW c n) (h : r99 (μ 35)) : mC z d 83 [(2, 0), (0, c)] μ = some (0, zrow μ 53 (rup (rup (μ 53) 2 (n : Int)) 3 (sm (strS c (μ 35)) 8))) := by
  obtain ⟨e, rfl, he⟩ := pred_of hd
  rw [c_W_tellWord, s_sizeOf (by omega) hc]
  simp -implicitDefEqProofs only [ob]
  rw [s_strengthOf (by omega) (by rw [zup_ro (by omega)]; exact h), zup_ro (by omega)]
  simp -implicitDefEqProofs only [ob]
  rw [zupr, zupr, zrow_same, zrow_zrow]
theorem t_feelsWord {z : zZ} {d s w N : Nat} {W r : Row} {L : Nat → Nat} {μ : Mu} (hd : 3 ≤ d) (hs : s < 2) (hx : lexR μ s N W L) (hw : w < N) (h : r99 r) (hr : ∀ k, k < 12 → μ 87 k = r k) : mC z d 245 [(2, 86), (0, (s : Int)), (0, (w : Int))] μ = some (0, zrow μ 110 (rup (rup (tel (μ 110) (μ 86 1) (s : Int)) 2 (L w : Int)) 3 (sm (strS (W w) r) 8))) := by
  obtain ⟨e, rfl, he⟩ := pred_of hd
  obtain ⟨g1, g2, g3⟩ := hx.2.2 w hw
  have n12 := hx.2.1
  rw [c_M_feelsWord, t_feels (by omega)]
  simp -implicitDefEqProofs only [ob]
  rw [t_longOf (by omega) hs (by omega), zrow_ne (by omega), g2]
  simp -implicitDefEqProofs only [ob]
  generalize hM : zup (zrow μ 110 (tel (μ 110) (μ 86 1) (s : Int))) 110 2 (L w : Int) = M
  have r110 : M 110 = rup (tel (μ 110) (μ 86 1) (s : Int)) 2 (L w : Int) := by rw [← hM, zupr, zrow_same, zrow_same]
  have rr : ∀ a, a ≠ 110 → M a = μ a := fun a h => by rw [← hM, zup_ro h, zrow_ne h]
  have xM : lexR M s N W L := lexR_congr hx (rr 86 (by omega)) (rr 94 (by omega)) (rr 95 (by omega))
  rw [t_strengthIn he hs xM hw h (fun k hk => by rw [rr 87 (by omega)]; exact hr k hk)]
  simp -implicitDefEqProofs only [ob]
  rw [zupr, r110, ← hM, zupr, zrow_zrow, zrow_zrow]
