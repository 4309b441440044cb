/-! the reference fills its table -/
theorem t_shortest {z : zZ} {d w v N0 N1 : Nat} {W0 W1 : Row} {L0 L1 : Nat → Nat} {P : Mu} (hd : 2 ≤ d) (hx : lexR P 0 N0 W0 L0) (hx' : lexR P 1 N1 W1 L1) (hw : w < N0) (hv : v < N1) : ∃ h, mC z d 277 [(2, 86), (0, (w : Int)), (0, (v : Int))] P = some (0, zrow P 126 h) ∧ ∀ i j, i ≤ L0 w → j ≤ L1 v → h (9 * i + j) = scs (fun k => letc (W0 w) (k : Int)) (fun k => letc (W1 v) (k : Int)) (L0 w) (L1 v) (L0 w - i) (L1 v - j) := by
  obtain ⟨e, rfl, he⟩ := pred_of (k := 1) hd
  obtain ⟨x1, x2, x3⟩ := hx.2.2 w hw
  obtain ⟨y1, y2, y3⟩ := hx'.2.2 v hv
  have m8 := x3.1.2.1
  have n8 := y3.1.2.1
  have h12 := hx.2.1
  have h12' := hx'.2.1
  have hcell : ∀ (i j : Nat) (h : Row), i ≤ L0 w → j ≤ L1 v → LT (fun k => letc (W0 w) (k : Int)) (fun k => letc (W1 v) (k : Int)) (L0 w) (L1 v) h i (j + 1) → f_M_laysShortest_27 z e (w : Int) (v : Int) (L0 w : Int) (L1 v : Int) (i : Int) (j : Int) (zrow P 126 h) = f_M_laysShortest_27 z e (w : Int) (v : Int) (L0 w : Int) (L1 v : Int) (i : Int) (zw ((j : Int) + (-1))) (zrow P 126 (rup h (9 * i + j) (scs (fun k => letc (W0 w) (k : Int)) (fun k => letc (W1 v) (k : Int)) (L0 w) (L1 v) (L0 w - i) (L1 v - j)))) := by
    intro i j h hi hj hL
    rw [e_M_laysShortest_27, cF (by omega)]
    by_cases h1 : i = L0 w
    · rw [nT (by omega)]
      by_cases h2 : j = L1 v
      · rw [nT (by omega)]
        exact t_cell he hx hx' hw hv hi hj hL 0 (by rw [if_pos ⟨h1, h2⟩])
      · rw [nF (by omega), e_M_laysShortest_49]
        exact t_cell he hx hx' hw hv hi hj hL 1000000000 (by rw [if_neg (fun q => h2 q.2)])
    · rw [nF (by omega), e_M_laysShortest_49]
      exact t_cell he hx hx' hw hv hi hj hL 1000000000 (by rw [if_neg (fun q => h1 q.1)])
  have hin : ∀ (i : Nat), i ≤ L0 w → ∀ (j : Nat) (h : Row), j ≤ L1 v → LT (fun k => letc (W0 w) (k : Int)) (fun k => letc (W1 v) (k : Int)) (L0 w) (L1 v) h i (j + 1) → ∃ h', f_M_laysShortest_27 z e (w : Int) (v : Int) (L0 w : Int) (L1 v : Int) (i : Int) (j : Int) (zrow P 126 h) = f_M_laysShortest_18 z e (w : Int) (v : Int) (L0 w : Int) (L1 v : Int) (zw ((i : Int) + (-1))) (zrow P 126 h') ∧ LT (fun k => letc (W0 w) (k : Int)) (fun k => letc (W1 v) (k : Int)) (L0 w) (L1 v) h' i 0 := by
    intro i hi j
    induction j with
    | zero =>
      intro h hj hL
      rw [hcell i 0 h hi hj hL, zm0, e_M_laysShortest_27, cT (by omega)]
      refine ⟨_, rfl, fun i' j' h1 h2 h3 => ?_⟩
      by_cases e1 : 9 * i' + j' = 9 * i + 0
      · have e2 : i' = i := by omega
        have e3 : j' = 0 := by omega
        subst e2
        subst e3
        rw [rup_same]
      · rw [rup_ne e1]
        exact hL i' j' h1 h2 (by omega)
    | succ j ih =>
      intro h hj hL
      rw [hcell i (j + 1) h hi hj hL, zm1 (by omega)]
      refine ih _ (by omega) (fun i' j' h1 h2 h3 => ?_)
      by_cases e1 : 9 * i' + j' = 9 * i + (j + 1)
      · have e2 : i' = i := by omega
        have e3 : j' = j + 1 := by omega
        subst e2
        subst e3
        rw [rup_same]
      · rw [rup_ne e1]
        exact hL i' j' h1 h2 (by omega)
  have hout : ∀ (i : Nat) (h : Row), i ≤ L0 w → LT (fun k => letc (W0 w) (k : Int)) (fun k => letc (W1 v) (k : Int)) (L0 w) (L1 v) h (i + 1) 0 → ∃ h', f_M_laysShortest_18 z e (w : Int) (v : Int) (L0 w : Int) (L1 v : Int) (i : Int) (zrow P 126 h) = some (0, zrow P 126 h') ∧ LT (fun k => letc (W0 w) (k : Int)) (fun k => letc (W1 v) (k : Int)) (L0 w) (L1 v) h' 0 0 := by
    intro i
    induction i with
    | zero =>
      intro h hi hL
      obtain ⟨h', r1, r2⟩ := hin 0 hi (L1 v) h (Nat.le_refl _) (fun i' j' h1 h2 h3 => hL i' j' h1 h2 (by omega))
      refine ⟨h', ?_, r2⟩
      rw [e_M_laysShortest_18, cF (by omega), r1, zm0, e_M_laysShortest_18, cT (by omega)]
    | succ i ih =>
      intro h hi hL
      obtain ⟨h', r1, r2⟩ := hin (i + 1) hi (L1 v) h (Nat.le_refl _) (fun i' j' h1 h2 h3 => hL i' j' h1 h2 (by omega))
      obtain ⟨h2, q1, q2⟩ := ih h' (by omega) r2
      refine ⟨h2, ?_, q2⟩
      rw [e_M_laysShortest_18, cF (by omega), r1, zm1 (by omega)]
      exact q1
  obtain ⟨h', r1, r2⟩ := hout (L0 w) (P 126) (Nat.le_refl _) (fun i' j' h1 h2 h3 => by omega)
  rw [zrow_id] at r1
  refine ⟨h', ?_, fun i j h1 h2 => r2 i j h1 h2 (by omega)⟩
  have b0 := t_longOf (z := z) (d := e) (s := 0) (w := w) (μ := P) he (by omega) (by omega)
  have b1 := t_longOf (z := z) (d := e) (s := 1) (w := v) (μ := P) he (by omega) (by omega)
  rw [x2] at b0
  rw [y2] at b1
  have b0' : mC z e 202 [(2, 86), (0, 0), (0, (w : Int))] P = some ((L0 w : Int), P) := b0
  have b1' : mC z e 202 [(2, 86), (0, 1), (0, (v : Int))] P = some ((L1 v : Int), P) := b1
  rw [c_M_laysShortest, b0']
  simp -implicitDefEqProofs only [ob]
  rw [b1']
  simp -implicitDefEqProofs only [ob]
  exact r1
