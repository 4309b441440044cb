def g_M_laysShortest_18 (E : Nat → List zv → List zv → Mu → mR) (v1 : Int) (v2 : Int) (v3 : Int) (v4 : Int) (v5 : Int) (μ : Mu) : mR := E 18 [(2, 86), (0, v1), (0, v2), (0, v3), (0, v4), (0, v5), (9, 0), (9, 0)] [] μ
noncomputable def f_M_laysShortest_18 (z : zZ) (d : Nat) (v1 : Int) (v2 : Int) (v3 : Int) (v4 : Int) (v5 : Int) (μ : Mu) : mR := g_M_laysShortest_18 (fun pc ls st μ => mE z d q_M_laysShortest pc ls st μ) v1 v2 v3 v4 v5 μ
def g_M_laysShortest_27 (E : Nat → List zv → List zv → Mu → mR) (v1 : Int) (v2 : Int) (v3 : Int) (v4 : Int) (v5 : Int) (v6 : Int) (μ : Mu) : mR := E 27 [(2, 86), (0, v1), (0, v2), (0, v3), (0, v4), (0, v5), (0, v6), (9, 0)] [] μ
noncomputable def f_M_laysShortest_27 (z : zZ) (d : Nat) (v1 : Int) (v2 : Int) (v3 : Int) (v4 : Int) (v5 : Int) (v6 : Int) (μ : Mu) : mR := g_M_laysShortest_27 (fun pc ls st μ => mE z d q_M_laysShortest pc ls st μ) v1 v2 v3 v4 v5 v6 μ
def g_M_laysShortest_49 (E : Nat → List zv → List zv → Mu → mR) (v1 : Int) (v2 : Int) (v3 : Int) (v4 : Int) (v5 : Int) (v6 : Int) (μ : Mu) : mR := E 49 [(2, 86), (0, v1), (0, v2), (0, v3), (0, v4), (0, v5), (0, v6), (9, 0)] [] μ
noncomputable def f_M_laysShortest_49 (z : zZ) (d : Nat) (v1 : Int) (v2 : Int) (v3 : Int) (v4 : Int) (v5 : Int) (v6 : Int) (μ : Mu) : mR := g_M_laysShortest_49 (fun pc ls st μ => mE z d q_M_laysShortest pc ls st μ) v1 v2 v3 v4 v5 v6 μ
def g_M_laysShortest_52 (E : Nat → List zv → List zv → Mu → mR) (v1 : Int) (v2 : Int) (v3 : Int) (v4 : Int) (v5 : Int) (v6 : Int) (v100 : Int) (μ : Mu) : mR := E 52 [(2, 86), (0, v1), (0, v2), (0, v3), (0, v4), (0, v5), (0, v6), (9, 0)] [(0, v100)] μ
noncomputable def f_M_laysShortest_52 (z : zZ) (d : Nat) (v1 : Int) (v2 : Int) (v3 : Int) (v4 : Int) (v5 : Int) (v6 : Int) (v100 : Int) (μ : Mu) : mR := g_M_laysShortest_52 (fun pc ls st μ => mE z d q_M_laysShortest pc ls st μ) v1 v2 v3 v4 v5 v6 v100 μ
def g_M_laysShortest_84 (E : Nat → List zv → List zv → Mu → mR) (v1 : Int) (v2 : Int) (v3 : Int) (v4 : Int) (v5 : Int) (v6 : Int) (v7 : Int) (μ : Mu) : mR := E 84 [(2, 86), (0, v1), (0, v2), (0, v3), (0, v4), (0, v5), (0, v6), (0, v7)] [] μ
noncomputable def f_M_laysShortest_84 (z : zZ) (d : Nat) (v1 : Int) (v2 : Int) (v3 : Int) (v4 : Int) (v5 : Int) (v6 : Int) (v7 : Int) (μ : Mu) : mR := g_M_laysShortest_84 (fun pc ls st μ => mE z d q_M_laysShortest pc ls st μ) v1 v2 v3 v4 v5 v6 v7 μ
def g_M_laysShortest_115 (E : Nat → List zv → List zv → Mu → mR) (v1 : Int) (v2 : Int) (v3 : Int) (v4 : Int) (v5 : Int) (v6 : Int) (v7 : Int) (μ : Mu) : mR := E 115 [(2, 86), (0, v1), (0, v2), (0, v3), (0, v4), (0, v5), (0, v6), (0, v7)] [] μ
noncomputable def f_M_laysShortest_115 (z : zZ) (d : Nat) (v1 : Int) (v2 : Int) (v3 : Int) (v4 : Int) (v5 : Int) (v6 : Int) (v7 : Int) (μ : Mu) : mR := g_M_laysShortest_115 (fun pc ls st μ => mE z d q_M_laysShortest pc ls st μ) v1 v2 v3 v4 v5 v6 v7 μ
def g_M_laysShortest_183 (E : Nat → List zv → List zv → Mu → mR) (v1 : Int) (v2 : Int) (v3 : Int) (v4 : Int) (v5 : Int) (v6 : Int) (v7 : Int) (μ : Mu) : mR := E 183 [(2, 86), (0, v1), (0, v2), (0, v3), (0, v4), (0, v5), (0, v6), (0, v7)] [] μ
noncomputable def f_M_laysShortest_183 (z : zZ) (d : Nat) (v1 : Int) (v2 : Int) (v3 : Int) (v4 : Int) (v5 : Int) (v6 : Int) (v7 : Int) (μ : Mu) : mR := g_M_laysShortest_183 (fun pc ls st μ => mE z d q_M_laysShortest pc ls st μ) v1 v2 v3 v4 v5 v6 v7 μ
theorem k_M_laysShortest : zprK q_M_laysShortest.2.2.2 = true ∧ zinc q_M_laysShortest.2.2.2 = true := by decide +kernel
set_option maxRecDepth 100000 in
theorem c_M_laysShortest (z : zZ) (d : Nat) (v1 : Int) (v2 : Int) (μ : Mu) : mC z (d + 1) 277 [(2, 86), (0, v1), (0, v2)] μ = (mC z d 202 [(2, 86), (0, 0), (0, v1)] μ).bind fun q1 => ((mC z d 202 [(2, 86), (0, 1), (0, v2)] q1.2).bind fun q2 => (f_M_laysShortest_18 z d v1 v2 q1.1 q2.1 q1.1 q2.2)) := by
  rw [mC_succ q_M_laysShortest rfl rfl rfl]
  rw [mE_bk (M := q_M_laysShortest) k_M_laysShortest.1 k_M_laysShortest.2 [18, 27, 49, 52, 84, 115, 183] 400]
  have key : ∀ (C : Nat → List zv → Mu → mR) (E : Nat → List zv → List zv → Mu → mR), mbk C E q_M_laysShortest.1 q_M_laysShortest.2.1 z q_M_laysShortest.2.2.2 [18, 27, 49, 52, 84, 115, 183] 400 (zfind q_M_laysShortest.2.2.2 0) (zentry q_M_laysShortest.2.2.1 [(2, 86), (0, v1), (0, v2)]) [] μ = (C 202 [(2, 86), (0, 0), (0, v1)] μ).bind fun q1 => ((C 202 [(2, 86), (0, 1), (0, v2)] q1.2).bind fun q2 => (g_M_laysShortest_18 E v1 v2 q1.1 q2.1 q1.1 q2.2)) := by
    intro C E
    rfl
  exact key _ _
set_option maxRecDepth 100000 in
theorem e_M_laysShortest_18 (z : zZ) (d : Nat) (v1 : Int) (v2 : Int) (v3 : Int) (v4 : Int) (v5 : Int) (μ : Mu) : f_M_laysShortest_18 z d v1 v2 v3 v4 v5 μ = bif decide (v5 < 0) then (some (0, μ)) else (f_M_laysShortest_27 z d v1 v2 v3 v4 v5 v4 μ) := by
  show mE z d q_M_laysShortest 18 [(2, 86), (0, v1), (0, v2), (0, v3), (0, v4), (0, v5), (9, 0), (9, 0)] [] μ = _
  rw [mE_bk (M := q_M_laysShortest) k_M_laysShortest.1 k_M_laysShortest.2 [18, 27, 49, 52, 84, 115, 183] 400]
  have key : ∀ (C : Nat → List zv → Mu → mR) (E : Nat → List zv → List zv → Mu → mR), mbk C E q_M_laysShortest.1 q_M_laysShortest.2.1 z q_M_laysShortest.2.2.2 [18, 27, 49, 52, 84, 115, 183] 400 (zfind q_M_laysShortest.2.2.2 18) [(2, 86), (0, v1), (0, v2), (0, v3), (0, v4), (0, v5), (9, 0), (9, 0)] [] μ = bif decide (v5 < 0) then (some (0, μ)) else (g_M_laysShortest_27 E v1 v2 v3 v4 v5 v4 μ) := by
    intro C E
    rfl
  exact key _ _
set_option maxRecDepth 100000 in
theorem e_M_laysShortest_27 (z : zZ) (d : Nat) (v1 : Int) (v2 : Int) (v3 : Int) (v4 : Int) (v5 : Int) (v6 : Int) (μ : Mu) : f_M_laysShortest_27 z d v1 v2 v3 v4 v5 v6 μ = bif decide (v6 < 0) then (f_M_laysShortest_18 z d v1 v2 v3 v4 (zw (v5 + (-1))) μ) else (bif !decide (v5 = v3) then (f_M_laysShortest_49 z d v1 v2 v3 v4 v5 v6 μ) else (bif !decide (v6 = v4) then (f_M_laysShortest_49 z d v1 v2 v3 v4 v5 v6 μ) else (f_M_laysShortest_52 z d v1 v2 v3 v4 v5 v6 0 μ))) := by
  show mE z d q_M_laysShortest 27 [(2, 86), (0, v1), (0, v2), (0, v3), (0, v4), (0, v5), (0, v6), (9, 0)] [] μ = _
  rw [mE_bk (M := q_M_laysShortest) k_M_laysShortest.1 k_M_laysShortest.2 [18, 27, 49, 52, 84, 115, 183] 400]
  have key : ∀ (C : Nat → List zv → Mu → mR) (E : Nat → List zv → List zv → Mu → mR), mbk C E q_M_laysShortest.1 q_M_laysShortest.2.1 z q_M_laysShortest.2.2.2 [18, 27, 49, 52, 84, 115, 183] 400 (zfind q_M_laysShortest.2.2.2 27) [(2, 86), (0, v1), (0, v2), (0, v3), (0, v4), (0, v5), (0, v6), (9, 0)] [] μ = bif decide (v6 < 0) then (g_M_laysShortest_18 E v1 v2 v3 v4 (zw (v5 + (-1))) μ) else (bif !decide (v5 = v3) then (g_M_laysShortest_49 E v1 v2 v3 v4 v5 v6 μ) else (bif !decide (v6 = v4) then (g_M_laysShortest_49 E v1 v2 v3 v4 v5 v6 μ) else (g_M_laysShortest_52 E v1 v2 v3 v4 v5 v6 0 μ))) := by
    intro C E
    rfl
  exact key _ _
set_option maxRecDepth 100000 in
theorem e_M_laysShortest_49 (z : zZ) (d : Nat) (v1 : Int) (v2 : Int) (v3 : Int) (v4 : Int) (v5 : Int) (v6 : Int) (μ : Mu) : f_M_laysShortest_49 z d v1 v2 v3 v4 v5 v6 μ = f_M_laysShortest_52 z d v1 v2 v3 v4 v5 v6 1000000000 μ := by
  show mE z d q_M_laysShortest 49 [(2, 86), (0, v1), (0, v2), (0, v3), (0, v4), (0, v5), (0, v6), (9, 0)] [] μ = _
  rw [mE_bk (M := q_M_laysShortest) k_M_laysShortest.1 k_M_laysShortest.2 [18, 27, 49, 52, 84, 115, 183] 400]
  have key : ∀ (C : Nat → List zv → Mu → mR) (E : Nat → List zv → List zv → Mu → mR), mbk C E q_M_laysShortest.1 q_M_laysShortest.2.1 z q_M_laysShortest.2.2.2 [18, 27, 49, 52, 84, 115, 183] 400 (zfind q_M_laysShortest.2.2.2 49) [(2, 86), (0, v1), (0, v2), (0, v3), (0, v4), (0, v5), (0, v6), (9, 0)] [] μ = g_M_laysShortest_52 E v1 v2 v3 v4 v5 v6 1000000000 μ := by
    intro C E
    rfl
  exact key _ _
set_option maxRecDepth 100000 in
theorem e_M_laysShortest_52 (z : zZ) (d : Nat) (v1 : Int) (v2 : Int) (v3 : Int) (v4 : Int) (v5 : Int) (v6 : Int) (v100 : Int) (μ : Mu) : f_M_laysShortest_52 z d v1 v2 v3 v4 v5 v6 v100 μ = bif decide (v3 ≤ v5) then (f_M_laysShortest_84 z d v1 v2 v3 v4 v5 v6 v100 μ) else (gI (zw ((zw (9 * (zw (v5 + 1)))) + v6)) 81 ((mC z d 205 [(0, v100), (0, zw (1 + (μ 126 ((zw ((zw (9 * (zw (v5 + 1)))) + v6)).toNat))))] μ).bind fun q1 => (f_M_laysShortest_84 z d v1 v2 v3 v4 v5 v6 q1.1 q1.2))) := by
  show mE z d q_M_laysShortest 52 [(2, 86), (0, v1), (0, v2), (0, v3), (0, v4), (0, v5), (0, v6), (9, 0)] [(0, v100)] μ = _
  rw [mE_bk (M := q_M_laysShortest) k_M_laysShortest.1 k_M_laysShortest.2 [18, 27, 49, 52, 84, 115, 183] 400]
  have key : ∀ (C : Nat → List zv → Mu → mR) (E : Nat → List zv → List zv → Mu → mR), mbk C E q_M_laysShortest.1 q_M_laysShortest.2.1 z q_M_laysShortest.2.2.2 [18, 27, 49, 52, 84, 115, 183] 400 (zfind q_M_laysShortest.2.2.2 52) [(2, 86), (0, v1), (0, v2), (0, v3), (0, v4), (0, v5), (0, v6), (9, 0)] [(0, v100)] μ = bif decide (v3 ≤ v5) then (g_M_laysShortest_84 E v1 v2 v3 v4 v5 v6 v100 μ) else (gI (zw ((zw (9 * (zw (v5 + 1)))) + v6)) 81 ((C 205 [(0, v100), (0, zw (1 + (μ 126 ((zw ((zw (9 * (zw (v5 + 1)))) + v6)).toNat))))] μ).bind fun q1 => (g_M_laysShortest_84 E v1 v2 v3 v4 v5 v6 q1.1 q1.2))) := by
    intro C E
    rfl
  exact key _ _
set_option maxRecDepth 100000 in
theorem e_M_laysShortest_84 (z : zZ) (d : Nat) (v1 : Int) (v2 : Int) (v3 : Int) (v4 : Int) (v5 : Int) (v6 : Int) (v7 : Int) (μ : Mu) : f_M_laysShortest_84 z d v1 v2 v3 v4 v5 v6 v7 μ = bif decide (v4 ≤ v6) then (f_M_laysShortest_115 z d v1 v2 v3 v4 v5 v6 v7 μ) else (gI (zw ((zw ((zw (9 * v5)) + v6)) + 1)) 81 ((mC z d 205 [(0, v7), (0, zw (1 + (μ 126 ((zw ((zw ((zw (9 * v5)) + v6)) + 1)).toNat))))] μ).bind fun q1 => (f_M_laysShortest_115 z d v1 v2 v3 v4 v5 v6 q1.1 q1.2))) := by
  show mE z d q_M_laysShortest 84 [(2, 86), (0, v1), (0, v2), (0, v3), (0, v4), (0, v5), (0, v6), (0, v7)] [] μ = _
  rw [mE_bk (M := q_M_laysShortest) k_M_laysShortest.1 k_M_laysShortest.2 [18, 27, 49, 52, 84, 115, 183] 400]
  have key : ∀ (C : Nat → List zv → Mu → mR) (E : Nat → List zv → List zv → Mu → mR), mbk C E q_M_laysShortest.1 q_M_laysShortest.2.1 z q_M_laysShortest.2.2.2 [18, 27, 49, 52, 84, 115, 183] 400 (zfind q_M_laysShortest.2.2.2 84) [(2, 86), (0, v1), (0, v2), (0, v3), (0, v4), (0, v5), (0, v6), (0, v7)] [] μ = bif decide (v4 ≤ v6) then (g_M_laysShortest_115 E v1 v2 v3 v4 v5 v6 v7 μ) else (gI (zw ((zw ((zw (9 * v5)) + v6)) + 1)) 81 ((C 205 [(0, v7), (0, zw (1 + (μ 126 ((zw ((zw ((zw (9 * v5)) + v6)) + 1)).toNat))))] μ).bind fun q1 => (g_M_laysShortest_115 E v1 v2 v3 v4 v5 v6 q1.1 q1.2))) := by
    intro C E
    rfl
  exact key _ _
set_option maxRecDepth 100000 in
theorem e_M_laysShortest_115 (z : zZ) (d : Nat) (v1 : Int) (v2 : Int) (v3 : Int) (v4 : Int) (v5 : Int) (v6 : Int) (v7 : Int) (μ : Mu) : f_M_laysShortest_115 z d v1 v2 v3 v4 v5 v6 v7 μ = bif decide (v3 ≤ v5) then (f_M_laysShortest_183 z d v1 v2 v3 v4 v5 v6 v7 μ) else (bif decide (v4 ≤ v6) then (f_M_laysShortest_183 z d v1 v2 v3 v4 v5 v6 v7 μ) else ((mC z d 201 [(0, 0), (0, v1)] μ).bind fun q1 => (gI (zw (q1.1 + v5)) 192 ((mC z d 201 [(0, 1), (0, v2)] q1.2).bind fun q2 => (gI (zw (q2.1 + v6)) 192 (bif !decide (q1.2 94 ((zw (q1.1 + v5)).toNat) = q2.2 94 ((zw (q2.1 + v6)).toNat)) then (f_M_laysShortest_183 z d v1 v2 v3 v4 v5 v6 v7 q2.2) else (gI (zw ((zw ((zw (9 * (zw (v5 + 1)))) + v6)) + 1)) 81 ((mC z d 205 [(0, v7), (0, zw (1 + (q2.2 126 ((zw ((zw ((zw (9 * (zw (v5 + 1)))) + v6)) + 1)).toNat))))] q2.2).bind fun q3 => (f_M_laysShortest_183 z d v1 v2 v3 v4 v5 v6 q3.1 q3.2))))))))) := by
  show mE z d q_M_laysShortest 115 [(2, 86), (0, v1), (0, v2), (0, v3), (0, v4), (0, v5), (0, v6), (0, v7)] [] μ = _
  rw [mE_bk (M := q_M_laysShortest) k_M_laysShortest.1 k_M_laysShortest.2 [18, 27, 49, 52, 84, 115, 183] 400]
  have key : ∀ (C : Nat → List zv → Mu → mR) (E : Nat → List zv → List zv → Mu → mR), mbk C E q_M_laysShortest.1 q_M_laysShortest.2.1 z q_M_laysShortest.2.2.2 [18, 27, 49, 52, 84, 115, 183] 400 (zfind q_M_laysShortest.2.2.2 115) [(2, 86), (0, v1), (0, v2), (0, v3), (0, v4), (0, v5), (0, v6), (0, v7)] [] μ = bif decide (v3 ≤ v5) then (g_M_laysShortest_183 E v1 v2 v3 v4 v5 v6 v7 μ) else (bif decide (v4 ≤ v6) then (g_M_laysShortest_183 E v1 v2 v3 v4 v5 v6 v7 μ) else ((C 201 [(0, 0), (0, v1)] μ).bind fun q1 => (gI (zw (q1.1 + v5)) 192 ((C 201 [(0, 1), (0, v2)] q1.2).bind fun q2 => (gI (zw (q2.1 + v6)) 192 (bif !decide (q1.2 94 ((zw (q1.1 + v5)).toNat) = q2.2 94 ((zw (q2.1 + v6)).toNat)) then (g_M_laysShortest_183 E v1 v2 v3 v4 v5 v6 v7 q2.2) else (gI (zw ((zw ((zw (9 * (zw (v5 + 1)))) + v6)) + 1)) 81 ((C 205 [(0, v7), (0, zw (1 + (q2.2 126 ((zw ((zw ((zw (9 * (zw (v5 + 1)))) + v6)) + 1)).toNat))))] q2.2).bind fun q3 => (g_M_laysShortest_183 E v1 v2 v3 v4 v5 v6 q3.1 q3.2))))))))) := by
    intro C E
    rfl
  exact key _ _
set_option maxRecDepth 100000 in
theorem e_M_laysShortest_183 (z : zZ) (d : Nat) (v1 : Int) (v2 : Int) (v3 : Int) (v4 : Int) (v5 : Int) (v6 : Int) (v7 : Int) (μ : Mu) : f_M_laysShortest_183 z d v1 v2 v3 v4 v5 v6 v7 μ = gI (zw ((zw (9 * v5)) + v6)) 81 (f_M_laysShortest_27 z d v1 v2 v3 v4 v5 (zw (v6 + (-1))) (zup μ 126 ((zw ((zw (9 * v5)) + v6)).toNat) v7)) := by
  show mE z d q_M_laysShortest 183 [(2, 86), (0, v1), (0, v2), (0, v3), (0, v4), (0, v5), (0, v6), (0, v7)] [] μ = _
  rw [mE_bk (M := q_M_laysShortest) k_M_laysShortest.1 k_M_laysShortest.2 [18, 27, 49, 52, 84, 115, 183] 400]
  have key : ∀ (C : Nat → List zv → Mu → mR) (E : Nat → List zv → List zv → Mu → mR), mbk C E q_M_laysShortest.1 q_M_laysShortest.2.1 z q_M_laysShortest.2.2.2 [18, 27, 49, 52, 84, 115, 183] 400 (zfind q_M_laysShortest.2.2.2 183) [(2, 86), (0, v1), (0, v2), (0, v3), (0, v4), (0, v5), (0, v6), (0, v7)] [] μ = gI (zw ((zw (9 * v5)) + v6)) 81 (g_M_laysShortest_27 E v1 v2 v3 v4 v5 (zw (v6 + (-1))) (zup μ 126 ((zw ((zw (9 * v5)) + v6)).toNat) v7)) := by
    intro C E
    rfl
  exact key _ _
def g_M_spy_29 (E : Nat → List zv → List zv → Mu → mR) (μ : Mu) : mR := E 29 [(9, 0), (9, 0), (9, 0), (9, 0), (9, 0), (9, 0)] [] μ
noncomputable def f_M_spy_29 (z : zZ) (d : Nat) (μ : Mu) : mR := g_M_spy_29 (fun pc ls st μ => mE z d q_M_spy pc ls st μ) μ
def g_M_spy_31 (E : Nat → List zv → List zv → Mu → mR) (v1 : Int) (v2 : Int) (v3 : Int) (μ : Mu) : mR := E 31 [(2, 86), (0, v1), (0, v2), (0, v3), (9, 0), (9, 0)] [] μ
noncomputable def f_M_spy_31 (z : zZ) (d : Nat) (v1 : Int) (v2 : Int) (v3 : Int) (μ : Mu) : mR := g_M_spy_31 (fun pc ls st μ => mE z d q_M_spy pc ls st μ) v1 v2 v3 μ
def g_M_spy_41 (E : Nat → List zv → List zv → Mu → mR) (v1 : Int) (v2 : Int) (v4 : Int) (v5 : Int) (μ : Mu) : mR := E 41 [(2, 86), (0, v1), (0, v2), (9, 0), (0, v4), (0, v5)] [] μ
noncomputable def f_M_spy_41 (z : zZ) (d : Nat) (v1 : Int) (v2 : Int) (v4 : Int) (v5 : Int) (μ : Mu) : mR := g_M_spy_41 (fun pc ls st μ => mE z d q_M_spy pc ls st μ) v1 v2 v4 v5 μ
def g_M_spy_72 (E : Nat → List zv → List zv → Mu → mR) (v1 : Int) (v2 : Int) (v4 : Int) (v5 : Int) (μ : Mu) : mR := E 72 [(2, 86), (0, v1), (0, v2), (9, 0), (0, v4), (0, v5)] [] μ
noncomputable def f_M_spy_72 (z : zZ) (d : Nat) (v1 : Int) (v2 : Int) (v4 : Int) (v5 : Int) (μ : Mu) : mR := g_M_spy_72 (fun pc ls st μ => mE z d q_M_spy pc ls st μ) v1 v2 v4 v5 μ
def g_M_spy_87 (E : Nat → List zv → List zv → Mu → mR) (v1 : Int) (v3 : Int) (v4 : Int) (v5 : Int) (μ : Mu) : mR := E 87 [(2, 86), (0, v1), (9, 0), (0, v3), (0, v4), (0, v5)] [] μ
noncomputable def f_M_spy_87 (z : zZ) (d : Nat) (v1 : Int) (v3 : Int) (v4 : Int) (v5 : Int) (μ : Mu) : mR := g_M_spy_87 (fun pc ls st μ => mE z d q_M_spy pc ls st μ) v1 v3 v4 v5 μ
def g_M_spy_126 (E : Nat → List zv → List zv → Mu → mR) (v1 : Int) (v3 : Int) (v4 : Int) (v5 : Int) (μ : Mu) : mR := E 126 [(2, 86), (0, v1), (9, 0), (0, v3), (0, v4), (0, v5)] [] μ
noncomputable def f_M_spy_126 (z : zZ) (d : Nat) (v1 : Int) (v3 : Int) (v4 : Int) (v5 : Int) (μ : Mu) : mR := g_M_spy_126 (fun pc ls st μ => mE z d q_M_spy pc ls st μ) v1 v3 v4 v5 μ
def g_M_spy_147 (E : Nat → List zv → List zv → Mu → mR) (v100 : Int) (μ : Mu) : mR := E 147 [(9, 0), (9, 0), (9, 0), (9, 0), (9, 0), (9, 0)] [(0, v100)] μ
noncomputable def f_M_spy_147 (z : zZ) (d : Nat) (v100 : Int) (μ : Mu) : mR := g_M_spy_147 (fun pc ls st μ => mE z d q_M_spy pc ls st μ) v100 μ
theorem k_M_spy : zprK q_M_spy.2.2.2 = true ∧ zinc q_M_spy.2.2.2 = true := by decide +kernel
set_option maxRecDepth 100000 in
theorem c_M_spy (z : zZ) (d : Nat) (v1 : Int) (v2 : Int) (v3 : Int) (μ : Mu) : mC z (d + 1) 278 [(2, 86), (0, v1), (0, v2), (0, v3)] μ = (mC z d 185 [(0, v1)] μ).bind fun q1 => (bif decide (q1.1 = 0) then (f_M_spy_29 z d q1.2) else ((mC z d 183 [(0, v3), (0, 0), (0, 2)] q1.2).bind fun q2 => (bif decide (q2.1 = 0) then (f_M_spy_29 z d q2.2) else (bif !decide (v3 = 0) then (f_M_spy_31 z d v1 v2 v3 q2.2) else ((mC z d 257 [(2, 86), (0, v1), (0, v2)] q2.2).bind fun q3 => (bif !decide (q3.1 = 0) then (f_M_spy_31 z d v1 v2 v3 q3.2) else (f_M_spy_29 z d q3.2))))))) := by
  rw [mC_succ q_M_spy rfl rfl rfl]
  rw [mE_bk (M := q_M_spy) k_M_spy.1 k_M_spy.2 [29, 31, 41, 72, 87, 126, 147] 400]
  have key : ∀ (C : Nat → List zv → Mu → mR) (E : Nat → List zv → List zv → Mu → mR), mbk C E q_M_spy.1 q_M_spy.2.1 z q_M_spy.2.2.2 [29, 31, 41, 72, 87, 126, 147] 400 (zfind q_M_spy.2.2.2 0) (zentry q_M_spy.2.2.1 [(2, 86), (0, v1), (0, v2), (0, v3)]) [] μ = (C 185 [(0, v1)] μ).bind fun q1 => (bif decide (q1.1 = 0) then (g_M_spy_29 E q1.2) else ((C 183 [(0, v3), (0, 0), (0, 2)] q1.2).bind fun q2 => (bif decide (q2.1 = 0) then (g_M_spy_29 E q2.2) else (bif !decide (v3 = 0) then (g_M_spy_31 E v1 v2 v3 q2.2) else ((C 257 [(2, 86), (0, v1), (0, v2)] q2.2).bind fun q3 => (bif !decide (q3.1 = 0) then (g_M_spy_31 E v1 v2 v3 q3.2) else (g_M_spy_29 E q3.2))))))) := by
    intro C E
    rfl
  exact key _ _
set_option maxRecDepth 100000 in
theorem e_M_spy_29 (z : zZ) (d : Nat) (μ : Mu) : f_M_spy_29 z d μ = some ((-1), μ) := by
  show mE z d q_M_spy 29 [(9, 0), (9, 0), (9, 0), (9, 0), (9, 0), (9, 0)] [] μ = _
  rw [mE_bk (M := q_M_spy) k_M_spy.1 k_M_spy.2 [29, 31, 41, 72, 87, 126, 147] 400]
  have key : ∀ (C : Nat → List zv → Mu → mR) (E : Nat → List zv → List zv → Mu → mR), mbk C E q_M_spy.1 q_M_spy.2.1 z q_M_spy.2.2.2 [29, 31, 41, 72, 87, 126, 147] 400 (zfind q_M_spy.2.2.2 29) [(9, 0), (9, 0), (9, 0), (9, 0), (9, 0), (9, 0)] [] μ = some ((-1), μ) := by
    intro C E
    rfl
  exact key _ _
set_option maxRecDepth 100000 in
theorem e_M_spy_31 (z : zZ) (d : Nat) (v1 : Int) (v2 : Int) (v3 : Int) (μ : Mu) : f_M_spy_31 z d v1 v2 v3 μ = bif !decide (v3 = 0) then (f_M_spy_87 z d v1 v3 1 0 μ) else (f_M_spy_41 z d v1 v2 0 0 μ) := by
  show mE z d q_M_spy 31 [(2, 86), (0, v1), (0, v2), (0, v3), (9, 0), (9, 0)] [] μ = _
  rw [mE_bk (M := q_M_spy) k_M_spy.1 k_M_spy.2 [29, 31, 41, 72, 87, 126, 147] 400]
  have key : ∀ (C : Nat → List zv → Mu → mR) (E : Nat → List zv → List zv → Mu → mR), mbk C E q_M_spy.1 q_M_spy.2.1 z q_M_spy.2.2.2 [29, 31, 41, 72, 87, 126, 147] 400 (zfind q_M_spy.2.2.2 31) [(2, 86), (0, v1), (0, v2), (0, v3), (9, 0), (9, 0)] [] μ = bif !decide (v3 = 0) then (g_M_spy_87 E v1 v3 1 0 μ) else (g_M_spy_41 E v1 v2 0 0 μ) := by
    intro C E
    rfl
  exact key _ _
set_option maxRecDepth 100000 in
theorem e_M_spy_87 (z : zZ) (d : Nat) (v1 : Int) (v3 : Int) (v4 : Int) (v5 : Int) (μ : Mu) : f_M_spy_87 z d v1 v3 v4 v5 μ = (mC z d 198 [(2, 86), (0, v1)] μ).bind fun q1 => (bif decide (z_shl 1 q1.1 ≤ v4) then (bif !decide (v3 = 1) then (f_M_spy_147 z d v5 q1.2) else ((mC z d 236 [(0, v5)] q1.2).bind fun q2 => (f_M_spy_147 z d q2.1 q2.2))) else ((mC z d 236 [(0, v4)] q1.2).bind fun q3 => ((mC z d 236 [(0, v5)] q3.2).bind fun q4 => (bif decide (q3.1 ≤ q4.1) then (f_M_spy_126 z d v1 v3 v4 v5 q4.2) else ((mC z d 280 [(2, 86), (0, v1), (0, v4)] q4.2).bind fun q5 => (bif decide (q5.1 = 0) then (f_M_spy_126 z d v1 v3 v4 v5 q5.2) else (f_M_spy_126 z d v1 v3 v4 v4 q5.2))))))) := by
  show mE z d q_M_spy 87 [(2, 86), (0, v1), (9, 0), (0, v3), (0, v4), (0, v5)] [] μ = _
  rw [mE_bk (M := q_M_spy) k_M_spy.1 k_M_spy.2 [29, 31, 41, 72, 87, 126, 147] 400]
  have key : ∀ (C : Nat → List zv → Mu → mR) (E : Nat → List zv → List zv → Mu → mR), mbk C E q_M_spy.1 q_M_spy.2.1 z q_M_spy.2.2.2 [29, 31, 41, 72, 87, 126, 147] 400 (zfind q_M_spy.2.2.2 87) [(2, 86), (0, v1), (9, 0), (0, v3), (0, v4), (0, v5)] [] μ = (C 198 [(2, 86), (0, v1)] μ).bind fun q1 => (bif decide (z_shl 1 q1.1 ≤ v4) then (bif !decide (v3 = 1) then (g_M_spy_147 E v5 q1.2) else ((C 236 [(0, v5)] q1.2).bind fun q2 => (g_M_spy_147 E q2.1 q2.2))) else ((C 236 [(0, v4)] q1.2).bind fun q3 => ((C 236 [(0, v5)] q3.2).bind fun q4 => (bif decide (q3.1 ≤ q4.1) then (g_M_spy_126 E v1 v3 v4 v5 q4.2) else ((C 280 [(2, 86), (0, v1), (0, v4)] q4.2).bind fun q5 => (bif decide (q5.1 = 0) then (g_M_spy_126 E v1 v3 v4 v5 q5.2) else (g_M_spy_126 E v1 v3 v4 v4 q5.2))))))) := by
    intro C E
    rfl
  exact key _ _
set_option maxRecDepth 100000 in
theorem e_M_spy_41 (z : zZ) (d : Nat) (v1 : Int) (v2 : Int) (v4 : Int) (v5 : Int) (μ : Mu) : f_M_spy_41 z d v1 v2 v4 v5 μ = (mC z d 198 [(2, 86), (0, v1)] μ).bind fun q1 => (bif decide (q1.1 ≤ v5) then (some (v4, q1.2)) else ((mC z d 279 [(2, 86), (0, v1), (0, v2), (0, v5)] q1.2).bind fun q2 => (bif !decide (q2.1 = 1) then (f_M_spy_72 z d v1 v2 v4 v5 q2.2) else (f_M_spy_72 z d v1 v2 (z_or v4 (z_shl 1 v5)) v5 q2.2)))) := by
  show mE z d q_M_spy 41 [(2, 86), (0, v1), (0, v2), (9, 0), (0, v4), (0, v5)] [] μ = _
  rw [mE_bk (M := q_M_spy) k_M_spy.1 k_M_spy.2 [29, 31, 41, 72, 87, 126, 147] 400]
  have key : ∀ (C : Nat → List zv → Mu → mR) (E : Nat → List zv → List zv → Mu → mR), mbk C E q_M_spy.1 q_M_spy.2.1 z q_M_spy.2.2.2 [29, 31, 41, 72, 87, 126, 147] 400 (zfind q_M_spy.2.2.2 41) [(2, 86), (0, v1), (0, v2), (9, 0), (0, v4), (0, v5)] [] μ = (C 198 [(2, 86), (0, v1)] μ).bind fun q1 => (bif decide (q1.1 ≤ v5) then (some (v4, q1.2)) else ((C 279 [(2, 86), (0, v1), (0, v2), (0, v5)] q1.2).bind fun q2 => (bif !decide (q2.1 = 1) then (g_M_spy_72 E v1 v2 v4 v5 q2.2) else (g_M_spy_72 E v1 v2 (z_or v4 (z_shl 1 v5)) v5 q2.2)))) := by
    intro C E
    rfl
  exact key _ _
set_option maxRecDepth 100000 in
theorem e_M_spy_147 (z : zZ) (d : Nat) (v100 : Int) (μ : Mu) : f_M_spy_147 z d v100 μ = some (v100, μ) := by
  show mE z d q_M_spy 147 [(9, 0), (9, 0), (9, 0), (9, 0), (9, 0), (9, 0)] [(0, v100)] μ = _
  rw [mE_bk (M := q_M_spy) k_M_spy.1 k_M_spy.2 [29, 31, 41, 72, 87, 126, 147] 400]
  have key : ∀ (C : Nat → List zv → Mu → mR) (E : Nat → List zv → List zv → Mu → mR), mbk C E q_M_spy.1 q_M_spy.2.1 z q_M_spy.2.2.2 [29, 31, 41, 72, 87, 126, 147] 400 (zfind q_M_spy.2.2.2 147) [(9, 0), (9, 0), (9, 0), (9, 0), (9, 0), (9, 0)] [(0, v100)] μ = some (v100, μ) := by
    intro C E
    rfl
  exact key _ _
set_option maxRecDepth 100000 in
theorem e_M_spy_126 (z : zZ) (d : Nat) (v1 : Int) (v3 : Int) (v4 : Int) (v5 : Int) (μ : Mu) : f_M_spy_126 z d v1 v3 v4 v5 μ = f_M_spy_87 z d v1 v3 (zw (v4 + 1)) v5 μ := by
  show mE z d q_M_spy 126 [(2, 86), (0, v1), (9, 0), (0, v3), (0, v4), (0, v5)] [] μ = _
  rw [mE_bk (M := q_M_spy) k_M_spy.1 k_M_spy.2 [29, 31, 41, 72, 87, 126, 147] 400]
  have key : ∀ (C : Nat → List zv → Mu → mR) (E : Nat → List zv → List zv → Mu → mR), mbk C E q_M_spy.1 q_M_spy.2.1 z q_M_spy.2.2.2 [29, 31, 41, 72, 87, 126, 147] 400 (zfind q_M_spy.2.2.2 126) [(2, 86), (0, v1), (9, 0), (0, v3), (0, v4), (0, v5)] [] μ = g_M_spy_87 E v1 v3 (zw (v4 + 1)) v5 μ := by
    intro C E
    rfl
  exact key _ _
set_option maxRecDepth 100000 in
theorem e_M_spy_72 (z : zZ) (d : Nat) (v1 : Int) (v2 : Int) (v4 : Int) (v5 : Int) (μ : Mu) : f_M_spy_72 z d v1 v2 v4 v5 μ = f_M_spy_41 z d v1 v2 v4 (zw (v5 + 1)) μ := by
  show mE z d q_M_spy 72 [(2, 86), (0, v1), (0, v2), (9, 0), (0, v4), (0, v5)] [] μ = _
  rw [mE_bk (M := q_M_spy) k_M_spy.1 k_M_spy.2 [29, 31, 41, 72, 87, 126, 147] 400]
  have key : ∀ (C : Nat → List zv → Mu → mR) (E : Nat → List zv → List zv → Mu → mR), mbk C E q_M_spy.1 q_M_spy.2.1 z q_M_spy.2.2.2 [29, 31, 41, 72, 87, 126, 147] 400 (zfind q_M_spy.2.2.2 72) [(2, 86), (0, v1), (0, v2), (9, 0), (0, v4), (0, v5)] [] μ = g_M_spy_41 E v1 v2 v4 (zw (v5 + 1)) μ := by
    intro C E
    rfl
  exact key _ _
def g_M_unlike_25 (E : Nat → List zv → List zv → Mu → mR) (v1 : Int) (v2 : Int) (v3 : Int) (v4 : Int) (v5 : Int) (μ : Mu) : mR := E 25 [(2, 86), (0, v1), (0, v2), (0, v3), (0, v4), (0, v5)] [] μ
noncomputable def f_M_unlike_25 (z : zZ) (d : Nat) (v1 : Int) (v2 : Int) (v3 : Int) (v4 : Int) (v5 : Int) (μ : Mu) : mR := g_M_unlike_25 (fun pc ls st μ => mE z d q_M_unlike pc ls st μ) v1 v2 v3 v4 v5 μ
def g_M_unlike_71 (E : Nat → List zv → List zv → Mu → mR) (v1 : Int) (v2 : Int) (v3 : Int) (v5 : Int) (v100 : Int) (μ : Mu) : mR := E 71 [(2, 86), (0, v1), (0, v2), (0, v3), (9, 0), (0, v5)] [(0, v100)] μ
noncomputable def f_M_unlike_71 (z : zZ) (d : Nat) (v1 : Int) (v2 : Int) (v3 : Int) (v5 : Int) (v100 : Int) (μ : Mu) : mR := g_M_unlike_71 (fun pc ls st μ => mE z d q_M_unlike pc ls st μ) v1 v2 v3 v5 v100 μ
def g_M_unlike_72 (E : Nat → List zv → List zv → Mu → mR) (v1 : Int) (v2 : Int) (v3 : Int) (v5 : Int) (v100 : Int) (v101 : Int) (μ : Mu) : mR := E 72 [(2, 86), (0, v1), (0, v2), (0, v3), (9, 0), (0, v5)] [(0, v101), (0, v100)] μ
noncomputable def f_M_unlike_72 (z : zZ) (d : Nat) (v1 : Int) (v2 : Int) (v3 : Int) (v5 : Int) (v100 : Int) (v101 : Int) (μ : Mu) : mR := g_M_unlike_72 (fun pc ls st μ => mE z d q_M_unlike pc ls st μ) v1 v2 v3 v5 v100 v101 μ
theorem k_M_unlike : zprK q_M_unlike.2.2.2 = true ∧ zinc q_M_unlike.2.2.2 = true := by decide +kernel
set_option maxRecDepth 100000 in
theorem c_M_unlike (z : zZ) (d : Nat) (v1 : Int) (v2 : Int) (v3 : Int) (μ : Mu) : mC z (d + 1) 279 [(2, 86), (0, v1), (0, v2), (0, v3)] μ = (mC z d 202 [(2, 86), (0, v1), (0, v2)] μ).bind fun q1 => ((mC z d 202 [(2, 86), (0, v1), (0, v3)] q1.2).bind fun q2 => (bif decide (q1.1 = q2.1) then (f_M_unlike_25 z d v1 v2 v3 0 0 q2.2) else (some (1000000000, q2.2)))) := by
  rw [mC_succ q_M_unlike rfl rfl rfl]
  rw [mE_bk (M := q_M_unlike) k_M_unlike.1 k_M_unlike.2 [25, 71, 72] 400]
  have key : ∀ (C : Nat → List zv → Mu → mR) (E : Nat → List zv → List zv → Mu → mR), mbk C E q_M_unlike.1 q_M_unlike.2.1 z q_M_unlike.2.2.2 [25, 71, 72] 400 (zfind q_M_unlike.2.2.2 0) (zentry q_M_unlike.2.2.1 [(2, 86), (0, v1), (0, v2), (0, v3)]) [] μ = (C 202 [(2, 86), (0, v1), (0, v2)] μ).bind fun q1 => ((C 202 [(2, 86), (0, v1), (0, v3)] q1.2).bind fun q2 => (bif decide (q1.1 = q2.1) then (g_M_unlike_25 E v1 v2 v3 0 0 q2.2) else (some (1000000000, q2.2)))) := by
    intro C E
    rfl
  exact key _ _
set_option maxRecDepth 100000 in
theorem e_M_unlike_25 (z : zZ) (d : Nat) (v1 : Int) (v2 : Int) (v3 : Int) (v4 : Int) (v5 : Int) (μ : Mu) : f_M_unlike_25 z d v1 v2 v3 v4 v5 μ = (mC z d 202 [(2, 86), (0, v1), (0, v2)] μ).bind fun q1 => (bif decide (q1.1 ≤ v5) then (some (v4, q1.2)) else ((mC z d 201 [(0, v1), (0, v2)] q1.2).bind fun q2 => (gI (zw (q2.1 + v5)) 192 ((mC z d 201 [(0, v1), (0, v3)] q2.2).bind fun q3 => (gI (zw (q3.1 + v5)) 192 (bif !decide (q2.2 94 ((zw (q2.1 + v5)).toNat) = q3.2 94 ((zw (q3.1 + v5)).toNat)) then (f_M_unlike_71 z d v1 v2 v3 v5 v4 q3.2) else (f_M_unlike_72 z d v1 v2 v3 v5 v4 0 q3.2))))))) := by
  show mE z d q_M_unlike 25 [(2, 86), (0, v1), (0, v2), (0, v3), (0, v4), (0, v5)] [] μ = _
  rw [mE_bk (M := q_M_unlike) k_M_unlike.1 k_M_unlike.2 [25, 71, 72] 400]
  have key : ∀ (C : Nat → List zv → Mu → mR) (E : Nat → List zv → List zv → Mu → mR), mbk C E q_M_unlike.1 q_M_unlike.2.1 z q_M_unlike.2.2.2 [25, 71, 72] 400 (zfind q_M_unlike.2.2.2 25) [(2, 86), (0, v1), (0, v2), (0, v3), (0, v4), (0, v5)] [] μ = (C 202 [(2, 86), (0, v1), (0, v2)] μ).bind fun q1 => (bif decide (q1.1 ≤ v5) then (some (v4, q1.2)) else ((C 201 [(0, v1), (0, v2)] q1.2).bind fun q2 => (gI (zw (q2.1 + v5)) 192 ((C 201 [(0, v1), (0, v3)] q2.2).bind fun q3 => (gI (zw (q3.1 + v5)) 192 (bif !decide (q2.2 94 ((zw (q2.1 + v5)).toNat) = q3.2 94 ((zw (q3.1 + v5)).toNat)) then (g_M_unlike_71 E v1 v2 v3 v5 v4 q3.2) else (g_M_unlike_72 E v1 v2 v3 v5 v4 0 q3.2))))))) := by
    intro C E
    rfl
  exact key _ _
set_option maxRecDepth 100000 in
theorem e_M_unlike_71 (z : zZ) (d : Nat) (v1 : Int) (v2 : Int) (v3 : Int) (v5 : Int) (v100 : Int) (μ : Mu) : f_M_unlike_71 z d v1 v2 v3 v5 v100 μ = f_M_unlike_72 z d v1 v2 v3 v5 v100 1 μ := by
  show mE z d q_M_unlike 71 [(2, 86), (0, v1), (0, v2), (0, v3), (9, 0), (0, v5)] [(0, v100)] μ = _
  rw [mE_bk (M := q_M_unlike) k_M_unlike.1 k_M_unlike.2 [25, 71, 72] 400]
  have key : ∀ (C : Nat → List zv → Mu → mR) (E : Nat → List zv → List zv → Mu → mR), mbk C E q_M_unlike.1 q_M_unlike.2.1 z q_M_unlike.2.2.2 [25, 71, 72] 400 (zfind q_M_unlike.2.2.2 71) [(2, 86), (0, v1), (0, v2), (0, v3), (9, 0), (0, v5)] [(0, v100)] μ = g_M_unlike_72 E v1 v2 v3 v5 v100 1 μ := by
    intro C E
    rfl
  exact key _ _
set_option maxRecDepth 100000 in
theorem e_M_unlike_72 (z : zZ) (d : Nat) (v1 : Int) (v2 : Int) (v3 : Int) (v5 : Int) (v100 : Int) (v101 : Int) (μ : Mu) : f_M_unlike_72 z d v1 v2 v3 v5 v100 v101 μ = f_M_unlike_25 z d v1 v2 v3 (zw (v100 + v101)) (zw (v5 + 1)) μ := by
  show mE z d q_M_unlike 72 [(2, 86), (0, v1), (0, v2), (0, v3), (9, 0), (0, v5)] [(0, v101), (0, v100)] μ = _
  rw [mE_bk (M := q_M_unlike) k_M_unlike.1 k_M_unlike.2 [25, 71, 72] 400]
  have key : ∀ (C : Nat → List zv → Mu → mR) (E : Nat → List zv → List zv → Mu → mR), mbk C E q_M_unlike.1 q_M_unlike.2.1 z q_M_unlike.2.2.2 [25, 71, 72] 400 (zfind q_M_unlike.2.2.2 72) [(2, 86), (0, v1), (0, v2), (0, v3), (9, 0), (0, v5)] [(0, v101), (0, v100)] μ = g_M_unlike_25 E v1 v2 v3 (zw (v100 + v101)) (zw (v5 + 1)) μ := by
    intro C E
    rfl
  exact key _ _
def g_M_bears_2 (E : Nat → List zv → List zv → Mu → mR) (v1 : Int) (v2 : Int) (v3 : Int) (μ : Mu) : mR := E 2 [(2, 86), (0, v1), (0, v2), (0, v3), (9, 0)] [] μ
noncomputable def f_M_bears_2 (z : zZ) (d : Nat) (v1 : Int) (v2 : Int) (v3 : Int) (μ : Mu) : mR := g_M_bears_2 (fun pc ls st μ => mE z d q_M_bears pc ls st μ) v1 v2 v3 μ
def g_M_bears_14 (E : Nat → List zv → List zv → Mu → mR) (v1 : Int) (v2 : Int) (v3 : Int) (v4 : Int) (μ : Mu) : mR := E 14 [(2, 86), (0, v1), (0, v2), (0, v3), (0, v4)] [] μ
noncomputable def f_M_bears_14 (z : zZ) (d : Nat) (v1 : Int) (v2 : Int) (v3 : Int) (v4 : Int) (μ : Mu) : mR := g_M_bears_14 (fun pc ls st μ => mE z d q_M_bears pc ls st μ) v1 v2 v3 v4 μ
def g_M_bears_51 (E : Nat → List zv → List zv → Mu → mR) (v1 : Int) (v2 : Int) (v3 : Int) (v4 : Int) (μ : Mu) : mR := E 51 [(2, 86), (0, v1), (0, v2), (0, v3), (0, v4)] [] μ
noncomputable def f_M_bears_51 (z : zZ) (d : Nat) (v1 : Int) (v2 : Int) (v3 : Int) (v4 : Int) (μ : Mu) : mR := g_M_bears_51 (fun pc ls st μ => mE z d q_M_bears pc ls st μ) v1 v2 v3 v4 μ
theorem k_M_bears : zprK q_M_bears.2.2.2 = true ∧ zinc q_M_bears.2.2.2 = true := by decide +kernel
set_option maxRecDepth 100000 in
theorem c_M_bears (z : zZ) (d : Nat) (v1 : Int) (v2 : Int) (μ : Mu) : mC z (d + 1) 280 [(2, 86), (0, v1), (0, v2)] μ = f_M_bears_2 z d v1 v2 0 μ := by
  rw [mC_succ q_M_bears rfl rfl rfl]
  rw [mE_bk (M := q_M_bears) k_M_bears.1 k_M_bears.2 [2, 14, 51] 400]
  have key : ∀ (C : Nat → List zv → Mu → mR) (E : Nat → List zv → List zv → Mu → mR), mbk C E q_M_bears.1 q_M_bears.2.1 z q_M_bears.2.2.2 [2, 14, 51] 400 (zfind q_M_bears.2.2.2 0) (zentry q_M_bears.2.2.1 [(2, 86), (0, v1), (0, v2)]) [] μ = g_M_bears_2 E v1 v2 0 μ := by
    intro C E
    rfl
  exact key _ _
set_option maxRecDepth 100000 in
theorem e_M_bears_2 (z : zZ) (d : Nat) (v1 : Int) (v2 : Int) (v3 : Int) (μ : Mu) : f_M_bears_2 z d v1 v2 v3 μ = (mC z d 198 [(2, 86), (0, v1)] μ).bind fun q1 => (bif decide (q1.1 ≤ v3) then (some (1, q1.2)) else (f_M_bears_14 z d v1 v2 v3 0 q1.2)) := by
  show mE z d q_M_bears 2 [(2, 86), (0, v1), (0, v2), (0, v3), (9, 0)] [] μ = _
  rw [mE_bk (M := q_M_bears) k_M_bears.1 k_M_bears.2 [2, 14, 51] 400]
  have key : ∀ (C : Nat → List zv → Mu → mR) (E : Nat → List zv → List zv → Mu → mR), mbk C E q_M_bears.1 q_M_bears.2.1 z q_M_bears.2.2.2 [2, 14, 51] 400 (zfind q_M_bears.2.2.2 2) [(2, 86), (0, v1), (0, v2), (0, v3), (9, 0)] [] μ = (C 198 [(2, 86), (0, v1)] μ).bind fun q1 => (bif decide (q1.1 ≤ v3) then (some (1, q1.2)) else (g_M_bears_14 E v1 v2 v3 0 q1.2)) := by
    intro C E
    rfl
  exact key _ _
set_option maxRecDepth 100000 in
theorem e_M_bears_14 (z : zZ) (d : Nat) (v1 : Int) (v2 : Int) (v3 : Int) (v4 : Int) (μ : Mu) : f_M_bears_14 z d v1 v2 v3 v4 μ = bif decide (v3 ≤ v4) then (f_M_bears_2 z d v1 v2 (zw (v3 + 1)) μ) else ((mC z d 189 [(0, v2), (0, v3)] μ).bind fun q1 => (bif decide (q1.1 = 0) then (f_M_bears_51 z d v1 v2 v3 v4 q1.2) else ((mC z d 189 [(0, v2), (0, v4)] q1.2).bind fun q2 => (bif decide (q2.1 = 0) then (f_M_bears_51 z d v1 v2 v3 v4 q2.2) else ((mC z d 279 [(2, 86), (0, v1), (0, v3), (0, v4)] q2.2).bind fun q3 => (bif decide (3 ≤ q3.1) then (f_M_bears_51 z d v1 v2 v3 v4 q3.2) else (some (0, q3.2)))))))) := by
  show mE z d q_M_bears 14 [(2, 86), (0, v1), (0, v2), (0, v3), (0, v4)] [] μ = _
  rw [mE_bk (M := q_M_bears) k_M_bears.1 k_M_bears.2 [2, 14, 51] 400]
  have key : ∀ (C : Nat → List zv → Mu → mR) (E : Nat → List zv → List zv → Mu → mR), mbk C E q_M_bears.1 q_M_bears.2.1 z q_M_bears.2.2.2 [2, 14, 51] 400 (zfind q_M_bears.2.2.2 14) [(2, 86), (0, v1), (0, v2), (0, v3), (0, v4)] [] μ = bif decide (v3 ≤ v4) then (g_M_bears_2 E v1 v2 (zw (v3 + 1)) μ) else ((C 189 [(0, v2), (0, v3)] μ).bind fun q1 => (bif decide (q1.1 = 0) then (g_M_bears_51 E v1 v2 v3 v4 q1.2) else ((C 189 [(0, v2), (0, v4)] q1.2).bind fun q2 => (bif decide (q2.1 = 0) then (g_M_bears_51 E v1 v2 v3 v4 q2.2) else ((C 279 [(2, 86), (0, v1), (0, v3), (0, v4)] q2.2).bind fun q3 => (bif decide (3 ≤ q3.1) then (g_M_bears_51 E v1 v2 v3 v4 q3.2) else (some (0, q3.2)))))))) := by
    intro C E
    rfl
  exact key _ _
set_option maxRecDepth 100000 in
theorem e_M_bears_51 (z : zZ) (d : Nat) (v1 : Int) (v2 : Int) (v3 : Int) (v4 : Int) (μ : Mu) : f_M_bears_51 z d v1 v2 v3 v4 μ = f_M_bears_14 z d v1 v2 v3 (zw (v4 + 1)) μ := by
  show mE z d q_M_bears 51 [(2, 86), (0, v1), (0, v2), (0, v3), (0, v4)] [] μ = _
  rw [mE_bk (M := q_M_bears) k_M_bears.1 k_M_bears.2 [2, 14, 51] 400]
  have key : ∀ (C : Nat → List zv → Mu → mR) (E : Nat → List zv → List zv → Mu → mR), mbk C E q_M_bears.1 q_M_bears.2.1 z q_M_bears.2.2.2 [2, 14, 51] 400 (zfind q_M_bears.2.2.2 51) [(2, 86), (0, v1), (0, v2), (0, v3), (0, v4)] [] μ = g_M_bears_14 E v1 v2 v3 (zw (v4 + 1)) μ := by
    intro C E
    rfl
  exact key _ _
def g_M_fight_18 (E : Nat → List zv → List zv → Mu → mR) (μ : Mu) : mR := E 18 [(9, 0), (9, 0), (9, 0), (9, 0)] [] μ
noncomputable def f_M_fight_18 (z : zZ) (d : Nat) (μ : Mu) : mR := g_M_fight_18 (fun pc ls st μ => mE z d q_M_fight pc ls st μ) μ
def g_M_fight_65 (E : Nat → List zv → List zv → Mu → mR) (v2 : Int) (μ : Mu) : mR := E 65 [(2, 86), (9, 0), (0, v2), (9, 0)] [] μ
noncomputable def f_M_fight_65 (z : zZ) (d : Nat) (v2 : Int) (μ : Mu) : mR := g_M_fight_65 (fun pc ls st μ => mE z d q_M_fight pc ls st μ) v2 μ
def g_M_fight_81 (E : Nat → List zv → List zv → Mu → mR) (v3 : Int) (μ : Mu) : mR := E 81 [(2, 86), (9, 0), (9, 0), (0, v3)] [] μ
noncomputable def f_M_fight_81 (z : zZ) (d : Nat) (v3 : Int) (μ : Mu) : mR := g_M_fight_81 (fun pc ls st μ => mE z d q_M_fight pc ls st μ) v3 μ
def g_M_fight_123 (E : Nat → List zv → List zv → Mu → mR) (v3 : Int) (μ : Mu) : mR := E 123 [(2, 86), (9, 0), (9, 0), (0, v3)] [] μ
noncomputable def f_M_fight_123 (z : zZ) (d : Nat) (v3 : Int) (μ : Mu) : mR := g_M_fight_123 (fun pc ls st μ => mE z d q_M_fight pc ls st μ) v3 μ
def g_M_fight_143 (E : Nat → List zv → List zv → Mu → mR) (μ : Mu) : mR := E 143 [(9, 0), (9, 0), (9, 0), (9, 0)] [] μ
noncomputable def f_M_fight_143 (z : zZ) (d : Nat) (μ : Mu) : mR := g_M_fight_143 (fun pc ls st μ => mE z d q_M_fight pc ls st μ) μ
def g_M_fight_160 (E : Nat → List zv → List zv → Mu → mR) (v3 : Int) (μ : Mu) : mR := E 160 [(2, 86), (9, 0), (9, 0), (0, v3)] [] μ
noncomputable def f_M_fight_160 (z : zZ) (d : Nat) (v3 : Int) (μ : Mu) : mR := g_M_fight_160 (fun pc ls st μ => mE z d q_M_fight pc ls st μ) v3 μ
theorem k_M_fight : zprK q_M_fight.2.2.2 = true ∧ zinc q_M_fight.2.2.2 = true := by decide +kernel
set_option maxRecDepth 100000 in
theorem c_M_fight (z : zZ) (d : Nat) (v1 : Int) (μ : Mu) : mC z (d + 1) 281 [(2, 86), (0, v1)] μ = (mC z d 183 [(0, v1), (0, 3), (0, 17)] μ).bind fun q1 => (bif decide (q1.1 = 0) then (f_M_fight_18 z d q1.2) else (bif decide (v1 ≤ q1.2 86 9) then ((mC z d 230 [(2, 86)] (zup (zup (zup q1.2 86 10 0) 86 11 v1) 86 48 0)).bind fun q2 => (bif decide (q2.1 = 0) then (f_M_fight_65 z d q2.1 q2.2) else (bif decide (q2.2 86 11 ≤ q2.2 86 10) then (f_M_fight_65 z d q2.1 q2.2) else ((mC z d 194 [(2, 86), (0, 1), (0, q2.2 86 10)] q2.2).bind fun q3 => (f_M_fight_65 z d q3.1 q3.2))))) else (f_M_fight_18 z d q1.2))) := by
  rw [mC_succ q_M_fight rfl rfl rfl]
  rw [mE_bk (M := q_M_fight) k_M_fight.1 k_M_fight.2 [18, 65, 81, 123, 143, 160] 400]
  have key : ∀ (C : Nat → List zv → Mu → mR) (E : Nat → List zv → List zv → Mu → mR), mbk C E q_M_fight.1 q_M_fight.2.1 z q_M_fight.2.2.2 [18, 65, 81, 123, 143, 160] 400 (zfind q_M_fight.2.2.2 0) (zentry q_M_fight.2.2.1 [(2, 86), (0, v1)]) [] μ = (C 183 [(0, v1), (0, 3), (0, 17)] μ).bind fun q1 => (bif decide (q1.1 = 0) then (g_M_fight_18 E q1.2) else (bif decide (v1 ≤ q1.2 86 9) then ((C 230 [(2, 86)] (zup (zup (zup q1.2 86 10 0) 86 11 v1) 86 48 0)).bind fun q2 => (bif decide (q2.1 = 0) then (g_M_fight_65 E q2.1 q2.2) else (bif decide (q2.2 86 11 ≤ q2.2 86 10) then (g_M_fight_65 E q2.1 q2.2) else ((C 194 [(2, 86), (0, 1), (0, q2.2 86 10)] q2.2).bind fun q3 => (g_M_fight_65 E q3.1 q3.2))))) else (g_M_fight_18 E q1.2))) := by
    intro C E
    rfl
  exact key _ _
set_option maxRecDepth 100000 in
theorem e_M_fight_18 (z : zZ) (d : Nat) (μ : Mu) : f_M_fight_18 z d μ = some ((-1), μ) := by
  show mE z d q_M_fight 18 [(9, 0), (9, 0), (9, 0), (9, 0)] [] μ = _
  rw [mE_bk (M := q_M_fight) k_M_fight.1 k_M_fight.2 [18, 65, 81, 123, 143, 160] 400]
  have key : ∀ (C : Nat → List zv → Mu → mR) (E : Nat → List zv → List zv → Mu → mR), mbk C E q_M_fight.1 q_M_fight.2.1 z q_M_fight.2.2.2 [18, 65, 81, 123, 143, 160] 400 (zfind q_M_fight.2.2.2 18) [(9, 0), (9, 0), (9, 0), (9, 0)] [] μ = some ((-1), μ) := by
    intro C E
    rfl
  exact key _ _
set_option maxRecDepth 100000 in
theorem e_M_fight_65 (z : zZ) (d : Nat) (v2 : Int) (μ : Mu) : f_M_fight_65 z d v2 μ = bif !decide (v2 = 0) then (f_M_fight_81 z d 0 (zup μ 86 9 0)) else (some (μ 86 12, zup μ 86 9 0)) := by
  show mE z d q_M_fight 65 [(2, 86), (9, 0), (0, v2), (9, 0)] [] μ = _
  rw [mE_bk (M := q_M_fight) k_M_fight.1 k_M_fight.2 [18, 65, 81, 123, 143, 160] 400]
  have key : ∀ (C : Nat → List zv → Mu → mR) (E : Nat → List zv → List zv → Mu → mR), mbk C E q_M_fight.1 q_M_fight.2.1 z q_M_fight.2.2.2 [18, 65, 81, 123, 143, 160] 400 (zfind q_M_fight.2.2.2 65) [(2, 86), (9, 0), (0, v2), (9, 0)] [] μ = bif !decide (v2 = 0) then (g_M_fight_81 E 0 (zup μ 86 9 0)) else (some (μ 86 12, zup μ 86 9 0)) := by
    intro C E
    rfl
  exact key _ _
set_option maxRecDepth 100000 in
theorem e_M_fight_81 (z : zZ) (d : Nat) (v3 : Int) (μ : Mu) : f_M_fight_81 z d v3 μ = bif decide (μ 113 0 ≤ v3) then (f_M_fight_123 z d v3 μ) else (bif decide (μ 115 0 ≤ v3) then (f_M_fight_123 z d v3 μ) else (gI v3 96 (gI v3 96 (bif !decide (μ 112 v3.toNat = μ 114 v3.toNat) then (f_M_fight_123 z d v3 μ) else (f_M_fight_81 z d (zw (v3 + 1)) μ))))) := by
  show mE z d q_M_fight 81 [(2, 86), (9, 0), (9, 0), (0, v3)] [] μ = _
  rw [mE_bk (M := q_M_fight) k_M_fight.1 k_M_fight.2 [18, 65, 81, 123, 143, 160] 400]
  have key : ∀ (C : Nat → List zv → Mu → mR) (E : Nat → List zv → List zv → Mu → mR), mbk C E q_M_fight.1 q_M_fight.2.1 z q_M_fight.2.2.2 [18, 65, 81, 123, 143, 160] 400 (zfind q_M_fight.2.2.2 81) [(2, 86), (9, 0), (9, 0), (0, v3)] [] μ = bif decide (μ 113 0 ≤ v3) then (g_M_fight_123 E v3 μ) else (bif decide (μ 115 0 ≤ v3) then (g_M_fight_123 E v3 μ) else (gI v3 96 (gI v3 96 (bif !decide (μ 112 v3.toNat = μ 114 v3.toNat) then (g_M_fight_123 E v3 μ) else (g_M_fight_81 E (zw (v3 + 1)) μ))))) := by
    intro C E
    rfl
  exact key _ _
set_option maxRecDepth 100000 in
theorem e_M_fight_123 (z : zZ) (d : Nat) (v3 : Int) (μ : Mu) : f_M_fight_123 z d v3 μ = bif decide (v3 = μ 113 0) then (f_M_fight_143 z d μ) else (bif !decide (v3 = μ 115 0) then (bif !decide (μ 86 67 = 24) then (f_M_fight_160 z d v3 μ) else (some ((-4000), μ))) else (f_M_fight_143 z d μ)) := by
  show mE z d q_M_fight 123 [(2, 86), (9, 0), (9, 0), (0, v3)] [] μ = _
  rw [mE_bk (M := q_M_fight) k_M_fight.1 k_M_fight.2 [18, 65, 81, 123, 143, 160] 400]
  have key : ∀ (C : Nat → List zv → Mu → mR) (E : Nat → List zv → List zv → Mu → mR), mbk C E q_M_fight.1 q_M_fight.2.1 z q_M_fight.2.2.2 [18, 65, 81, 123, 143, 160] 400 (zfind q_M_fight.2.2.2 123) [(2, 86), (9, 0), (9, 0), (0, v3)] [] μ = bif decide (v3 = μ 113 0) then (g_M_fight_143 E μ) else (bif !decide (v3 = μ 115 0) then (bif !decide (μ 86 67 = 24) then (g_M_fight_160 E v3 μ) else (some ((-4000), μ))) else (g_M_fight_143 E μ)) := by
    intro C E
    rfl
  exact key _ _
set_option maxRecDepth 100000 in
theorem e_M_fight_143 (z : zZ) (d : Nat) (μ : Mu) : f_M_fight_143 z d μ = some ((-5000), μ) := by
  show mE z d q_M_fight 143 [(9, 0), (9, 0), (9, 0), (9, 0)] [] μ = _
  rw [mE_bk (M := q_M_fight) k_M_fight.1 k_M_fight.2 [18, 65, 81, 123, 143, 160] 400]
  have key : ∀ (C : Nat → List zv → Mu → mR) (E : Nat → List zv → List zv → Mu → mR), mbk C E q_M_fight.1 q_M_fight.2.1 z q_M_fight.2.2.2 [18, 65, 81, 123, 143, 160] 400 (zfind q_M_fight.2.2.2 143) [(9, 0), (9, 0), (9, 0), (9, 0)] [] μ = some ((-5000), μ) := by
    intro C E
    rfl
  exact key _ _
set_option maxRecDepth 100000 in
theorem e_M_fight_160 (z : zZ) (d : Nat) (v3 : Int) (μ : Mu) : f_M_fight_160 z d v3 μ = gI v3 96 (gI (μ 86 67) 24 (gI v3 96 (gI (μ 86 67) 24 (some (zw ((μ 86 67) + 1), zup (zup (zup μ 128 ((μ 86 67).toNat) (μ 112 v3.toNat)) 129 ((μ 86 67).toNat) (μ 114 v3.toNat)) 86 67 (zw ((μ 86 67) + 1))))))) := by
  show mE z d q_M_fight 160 [(2, 86), (9, 0), (9, 0), (0, v3)] [] μ = _
  rw [mE_bk (M := q_M_fight) k_M_fight.1 k_M_fight.2 [18, 65, 81, 123, 143, 160] 400]
  have key : ∀ (C : Nat → List zv → Mu → mR) (E : Nat → List zv → List zv → Mu → mR), mbk C E q_M_fight.1 q_M_fight.2.1 z q_M_fight.2.2.2 [18, 65, 81, 123, 143, 160] 400 (zfind q_M_fight.2.2.2 160) [(2, 86), (9, 0), (9, 0), (0, v3)] [] μ = gI v3 96 (gI (μ 86 67) 24 (gI v3 96 (gI (μ 86 67) 24 (some (zw ((μ 86 67) + 1), zup (zup (zup μ 128 ((μ 86 67).toNat) (μ 112 v3.toNat)) 129 ((μ 86 67).toNat) (μ 114 v3.toNat)) 86 67 (zw ((μ 86 67) + 1))))))) := by
    intro C E
    rfl
  exact key _ _
