def g_M_laysBest_2 (E : Nat → List zv → List zv → Mu → mR) (v1 : Int) (v2 : Int) (μ : Mu) : mR := E 2 [(2, 86), (0, v1), (0, v2), (9, 0), (9, 0), (9, 0)] [] μ
noncomputable def f_M_laysBest_2 (z : zZ) (d : Nat) (v1 : Int) (v2 : Int) (μ : Mu) : mR := g_M_laysBest_2 (fun pc ls st μ => mE z d q_M_laysBest pc ls st μ) v1 v2 μ
def g_M_laysBest_33 (E : Nat → List zv → List zv → Mu → mR) (v1 : Int) (v2 : Int) (v3 : Int) (μ : Mu) : mR := E 33 [(2, 86), (0, v1), (0, v2), (0, v3), (9, 0), (9, 0)] [] μ
noncomputable def f_M_laysBest_33 (z : zZ) (d : Nat) (v1 : Int) (v2 : Int) (v3 : Int) (μ : Mu) : mR := g_M_laysBest_33 (fun pc ls st μ => mE z d q_M_laysBest pc ls st μ) v1 v2 v3 μ
def g_M_laysBest_50 (E : Nat → List zv → List zv → Mu → mR) (v1 : Int) (v2 : Int) (v3 : Int) (v4 : Int) (v5 : Int) (μ : Mu) : mR := E 50 [(2, 86), (0, v1), (0, v2), (0, v3), (0, v4), (0, v5)] [] μ
noncomputable def f_M_laysBest_50 (z : zZ) (d : Nat) (v1 : Int) (v2 : Int) (v3 : Int) (v4 : Int) (v5 : Int) (μ : Mu) : mR := g_M_laysBest_50 (fun pc ls st μ => mE z d q_M_laysBest pc ls st μ) v1 v2 v3 v4 v5 μ
def g_M_laysBest_81 (E : Nat → List zv → List zv → Mu → mR) (v1 : Int) (v2 : Int) (v3 : Int) (v5 : Int) (v100 : Int) (μ : Mu) : mR := E 81 [(2, 86), (0, v1), (0, v2), (0, v3), (9, 0), (0, v5)] [(0, v100)] μ
noncomputable def f_M_laysBest_81 (z : zZ) (d : Nat) (v1 : Int) (v2 : Int) (v3 : Int) (v5 : Int) (v100 : Int) (μ : Mu) : mR := g_M_laysBest_81 (fun pc ls st μ => mE z d q_M_laysBest pc ls st μ) v1 v2 v3 v5 v100 μ
def g_M_laysBest_82 (E : Nat → List zv → List zv → Mu → mR) (v1 : Int) (v2 : Int) (v3 : Int) (v5 : Int) (v100 : Int) (v101 : Int) (μ : Mu) : mR := E 82 [(2, 86), (0, v1), (0, v2), (0, v3), (9, 0), (0, v5)] [(0, v101), (0, v100)] μ
noncomputable def f_M_laysBest_82 (z : zZ) (d : Nat) (v1 : Int) (v2 : Int) (v3 : Int) (v5 : Int) (v100 : Int) (v101 : Int) (μ : Mu) : mR := g_M_laysBest_82 (fun pc ls st μ => mE z d q_M_laysBest pc ls st μ) v1 v2 v3 v5 v100 v101 μ
def g_M_laysBest_117 (E : Nat → List zv → List zv → Mu → mR) (v1 : Int) (v2 : Int) (v3 : Int) (μ : Mu) : mR := E 117 [(2, 86), (0, v1), (0, v2), (0, v3), (9, 0), (9, 0)] [] μ
noncomputable def f_M_laysBest_117 (z : zZ) (d : Nat) (v1 : Int) (v2 : Int) (v3 : Int) (μ : Mu) : mR := g_M_laysBest_117 (fun pc ls st μ => mE z d q_M_laysBest pc ls st μ) v1 v2 v3 μ
theorem k_M_laysBest : zprK q_M_laysBest.2.2.2 = true ∧ zinc q_M_laysBest.2.2.2 = true := by decide +kernel
set_option maxRecDepth 100000 in
theorem c_M_laysBest (z : zZ) (d : Nat) (v1 : Int) (μ : Mu) : mC z (d + 1) 263 [(2, 86), (0, v1)] μ = f_M_laysBest_2 z d v1 0 μ := by
  rw [mC_succ q_M_laysBest rfl rfl rfl]
  rw [mE_bk (M := q_M_laysBest) k_M_laysBest.1 k_M_laysBest.2 [2, 33, 50, 81, 82, 117] 400]
  have key : ∀ (C : Nat → List zv → Mu → mR) (E : Nat → List zv → List zv → Mu → mR), mbk C E q_M_laysBest.1 q_M_laysBest.2.1 z q_M_laysBest.2.2.2 [2, 33, 50, 81, 82, 117] 400 (zfind q_M_laysBest.2.2.2 0) (zentry q_M_laysBest.2.2.1 [(2, 86), (0, v1)]) [] μ = g_M_laysBest_2 E v1 0 μ := by
    intro C E
    rfl
  exact key _ _
set_option maxRecDepth 100000 in
theorem e_M_laysBest_2 (z : zZ) (d : Nat) (v1 : Int) (v2 : Int) (μ : Mu) : f_M_laysBest_2 z d v1 v2 μ = (mC z d 198 [(2, 86), (0, v1)] μ).bind fun q1 => (bif decide (q1.1 ≤ v2) then (f_M_laysBest_33 z d v1 ((-1)) 0 q1.2) else ((mC z d 258 [(2, 86), (0, v1), (0, v2)] q1.2).bind fun q2 => (gI v2 12 (f_M_laysBest_2 z d v1 (zw (v2 + 1)) (zup q2.2 123 v2.toNat q2.1))))) := by
  show mE z d q_M_laysBest 2 [(2, 86), (0, v1), (0, v2), (9, 0), (9, 0), (9, 0)] [] μ = _
  rw [mE_bk (M := q_M_laysBest) k_M_laysBest.1 k_M_laysBest.2 [2, 33, 50, 81, 82, 117] 400]
  have key : ∀ (C : Nat → List zv → Mu → mR) (E : Nat → List zv → List zv → Mu → mR), mbk C E q_M_laysBest.1 q_M_laysBest.2.1 z q_M_laysBest.2.2.2 [2, 33, 50, 81, 82, 117] 400 (zfind q_M_laysBest.2.2.2 2) [(2, 86), (0, v1), (0, v2), (9, 0), (9, 0), (9, 0)] [] μ = (C 198 [(2, 86), (0, v1)] μ).bind fun q1 => (bif decide (q1.1 ≤ v2) then (g_M_laysBest_33 E v1 ((-1)) 0 q1.2) else ((C 258 [(2, 86), (0, v1), (0, v2)] q1.2).bind fun q2 => (gI v2 12 (g_M_laysBest_2 E v1 (zw (v2 + 1)) (zup q2.2 123 v2.toNat q2.1))))) := by
    intro C E
    rfl
  exact key _ _
set_option maxRecDepth 100000 in
theorem e_M_laysBest_33 (z : zZ) (d : Nat) (v1 : Int) (v2 : Int) (v3 : Int) (μ : Mu) : f_M_laysBest_33 z d v1 v2 v3 μ = (mC z d 198 [(2, 86), (0, v1)] μ).bind fun q1 => (bif decide (z_shl 1 q1.1 ≤ v3) then (some (v2, q1.2)) else (f_M_laysBest_50 z d v1 v2 v3 0 0 q1.2)) := by
  show mE z d q_M_laysBest 33 [(2, 86), (0, v1), (0, v2), (0, v3), (9, 0), (9, 0)] [] μ = _
  rw [mE_bk (M := q_M_laysBest) k_M_laysBest.1 k_M_laysBest.2 [2, 33, 50, 81, 82, 117] 400]
  have key : ∀ (C : Nat → List zv → Mu → mR) (E : Nat → List zv → List zv → Mu → mR), mbk C E q_M_laysBest.1 q_M_laysBest.2.1 z q_M_laysBest.2.2.2 [2, 33, 50, 81, 82, 117] 400 (zfind q_M_laysBest.2.2.2 33) [(2, 86), (0, v1), (0, v2), (0, v3), (9, 0), (9, 0)] [] μ = (C 198 [(2, 86), (0, v1)] μ).bind fun q1 => (bif decide (z_shl 1 q1.1 ≤ v3) then (some (v2, q1.2)) else (g_M_laysBest_50 E v1 v2 v3 0 0 q1.2)) := by
    intro C E
    rfl
  exact key _ _
set_option maxRecDepth 100000 in
theorem e_M_laysBest_50 (z : zZ) (d : Nat) (v1 : Int) (v2 : Int) (v3 : Int) (v4 : Int) (v5 : Int) (μ : Mu) : f_M_laysBest_50 z d v1 v2 v3 v4 v5 μ = (mC z d 198 [(2, 86), (0, v1)] μ).bind fun q1 => (bif decide (q1.1 ≤ v5) then (bif decide (v4 ≤ v2) then (f_M_laysBest_117 z d v1 v2 v3 q1.2) else ((mC z d 264 [(2, 86), (0, v1), (0, v3)] q1.2).bind fun q2 => (bif !decide (q2.1 = 0) then (f_M_laysBest_117 z d v1 v4 v3 (zup q2.2 86 58 v3)) else (f_M_laysBest_117 z d v1 v2 v3 q2.2)))) else ((mC z d 189 [(0, v3), (0, v5)] q1.2).bind fun q3 => (bif decide (q3.1 = 0) then (f_M_laysBest_81 z d v1 v2 v3 v5 v4 q3.2) else (gI v5 12 (f_M_laysBest_82 z d v1 v2 v3 v5 v4 (q3.2 123 v5.toNat) q3.2))))) := by
  show mE z d q_M_laysBest 50 [(2, 86), (0, v1), (0, v2), (0, v3), (0, v4), (0, v5)] [] μ = _
  rw [mE_bk (M := q_M_laysBest) k_M_laysBest.1 k_M_laysBest.2 [2, 33, 50, 81, 82, 117] 400]
  have key : ∀ (C : Nat → List zv → Mu → mR) (E : Nat → List zv → List zv → Mu → mR), mbk C E q_M_laysBest.1 q_M_laysBest.2.1 z q_M_laysBest.2.2.2 [2, 33, 50, 81, 82, 117] 400 (zfind q_M_laysBest.2.2.2 50) [(2, 86), (0, v1), (0, v2), (0, v3), (0, v4), (0, v5)] [] μ = (C 198 [(2, 86), (0, v1)] μ).bind fun q1 => (bif decide (q1.1 ≤ v5) then (bif decide (v4 ≤ v2) then (g_M_laysBest_117 E v1 v2 v3 q1.2) else ((C 264 [(2, 86), (0, v1), (0, v3)] q1.2).bind fun q2 => (bif !decide (q2.1 = 0) then (g_M_laysBest_117 E v1 v4 v3 (zup q2.2 86 58 v3)) else (g_M_laysBest_117 E v1 v2 v3 q2.2)))) else ((C 189 [(0, v3), (0, v5)] q1.2).bind fun q3 => (bif decide (q3.1 = 0) then (g_M_laysBest_81 E v1 v2 v3 v5 v4 q3.2) else (gI v5 12 (g_M_laysBest_82 E v1 v2 v3 v5 v4 (q3.2 123 v5.toNat) q3.2))))) := by
    intro C E
    rfl
  exact key _ _
set_option maxRecDepth 100000 in
theorem e_M_laysBest_117 (z : zZ) (d : Nat) (v1 : Int) (v2 : Int) (v3 : Int) (μ : Mu) : f_M_laysBest_117 z d v1 v2 v3 μ = f_M_laysBest_33 z d v1 v2 (zw (v3 + 1)) μ := by
  show mE z d q_M_laysBest 117 [(2, 86), (0, v1), (0, v2), (0, v3), (9, 0), (9, 0)] [] μ = _
  rw [mE_bk (M := q_M_laysBest) k_M_laysBest.1 k_M_laysBest.2 [2, 33, 50, 81, 82, 117] 400]
  have key : ∀ (C : Nat → List zv → Mu → mR) (E : Nat → List zv → List zv → Mu → mR), mbk C E q_M_laysBest.1 q_M_laysBest.2.1 z q_M_laysBest.2.2.2 [2, 33, 50, 81, 82, 117] 400 (zfind q_M_laysBest.2.2.2 117) [(2, 86), (0, v1), (0, v2), (0, v3), (9, 0), (9, 0)] [] μ = g_M_laysBest_33 E v1 v2 (zw (v3 + 1)) μ := by
    intro C E
    rfl
  exact key _ _
set_option maxRecDepth 100000 in
theorem e_M_laysBest_81 (z : zZ) (d : Nat) (v1 : Int) (v2 : Int) (v3 : Int) (v5 : Int) (v100 : Int) (μ : Mu) : f_M_laysBest_81 z d v1 v2 v3 v5 v100 μ = f_M_laysBest_82 z d v1 v2 v3 v5 v100 0 μ := by
  show mE z d q_M_laysBest 81 [(2, 86), (0, v1), (0, v2), (0, v3), (9, 0), (0, v5)] [(0, v100)] μ = _
  rw [mE_bk (M := q_M_laysBest) k_M_laysBest.1 k_M_laysBest.2 [2, 33, 50, 81, 82, 117] 400]
  have key : ∀ (C : Nat → List zv → Mu → mR) (E : Nat → List zv → List zv → Mu → mR), mbk C E q_M_laysBest.1 q_M_laysBest.2.1 z q_M_laysBest.2.2.2 [2, 33, 50, 81, 82, 117] 400 (zfind q_M_laysBest.2.2.2 81) [(2, 86), (0, v1), (0, v2), (0, v3), (9, 0), (0, v5)] [(0, v100)] μ = g_M_laysBest_82 E v1 v2 v3 v5 v100 0 μ := by
    intro C E
    rfl
  exact key _ _
set_option maxRecDepth 100000 in
theorem e_M_laysBest_82 (z : zZ) (d : Nat) (v1 : Int) (v2 : Int) (v3 : Int) (v5 : Int) (v100 : Int) (v101 : Int) (μ : Mu) : f_M_laysBest_82 z d v1 v2 v3 v5 v100 v101 μ = f_M_laysBest_50 z d v1 v2 v3 (zw (v100 + v101)) (zw (v5 + 1)) μ := by
  show mE z d q_M_laysBest 82 [(2, 86), (0, v1), (0, v2), (0, v3), (9, 0), (0, v5)] [(0, v101), (0, v100)] μ = _
  rw [mE_bk (M := q_M_laysBest) k_M_laysBest.1 k_M_laysBest.2 [2, 33, 50, 81, 82, 117] 400]
  have key : ∀ (C : Nat → List zv → Mu → mR) (E : Nat → List zv → List zv → Mu → mR), mbk C E q_M_laysBest.1 q_M_laysBest.2.1 z q_M_laysBest.2.2.2 [2, 33, 50, 81, 82, 117] 400 (zfind q_M_laysBest.2.2.2 82) [(2, 86), (0, v1), (0, v2), (0, v3), (9, 0), (0, v5)] [(0, v101), (0, v100)] μ = g_M_laysBest_50 E v1 v2 v3 (zw (v100 + v101)) (zw (v5 + 1)) μ := by
    intro C E
    rfl
  exact key _ _
def g_M_canBeFormed_28 (E : Nat → List zv → List zv → Mu → mR) (μ : Mu) : mR := E 28 [(9, 0), (9, 0), (9, 0), (9, 0), (9, 0), (9, 0)] [] μ
noncomputable def f_M_canBeFormed_28 (z : zZ) (d : Nat) (μ : Mu) : mR := g_M_canBeFormed_28 (fun pc ls st μ => mE z d q_M_canBeFormed pc ls st μ) μ
def g_M_canBeFormed_30 (E : Nat → List zv → List zv → Mu → mR) (v1 : Int) (v2 : Int) (μ : Mu) : mR := E 30 [(2, 86), (0, v1), (0, v2), (9, 0), (9, 0), (9, 0)] [] μ
noncomputable def f_M_canBeFormed_30 (z : zZ) (d : Nat) (v1 : Int) (v2 : Int) (μ : Mu) : mR := g_M_canBeFormed_30 (fun pc ls st μ => mE z d q_M_canBeFormed pc ls st μ) v1 v2 μ
def g_M_canBeFormed_32 (E : Nat → List zv → List zv → Mu → mR) (v1 : Int) (v2 : Int) (v3 : Int) (μ : Mu) : mR := E 32 [(2, 86), (0, v1), (0, v2), (0, v3), (9, 0), (9, 0)] [] μ
noncomputable def f_M_canBeFormed_32 (z : zZ) (d : Nat) (v1 : Int) (v2 : Int) (v3 : Int) (μ : Mu) : mR := g_M_canBeFormed_32 (fun pc ls st μ => mE z d q_M_canBeFormed pc ls st μ) v1 v2 v3 μ
def g_M_canBeFormed_53 (E : Nat → List zv → List zv → Mu → mR) (v1 : Int) (v2 : Int) (v3 : Int) (μ : Mu) : mR := E 53 [(2, 86), (0, v1), (0, v2), (0, v3), (9, 0), (9, 0)] [] μ
noncomputable def f_M_canBeFormed_53 (z : zZ) (d : Nat) (v1 : Int) (v2 : Int) (v3 : Int) (μ : Mu) : mR := g_M_canBeFormed_53 (fun pc ls st μ => mE z d q_M_canBeFormed pc ls st μ) v1 v2 v3 μ
def g_M_canBeFormed_65 (E : Nat → List zv → List zv → Mu → mR) (v1 : Int) (v2 : Int) (v3 : Int) (v4 : Int) (μ : Mu) : mR := E 65 [(2, 86), (0, v1), (0, v2), (0, v3), (0, v4), (9, 0)] [] μ
noncomputable def f_M_canBeFormed_65 (z : zZ) (d : Nat) (v1 : Int) (v2 : Int) (v3 : Int) (v4 : Int) (μ : Mu) : mR := g_M_canBeFormed_65 (fun pc ls st μ => mE z d q_M_canBeFormed pc ls st μ) v1 v2 v3 v4 μ
def g_M_canBeFormed_139 (E : Nat → List zv → List zv → Mu → mR) (v1 : Int) (v2 : Int) (v3 : Int) (v4 : Int) (μ : Mu) : mR := E 139 [(2, 86), (0, v1), (0, v2), (0, v3), (0, v4), (9, 0)] [] μ
noncomputable def f_M_canBeFormed_139 (z : zZ) (d : Nat) (v1 : Int) (v2 : Int) (v3 : Int) (v4 : Int) (μ : Mu) : mR := g_M_canBeFormed_139 (fun pc ls st μ => mE z d q_M_canBeFormed pc ls st μ) v1 v2 v3 v4 μ
def g_M_canBeFormed_145 (E : Nat → List zv → List zv → Mu → mR) (v1 : Int) (v2 : Int) (v3 : Int) (μ : Mu) : mR := E 145 [(2, 86), (0, v1), (0, v2), (0, v3), (9, 0), (9, 0)] [] μ
noncomputable def f_M_canBeFormed_145 (z : zZ) (d : Nat) (v1 : Int) (v2 : Int) (v3 : Int) (μ : Mu) : mR := g_M_canBeFormed_145 (fun pc ls st μ => mE z d q_M_canBeFormed pc ls st μ) v1 v2 v3 μ
theorem k_M_canBeFormed : zprK q_M_canBeFormed.2.2.2 = true ∧ zinc q_M_canBeFormed.2.2.2 = true := by decide +kernel
set_option maxRecDepth 100000 in
theorem c_M_canBeFormed (z : zZ) (d : Nat) (v1 : Int) (v2 : Int) (μ : Mu) : mC z (d + 1) 264 [(2, 86), (0, v1), (0, v2)] μ = (mC z d 199 [(2, 86), (0, v1)] μ).bind fun q1 => (bif !decide (z_and v2 q1.1 = 0) then (f_M_canBeFormed_28 z d q1.2) else ((mC z d 236 [(0, v2)] q1.2).bind fun q2 => ((mC z d 199 [(2, 86), (0, v1)] q2.2).bind fun q3 => ((mC z d 236 [(0, q3.1)] q3.2).bind fun q4 => (bif decide (zw (q2.1 + q4.1) ≤ 6) then (f_M_canBeFormed_30 z d v1 v2 q4.2) else (f_M_canBeFormed_28 z d q4.2)))))) := by
  rw [mC_succ q_M_canBeFormed rfl rfl rfl]
  rw [mE_bk (M := q_M_canBeFormed) k_M_canBeFormed.1 k_M_canBeFormed.2 [28, 30, 32, 53, 65, 139, 145] 400]
  have key : ∀ (C : Nat → List zv → Mu → mR) (E : Nat → List zv → List zv → Mu → mR), mbk C E q_M_canBeFormed.1 q_M_canBeFormed.2.1 z q_M_canBeFormed.2.2.2 [28, 30, 32, 53, 65, 139, 145] 400 (zfind q_M_canBeFormed.2.2.2 0) (zentry q_M_canBeFormed.2.2.1 [(2, 86), (0, v1), (0, v2)]) [] μ = (C 199 [(2, 86), (0, v1)] μ).bind fun q1 => (bif !decide (z_and v2 q1.1 = 0) then (g_M_canBeFormed_28 E q1.2) else ((C 236 [(0, v2)] q1.2).bind fun q2 => ((C 199 [(2, 86), (0, v1)] q2.2).bind fun q3 => ((C 236 [(0, q3.1)] q3.2).bind fun q4 => (bif decide (zw (q2.1 + q4.1) ≤ 6) then (g_M_canBeFormed_30 E v1 v2 q4.2) else (g_M_canBeFormed_28 E q4.2)))))) := by
    intro C E
    rfl
  exact key _ _
set_option maxRecDepth 100000 in
theorem e_M_canBeFormed_28 (z : zZ) (d : Nat) (μ : Mu) : f_M_canBeFormed_28 z d μ = some (0, μ) := by
  show mE z d q_M_canBeFormed 28 [(9, 0), (9, 0), (9, 0), (9, 0), (9, 0), (9, 0)] [] μ = _
  rw [mE_bk (M := q_M_canBeFormed) k_M_canBeFormed.1 k_M_canBeFormed.2 [28, 30, 32, 53, 65, 139, 145] 400]
  have key : ∀ (C : Nat → List zv → Mu → mR) (E : Nat → List zv → List zv → Mu → mR), mbk C E q_M_canBeFormed.1 q_M_canBeFormed.2.1 z q_M_canBeFormed.2.2.2 [28, 30, 32, 53, 65, 139, 145] 400 (zfind q_M_canBeFormed.2.2.2 28) [(9, 0), (9, 0), (9, 0), (9, 0), (9, 0), (9, 0)] [] μ = some (0, μ) := by
    intro C E
    rfl
  exact key _ _
set_option maxRecDepth 100000 in
theorem e_M_canBeFormed_30 (z : zZ) (d : Nat) (v1 : Int) (v2 : Int) (μ : Mu) : f_M_canBeFormed_30 z d v1 v2 μ = f_M_canBeFormed_32 z d v1 v2 0 μ := by
  show mE z d q_M_canBeFormed 30 [(2, 86), (0, v1), (0, v2), (9, 0), (9, 0), (9, 0)] [] μ = _
  rw [mE_bk (M := q_M_canBeFormed) k_M_canBeFormed.1 k_M_canBeFormed.2 [28, 30, 32, 53, 65, 139, 145] 400]
  have key : ∀ (C : Nat → List zv → Mu → mR) (E : Nat → List zv → List zv → Mu → mR), mbk C E q_M_canBeFormed.1 q_M_canBeFormed.2.1 z q_M_canBeFormed.2.2.2 [28, 30, 32, 53, 65, 139, 145] 400 (zfind q_M_canBeFormed.2.2.2 30) [(2, 86), (0, v1), (0, v2), (9, 0), (9, 0), (9, 0)] [] μ = g_M_canBeFormed_32 E v1 v2 0 μ := by
    intro C E
    rfl
  exact key _ _
set_option maxRecDepth 100000 in
theorem e_M_canBeFormed_32 (z : zZ) (d : Nat) (v1 : Int) (v2 : Int) (v3 : Int) (μ : Mu) : f_M_canBeFormed_32 z d v1 v2 v3 μ = bif decide (12 ≤ v3) then (f_M_canBeFormed_53 z d v1 v2 0 μ) else (gI v3 12 (f_M_canBeFormed_32 z d v1 v2 (zw (v3 + 1)) (zup μ 122 v3.toNat 0))) := by
  show mE z d q_M_canBeFormed 32 [(2, 86), (0, v1), (0, v2), (0, v3), (9, 0), (9, 0)] [] μ = _
  rw [mE_bk (M := q_M_canBeFormed) k_M_canBeFormed.1 k_M_canBeFormed.2 [28, 30, 32, 53, 65, 139, 145] 400]
  have key : ∀ (C : Nat → List zv → Mu → mR) (E : Nat → List zv → List zv → Mu → mR), mbk C E q_M_canBeFormed.1 q_M_canBeFormed.2.1 z q_M_canBeFormed.2.2.2 [28, 30, 32, 53, 65, 139, 145] 400 (zfind q_M_canBeFormed.2.2.2 32) [(2, 86), (0, v1), (0, v2), (0, v3), (9, 0), (9, 0)] [] μ = bif decide (12 ≤ v3) then (g_M_canBeFormed_53 E v1 v2 0 μ) else (gI v3 12 (g_M_canBeFormed_32 E v1 v2 (zw (v3 + 1)) (zup μ 122 v3.toNat 0))) := by
    intro C E
    rfl
  exact key _ _
set_option maxRecDepth 100000 in
theorem e_M_canBeFormed_53 (z : zZ) (d : Nat) (v1 : Int) (v2 : Int) (v3 : Int) (μ : Mu) : f_M_canBeFormed_53 z d v1 v2 v3 μ = (mC z d 198 [(2, 86), (0, v1)] μ).bind fun q1 => (bif decide (q1.1 ≤ v3) then (some (1, q1.2)) else (f_M_canBeFormed_65 z d v1 v2 v3 0 q1.2)) := by
  show mE z d q_M_canBeFormed 53 [(2, 86), (0, v1), (0, v2), (0, v3), (9, 0), (9, 0)] [] μ = _
  rw [mE_bk (M := q_M_canBeFormed) k_M_canBeFormed.1 k_M_canBeFormed.2 [28, 30, 32, 53, 65, 139, 145] 400]
  have key : ∀ (C : Nat → List zv → Mu → mR) (E : Nat → List zv → List zv → Mu → mR), mbk C E q_M_canBeFormed.1 q_M_canBeFormed.2.1 z q_M_canBeFormed.2.2.2 [28, 30, 32, 53, 65, 139, 145] 400 (zfind q_M_canBeFormed.2.2.2 53) [(2, 86), (0, v1), (0, v2), (0, v3), (9, 0), (9, 0)] [] μ = (C 198 [(2, 86), (0, v1)] μ).bind fun q1 => (bif decide (q1.1 ≤ v3) then (some (1, q1.2)) else (g_M_canBeFormed_65 E v1 v2 v3 0 q1.2)) := by
    intro C E
    rfl
  exact key _ _
set_option maxRecDepth 100000 in
theorem e_M_canBeFormed_65 (z : zZ) (d : Nat) (v1 : Int) (v2 : Int) (v3 : Int) (v4 : Int) (μ : Mu) : f_M_canBeFormed_65 z d v1 v2 v3 v4 μ = (mC z d 202 [(2, 86), (0, v1), (0, v3)] μ).bind fun q1 => (bif decide (q1.1 ≤ v4) then (f_M_canBeFormed_145 z d v1 v2 v3 q1.2) else ((mC z d 189 [(0, v2), (0, v3)] q1.2).bind fun q2 => (bif decide (q2.1 = 0) then (f_M_canBeFormed_145 z d v1 v2 v3 q2.2) else ((mC z d 201 [(0, v1), (0, v3)] q2.2).bind fun q3 => (gI (zw (q3.1 + v4)) 192 (gI (q3.2 94 ((zw (q3.1 + v4)).toNat)) 12 (gI (q3.2 94 ((zw (q3.1 + v4)).toNat)) 12 (gI (q3.2 94 ((zw (q3.1 + v4)).toNat)) 12 (gI (zw ((zw (12 * v1)) + (q3.2 94 ((zw (q3.1 + v4)).toNat)))) 24 (bif decide ((zup q3.2 122 ((q3.2 94 ((zw (q3.1 + v4)).toNat)).toNat) (zw ((q3.2 122 ((q3.2 94 ((zw (q3.1 + v4)).toNat)).toNat)) + 1))) 122 ((q3.2 94 ((zw (q3.1 + v4)).toNat)).toNat) ≤ q3.2 90 ((zw ((zw (12 * v1)) + (q3.2 94 ((zw (q3.1 + v4)).toNat)))).toNat)) then (f_M_canBeFormed_139 z d v1 v2 v3 v4 (zup q3.2 122 ((q3.2 94 ((zw (q3.1 + v4)).toNat)).toNat) (zw ((q3.2 122 ((q3.2 94 ((zw (q3.1 + v4)).toNat)).toNat)) + 1)))) else (some (0, zup q3.2 122 ((q3.2 94 ((zw (q3.1 + v4)).toNat)).toNat) (zw ((q3.2 122 ((q3.2 94 ((zw (q3.1 + v4)).toNat)).toNat)) + 1)))))))))))))) := by
  show mE z d q_M_canBeFormed 65 [(2, 86), (0, v1), (0, v2), (0, v3), (0, v4), (9, 0)] [] μ = _
  rw [mE_bk (M := q_M_canBeFormed) k_M_canBeFormed.1 k_M_canBeFormed.2 [28, 30, 32, 53, 65, 139, 145] 400]
  have key : ∀ (C : Nat → List zv → Mu → mR) (E : Nat → List zv → List zv → Mu → mR), mbk C E q_M_canBeFormed.1 q_M_canBeFormed.2.1 z q_M_canBeFormed.2.2.2 [28, 30, 32, 53, 65, 139, 145] 400 (zfind q_M_canBeFormed.2.2.2 65) [(2, 86), (0, v1), (0, v2), (0, v3), (0, v4), (9, 0)] [] μ = (C 202 [(2, 86), (0, v1), (0, v3)] μ).bind fun q1 => (bif decide (q1.1 ≤ v4) then (g_M_canBeFormed_145 E v1 v2 v3 q1.2) else ((C 189 [(0, v2), (0, v3)] q1.2).bind fun q2 => (bif decide (q2.1 = 0) then (g_M_canBeFormed_145 E v1 v2 v3 q2.2) else ((C 201 [(0, v1), (0, v3)] q2.2).bind fun q3 => (gI (zw (q3.1 + v4)) 192 (gI (q3.2 94 ((zw (q3.1 + v4)).toNat)) 12 (gI (q3.2 94 ((zw (q3.1 + v4)).toNat)) 12 (gI (q3.2 94 ((zw (q3.1 + v4)).toNat)) 12 (gI (zw ((zw (12 * v1)) + (q3.2 94 ((zw (q3.1 + v4)).toNat)))) 24 (bif decide ((zup q3.2 122 ((q3.2 94 ((zw (q3.1 + v4)).toNat)).toNat) (zw ((q3.2 122 ((q3.2 94 ((zw (q3.1 + v4)).toNat)).toNat)) + 1))) 122 ((q3.2 94 ((zw (q3.1 + v4)).toNat)).toNat) ≤ q3.2 90 ((zw ((zw (12 * v1)) + (q3.2 94 ((zw (q3.1 + v4)).toNat)))).toNat)) then (g_M_canBeFormed_139 E v1 v2 v3 v4 (zup q3.2 122 ((q3.2 94 ((zw (q3.1 + v4)).toNat)).toNat) (zw ((q3.2 122 ((q3.2 94 ((zw (q3.1 + v4)).toNat)).toNat)) + 1)))) else (some (0, zup q3.2 122 ((q3.2 94 ((zw (q3.1 + v4)).toNat)).toNat) (zw ((q3.2 122 ((q3.2 94 ((zw (q3.1 + v4)).toNat)).toNat)) + 1)))))))))))))) := by
    intro C E
    rfl
  exact key _ _
set_option maxRecDepth 100000 in
theorem e_M_canBeFormed_145 (z : zZ) (d : Nat) (v1 : Int) (v2 : Int) (v3 : Int) (μ : Mu) : f_M_canBeFormed_145 z d v1 v2 v3 μ = f_M_canBeFormed_53 z d v1 v2 (zw (v3 + 1)) μ := by
  show mE z d q_M_canBeFormed 145 [(2, 86), (0, v1), (0, v2), (0, v3), (9, 0), (9, 0)] [] μ = _
  rw [mE_bk (M := q_M_canBeFormed) k_M_canBeFormed.1 k_M_canBeFormed.2 [28, 30, 32, 53, 65, 139, 145] 400]
  have key : ∀ (C : Nat → List zv → Mu → mR) (E : Nat → List zv → List zv → Mu → mR), mbk C E q_M_canBeFormed.1 q_M_canBeFormed.2.1 z q_M_canBeFormed.2.2.2 [28, 30, 32, 53, 65, 139, 145] 400 (zfind q_M_canBeFormed.2.2.2 145) [(2, 86), (0, v1), (0, v2), (0, v3), (9, 0), (9, 0)] [] μ = g_M_canBeFormed_53 E v1 v2 (zw (v3 + 1)) μ := by
    intro C E
    rfl
  exact key _ _
set_option maxRecDepth 100000 in
theorem e_M_canBeFormed_139 (z : zZ) (d : Nat) (v1 : Int) (v2 : Int) (v3 : Int) (v4 : Int) (μ : Mu) : f_M_canBeFormed_139 z d v1 v2 v3 v4 μ = f_M_canBeFormed_65 z d v1 v2 v3 (zw (v4 + 1)) μ := by
  show mE z d q_M_canBeFormed 139 [(2, 86), (0, v1), (0, v2), (0, v3), (0, v4), (9, 0)] [] μ = _
  rw [mE_bk (M := q_M_canBeFormed) k_M_canBeFormed.1 k_M_canBeFormed.2 [28, 30, 32, 53, 65, 139, 145] 400]
  have key : ∀ (C : Nat → List zv → Mu → mR) (E : Nat → List zv → List zv → Mu → mR), mbk C E q_M_canBeFormed.1 q_M_canBeFormed.2.1 z q_M_canBeFormed.2.2.2 [28, 30, 32, 53, 65, 139, 145] 400 (zfind q_M_canBeFormed.2.2.2 139) [(2, 86), (0, v1), (0, v2), (0, v3), (0, v4), (9, 0)] [] μ = g_M_canBeFormed_65 E v1 v2 v3 (zw (v4 + 1)) μ := by
    intro C E
    rfl
  exact key _ _
def g_M_against_16 (E : Nat → List zv → List zv → Mu → mR) (μ : Mu) : mR := E 16 [(9, 0), (9, 0), (9, 0), (9, 0), (9, 0), (9, 0), (9, 0)] [] μ
noncomputable def f_M_against_16 (z : zZ) (d : Nat) (μ : Mu) : mR := g_M_against_16 (fun pc ls st μ => mE z d q_M_against pc ls st μ) μ
def g_M_against_26 (E : Nat → List zv → List zv → Mu → mR) (v1 : Int) (v2 : Int) (v3 : Int) (v4 : Int) (v5 : Int) (μ : Mu) : mR := E 26 [(2, 86), (0, v1), (0, v2), (0, v3), (0, v4), (0, v5), (9, 0)] [] μ
noncomputable def f_M_against_26 (z : zZ) (d : Nat) (v1 : Int) (v2 : Int) (v3 : Int) (v4 : Int) (v5 : Int) (μ : Mu) : mR := g_M_against_26 (fun pc ls st μ => mE z d q_M_against pc ls st μ) v1 v2 v3 v4 v5 μ
def g_M_against_51 (E : Nat → List zv → List zv → Mu → mR) (v1 : Int) (v2 : Int) (v3 : Int) (v4 : Int) (v5 : Int) (μ : Mu) : mR := E 51 [(2, 86), (0, v1), (0, v2), (0, v3), (0, v4), (0, v5), (9, 0)] [] μ
noncomputable def f_M_against_51 (z : zZ) (d : Nat) (v1 : Int) (v2 : Int) (v3 : Int) (v4 : Int) (v5 : Int) (μ : Mu) : mR := g_M_against_51 (fun pc ls st μ => mE z d q_M_against pc ls st μ) v1 v2 v3 v4 v5 μ
def g_M_against_89 (E : Nat → List zv → List zv → Mu → mR) (v1 : Int) (v2 : Int) (v5 : Int) (v6 : Int) (μ : Mu) : mR := E 89 [(2, 86), (0, v1), (0, v2), (9, 0), (9, 0), (0, v5), (0, v6)] [] μ
noncomputable def f_M_against_89 (z : zZ) (d : Nat) (v1 : Int) (v2 : Int) (v5 : Int) (v6 : Int) (μ : Mu) : mR := g_M_against_89 (fun pc ls st μ => mE z d q_M_against pc ls st μ) v1 v2 v5 v6 μ
def g_M_against_96 (E : Nat → List zv → List zv → Mu → mR) (v1 : Int) (v2 : Int) (v3 : Int) (v4 : Int) (v5 : Int) (μ : Mu) : mR := E 96 [(2, 86), (0, v1), (0, v2), (0, v3), (0, v4), (0, v5), (9, 0)] [] μ
noncomputable def f_M_against_96 (z : zZ) (d : Nat) (v1 : Int) (v2 : Int) (v3 : Int) (v4 : Int) (v5 : Int) (μ : Mu) : mR := g_M_against_96 (fun pc ls st μ => mE z d q_M_against pc ls st μ) v1 v2 v3 v4 v5 μ
def g_M_against_112 (E : Nat → List zv → List zv → Mu → mR) (v100 : Int) (μ : Mu) : mR := E 112 [(9, 0), (9, 0), (9, 0), (9, 0), (9, 0), (9, 0), (9, 0)] [(0, v100)] μ
noncomputable def f_M_against_112 (z : zZ) (d : Nat) (v100 : Int) (μ : Mu) : mR := g_M_against_112 (fun pc ls st μ => mE z d q_M_against pc ls st μ) v100 μ
theorem k_M_against : zprK q_M_against.2.2.2 = true ∧ zinc q_M_against.2.2.2 = true := by decide +kernel
set_option maxRecDepth 100000 in
theorem c_M_against (z : zZ) (d : Nat) (v1 : Int) (v2 : Int) (μ : Mu) : mC z (d + 1) 265 [(2, 86), (0, v1), (0, v2)] μ = (mC z d 185 [(0, v1)] μ).bind fun q1 => (bif decide (q1.1 = 0) then (f_M_against_16 z d q1.2) else ((mC z d 183 [(0, v2), (0, 0), (0, 1)] q1.2).bind fun q2 => (bif !decide (q2.1 = 0) then (f_M_against_26 z d v1 v2 0 ((-1)) 0 q2.2) else (f_M_against_16 z d q2.2)))) := by
  rw [mC_succ q_M_against rfl rfl rfl]
  rw [mE_bk (M := q_M_against) k_M_against.1 k_M_against.2 [16, 26, 51, 89, 96, 112] 400]
  have key : ∀ (C : Nat → List zv → Mu → mR) (E : Nat → List zv → List zv → Mu → mR), mbk C E q_M_against.1 q_M_against.2.1 z q_M_against.2.2.2 [16, 26, 51, 89, 96, 112] 400 (zfind q_M_against.2.2.2 0) (zentry q_M_against.2.2.1 [(2, 86), (0, v1), (0, v2)]) [] μ = (C 185 [(0, v1)] μ).bind fun q1 => (bif decide (q1.1 = 0) then (g_M_against_16 E q1.2) else ((C 183 [(0, v2), (0, 0), (0, 1)] q1.2).bind fun q2 => (bif !decide (q2.1 = 0) then (g_M_against_26 E v1 v2 0 ((-1)) 0 q2.2) else (g_M_against_16 E q2.2)))) := by
    intro C E
    rfl
  exact key _ _
set_option maxRecDepth 100000 in
theorem e_M_against_16 (z : zZ) (d : Nat) (μ : Mu) : f_M_against_16 z d μ = some ((-1), μ) := by
  show mE z d q_M_against 16 [(9, 0), (9, 0), (9, 0), (9, 0), (9, 0), (9, 0), (9, 0)] [] μ = _
  rw [mE_bk (M := q_M_against) k_M_against.1 k_M_against.2 [16, 26, 51, 89, 96, 112] 400]
  have key : ∀ (C : Nat → List zv → Mu → mR) (E : Nat → List zv → List zv → Mu → mR), mbk C E q_M_against.1 q_M_against.2.1 z q_M_against.2.2.2 [16, 26, 51, 89, 96, 112] 400 (zfind q_M_against.2.2.2 16) [(9, 0), (9, 0), (9, 0), (9, 0), (9, 0), (9, 0), (9, 0)] [] μ = some ((-1), μ) := by
    intro C E
    rfl
  exact key _ _
set_option maxRecDepth 100000 in
theorem e_M_against_26 (z : zZ) (d : Nat) (v1 : Int) (v2 : Int) (v3 : Int) (v4 : Int) (v5 : Int) (μ : Mu) : f_M_against_26 z d v1 v2 v3 v4 v5 μ = (mC z d 198 [(2, 86), (0, v1)] μ).bind fun q1 => (bif decide (z_shl 1 q1.1 ≤ v5) then (bif !decide (v2 = 0) then (f_M_against_112 z d v3 q1.2) else (f_M_against_112 z d v4 q1.2)) else ((mC z d 264 [(2, 86), (0, v1), (0, v5)] q1.2).bind fun q2 => (bif !decide (q2.1 = 0) then (f_M_against_51 z d v1 v2 v3 v4 v5 q2.2) else (f_M_against_96 z d v1 v2 v3 v4 v5 q2.2)))) := by
  show mE z d q_M_against 26 [(2, 86), (0, v1), (0, v2), (0, v3), (0, v4), (0, v5), (9, 0)] [] μ = _
  rw [mE_bk (M := q_M_against) k_M_against.1 k_M_against.2 [16, 26, 51, 89, 96, 112] 400]
  have key : ∀ (C : Nat → List zv → Mu → mR) (E : Nat → List zv → List zv → Mu → mR), mbk C E q_M_against.1 q_M_against.2.1 z q_M_against.2.2.2 [16, 26, 51, 89, 96, 112] 400 (zfind q_M_against.2.2.2 26) [(2, 86), (0, v1), (0, v2), (0, v3), (0, v4), (0, v5), (9, 0)] [] μ = (C 198 [(2, 86), (0, v1)] μ).bind fun q1 => (bif decide (z_shl 1 q1.1 ≤ v5) then (bif !decide (v2 = 0) then (g_M_against_112 E v3 q1.2) else (g_M_against_112 E v4 q1.2)) else ((C 264 [(2, 86), (0, v1), (0, v5)] q1.2).bind fun q2 => (bif !decide (q2.1 = 0) then (g_M_against_51 E v1 v2 v3 v4 v5 q2.2) else (g_M_against_96 E v1 v2 v3 v4 v5 q2.2)))) := by
    intro C E
    rfl
  exact key _ _
set_option maxRecDepth 100000 in
theorem e_M_against_112 (z : zZ) (d : Nat) (v100 : Int) (μ : Mu) : f_M_against_112 z d v100 μ = some (v100, μ) := by
  show mE z d q_M_against 112 [(9, 0), (9, 0), (9, 0), (9, 0), (9, 0), (9, 0), (9, 0)] [(0, v100)] μ = _
  rw [mE_bk (M := q_M_against) k_M_against.1 k_M_against.2 [16, 26, 51, 89, 96, 112] 400]
  have key : ∀ (C : Nat → List zv → Mu → mR) (E : Nat → List zv → List zv → Mu → mR), mbk C E q_M_against.1 q_M_against.2.1 z q_M_against.2.2.2 [16, 26, 51, 89, 96, 112] 400 (zfind q_M_against.2.2.2 112) [(9, 0), (9, 0), (9, 0), (9, 0), (9, 0), (9, 0), (9, 0)] [(0, v100)] μ = some (v100, μ) := by
    intro C E
    rfl
  exact key _ _
set_option maxRecDepth 100000 in
theorem e_M_against_51 (z : zZ) (d : Nat) (v1 : Int) (v2 : Int) (v3 : Int) (v4 : Int) (v5 : Int) (μ : Mu) : f_M_against_51 z d v1 v2 v3 v4 v5 μ = (mC z d 266 [(2, 86), (0, v1), (0, v5)] μ).bind fun q1 => (bif decide (q1.1 < v4) then (f_M_against_96 z d v1 v2 v3 v4 v5 q1.2) else (bif !decide (q1.1 = v4) then (f_M_against_89 z d v1 v2 v5 q1.1 q1.2) else ((mC z d 236 [(0, v5)] q1.2).bind fun q2 => ((mC z d 236 [(0, v3)] q2.2).bind fun q3 => (bif decide (q2.1 < q3.1) then (f_M_against_89 z d v1 v2 v5 q1.1 q3.2) else (f_M_against_96 z d v1 v2 v3 v4 v5 q3.2)))))) := by
  show mE z d q_M_against 51 [(2, 86), (0, v1), (0, v2), (0, v3), (0, v4), (0, v5), (9, 0)] [] μ = _
  rw [mE_bk (M := q_M_against) k_M_against.1 k_M_against.2 [16, 26, 51, 89, 96, 112] 400]
  have key : ∀ (C : Nat → List zv → Mu → mR) (E : Nat → List zv → List zv → Mu → mR), mbk C E q_M_against.1 q_M_against.2.1 z q_M_against.2.2.2 [16, 26, 51, 89, 96, 112] 400 (zfind q_M_against.2.2.2 51) [(2, 86), (0, v1), (0, v2), (0, v3), (0, v4), (0, v5), (9, 0)] [] μ = (C 266 [(2, 86), (0, v1), (0, v5)] μ).bind fun q1 => (bif decide (q1.1 < v4) then (g_M_against_96 E v1 v2 v3 v4 v5 q1.2) else (bif !decide (q1.1 = v4) then (g_M_against_89 E v1 v2 v5 q1.1 q1.2) else ((C 236 [(0, v5)] q1.2).bind fun q2 => ((C 236 [(0, v3)] q2.2).bind fun q3 => (bif decide (q2.1 < q3.1) then (g_M_against_89 E v1 v2 v5 q1.1 q3.2) else (g_M_against_96 E v1 v2 v3 v4 v5 q3.2)))))) := by
    intro C E
    rfl
  exact key _ _
set_option maxRecDepth 100000 in
theorem e_M_against_96 (z : zZ) (d : Nat) (v1 : Int) (v2 : Int) (v3 : Int) (v4 : Int) (v5 : Int) (μ : Mu) : f_M_against_96 z d v1 v2 v3 v4 v5 μ = f_M_against_26 z d v1 v2 v3 v4 (zw (v5 + 1)) μ := by
  show mE z d q_M_against 96 [(2, 86), (0, v1), (0, v2), (0, v3), (0, v4), (0, v5), (9, 0)] [] μ = _
  rw [mE_bk (M := q_M_against) k_M_against.1 k_M_against.2 [16, 26, 51, 89, 96, 112] 400]
  have key : ∀ (C : Nat → List zv → Mu → mR) (E : Nat → List zv → List zv → Mu → mR), mbk C E q_M_against.1 q_M_against.2.1 z q_M_against.2.2.2 [16, 26, 51, 89, 96, 112] 400 (zfind q_M_against.2.2.2 96) [(2, 86), (0, v1), (0, v2), (0, v3), (0, v4), (0, v5), (9, 0)] [] μ = g_M_against_26 E v1 v2 v3 v4 (zw (v5 + 1)) μ := by
    intro C E
    rfl
  exact key _ _
set_option maxRecDepth 100000 in
theorem e_M_against_89 (z : zZ) (d : Nat) (v1 : Int) (v2 : Int) (v5 : Int) (v6 : Int) (μ : Mu) : f_M_against_89 z d v1 v2 v5 v6 μ = f_M_against_96 z d v1 v2 v5 v6 v5 μ := by
  show mE z d q_M_against 89 [(2, 86), (0, v1), (0, v2), (9, 0), (9, 0), (0, v5), (0, v6)] [] μ = _
  rw [mE_bk (M := q_M_against) k_M_against.1 k_M_against.2 [16, 26, 51, 89, 96, 112] 400]
  have key : ∀ (C : Nat → List zv → Mu → mR) (E : Nat → List zv → List zv → Mu → mR), mbk C E q_M_against.1 q_M_against.2.1 z q_M_against.2.2.2 [16, 26, 51, 89, 96, 112] 400 (zfind q_M_against.2.2.2 89) [(2, 86), (0, v1), (0, v2), (9, 0), (9, 0), (0, v5), (0, v6)] [] μ = g_M_against_96 E v1 v2 v5 v6 v5 μ := by
    intro C E
    rfl
  exact key _ _
def g_M_beatenBy_5 (E : Nat → List zv → List zv → Mu → mR) (v1 : Int) (v2 : Int) (v3 : Int) (v4 : Int) (μ : Mu) : mR := E 5 [(2, 86), (0, v1), (0, v2), (0, v3), (0, v4), (9, 0)] [] μ
noncomputable def f_M_beatenBy_5 (z : zZ) (d : Nat) (v1 : Int) (v2 : Int) (v3 : Int) (v4 : Int) (μ : Mu) : mR := g_M_beatenBy_5 (fun pc ls st μ => mE z d q_M_beatenBy pc ls st μ) v1 v2 v3 v4 μ
def g_M_beatenBy_35 (E : Nat → List zv → List zv → Mu → mR) (v1 : Int) (v2 : Int) (v3 : Int) (v4 : Int) (μ : Mu) : mR := E 35 [(2, 86), (0, v1), (0, v2), (0, v3), (0, v4), (9, 0)] [] μ
noncomputable def f_M_beatenBy_35 (z : zZ) (d : Nat) (v1 : Int) (v2 : Int) (v3 : Int) (v4 : Int) (μ : Mu) : mR := g_M_beatenBy_35 (fun pc ls st μ => mE z d q_M_beatenBy pc ls st μ) v1 v2 v3 v4 μ
def g_M_beatenBy_38 (E : Nat → List zv → List zv → Mu → mR) (v1 : Int) (v2 : Int) (v3 : Int) (v4 : Int) (v5 : Int) (μ : Mu) : mR := E 38 [(2, 86), (0, v1), (0, v2), (0, v3), (0, v4), (0, v5)] [] μ
noncomputable def f_M_beatenBy_38 (z : zZ) (d : Nat) (v1 : Int) (v2 : Int) (v3 : Int) (v4 : Int) (v5 : Int) (μ : Mu) : mR := g_M_beatenBy_38 (fun pc ls st μ => mE z d q_M_beatenBy pc ls st μ) v1 v2 v3 v4 v5 μ
def g_M_beatenBy_76 (E : Nat → List zv → List zv → Mu → mR) (v1 : Int) (v2 : Int) (v3 : Int) (v4 : Int) (v5 : Int) (μ : Mu) : mR := E 76 [(2, 86), (0, v1), (0, v2), (0, v3), (0, v4), (0, v5)] [] μ
noncomputable def f_M_beatenBy_76 (z : zZ) (d : Nat) (v1 : Int) (v2 : Int) (v3 : Int) (v4 : Int) (v5 : Int) (μ : Mu) : mR := g_M_beatenBy_76 (fun pc ls st μ => mE z d q_M_beatenBy pc ls st μ) v1 v2 v3 v4 v5 μ
def g_M_beatenBy_82 (E : Nat → List zv → List zv → Mu → mR) (v1 : Int) (v2 : Int) (v3 : Int) (v4 : Int) (μ : Mu) : mR := E 82 [(2, 86), (0, v1), (0, v2), (0, v3), (0, v4), (9, 0)] [] μ
noncomputable def f_M_beatenBy_82 (z : zZ) (d : Nat) (v1 : Int) (v2 : Int) (v3 : Int) (v4 : Int) (μ : Mu) : mR := g_M_beatenBy_82 (fun pc ls st μ => mE z d q_M_beatenBy pc ls st μ) v1 v2 v3 v4 μ
theorem k_M_beatenBy : zprK q_M_beatenBy.2.2.2 = true ∧ zinc q_M_beatenBy.2.2.2 = true := by decide +kernel
set_option maxRecDepth 100000 in
theorem c_M_beatenBy (z : zZ) (d : Nat) (v1 : Int) (v2 : Int) (μ : Mu) : mC z (d + 1) 266 [(2, 86), (0, v1), (0, v2)] μ = f_M_beatenBy_5 z d v1 v2 0 0 μ := by
  rw [mC_succ q_M_beatenBy rfl rfl rfl]
  rw [mE_bk (M := q_M_beatenBy) k_M_beatenBy.1 k_M_beatenBy.2 [5, 35, 38, 76, 82] 400]
  have key : ∀ (C : Nat → List zv → Mu → mR) (E : Nat → List zv → List zv → Mu → mR), mbk C E q_M_beatenBy.1 q_M_beatenBy.2.1 z q_M_beatenBy.2.2.2 [5, 35, 38, 76, 82] 400 (zfind q_M_beatenBy.2.2.2 0) (zentry q_M_beatenBy.2.2.1 [(2, 86), (0, v1), (0, v2)]) [] μ = g_M_beatenBy_5 E v1 v2 0 0 μ := by
    intro C E
    rfl
  exact key _ _
set_option maxRecDepth 100000 in
theorem e_M_beatenBy_5 (z : zZ) (d : Nat) (v1 : Int) (v2 : Int) (v3 : Int) (v4 : Int) (μ : Mu) : f_M_beatenBy_5 z d v1 v2 v3 v4 μ = (mC z d 198 [(2, 86), (0, zw (1 - v1))] μ).bind fun q1 => (bif decide (q1.1 ≤ v4) then ((mC z d 236 [(0, v3)] q1.2).bind fun q2 => (some (q2.1, q2.2))) else ((mC z d 199 [(2, 86), (0, zw (1 - v1))] q1.2).bind fun q3 => ((mC z d 189 [(0, q3.1), (0, v4)] q3.2).bind fun q4 => (bif !decide (q4.1 = 0) then (f_M_beatenBy_35 z d v1 v2 v3 v4 q4.2) else (f_M_beatenBy_82 z d v1 v2 v3 v4 q4.2))))) := by
  show mE z d q_M_beatenBy 5 [(2, 86), (0, v1), (0, v2), (0, v3), (0, v4), (9, 0)] [] μ = _
  rw [mE_bk (M := q_M_beatenBy) k_M_beatenBy.1 k_M_beatenBy.2 [5, 35, 38, 76, 82] 400]
  have key : ∀ (C : Nat → List zv → Mu → mR) (E : Nat → List zv → List zv → Mu → mR), mbk C E q_M_beatenBy.1 q_M_beatenBy.2.1 z q_M_beatenBy.2.2.2 [5, 35, 38, 76, 82] 400 (zfind q_M_beatenBy.2.2.2 5) [(2, 86), (0, v1), (0, v2), (0, v3), (0, v4), (9, 0)] [] μ = (C 198 [(2, 86), (0, zw (1 - v1))] μ).bind fun q1 => (bif decide (q1.1 ≤ v4) then ((C 236 [(0, v3)] q1.2).bind fun q2 => (some (q2.1, q2.2))) else ((C 199 [(2, 86), (0, zw (1 - v1))] q1.2).bind fun q3 => ((C 189 [(0, q3.1), (0, v4)] q3.2).bind fun q4 => (bif !decide (q4.1 = 0) then (g_M_beatenBy_35 E v1 v2 v3 v4 q4.2) else (g_M_beatenBy_82 E v1 v2 v3 v4 q4.2))))) := by
    intro C E
    rfl
  exact key _ _
set_option maxRecDepth 100000 in
theorem e_M_beatenBy_35 (z : zZ) (d : Nat) (v1 : Int) (v2 : Int) (v3 : Int) (v4 : Int) (μ : Mu) : f_M_beatenBy_35 z d v1 v2 v3 v4 μ = f_M_beatenBy_38 z d v1 v2 v3 v4 0 μ := by
  show mE z d q_M_beatenBy 35 [(2, 86), (0, v1), (0, v2), (0, v3), (0, v4), (9, 0)] [] μ = _
  rw [mE_bk (M := q_M_beatenBy) k_M_beatenBy.1 k_M_beatenBy.2 [5, 35, 38, 76, 82] 400]
  have key : ∀ (C : Nat → List zv → Mu → mR) (E : Nat → List zv → List zv → Mu → mR), mbk C E q_M_beatenBy.1 q_M_beatenBy.2.1 z q_M_beatenBy.2.2.2 [5, 35, 38, 76, 82] 400 (zfind q_M_beatenBy.2.2.2 35) [(2, 86), (0, v1), (0, v2), (0, v3), (0, v4), (9, 0)] [] μ = g_M_beatenBy_38 E v1 v2 v3 v4 0 μ := by
    intro C E
    rfl
  exact key _ _
set_option maxRecDepth 100000 in
theorem e_M_beatenBy_82 (z : zZ) (d : Nat) (v1 : Int) (v2 : Int) (v3 : Int) (v4 : Int) (μ : Mu) : f_M_beatenBy_82 z d v1 v2 v3 v4 μ = f_M_beatenBy_5 z d v1 v2 v3 (zw (v4 + 1)) μ := by
  show mE z d q_M_beatenBy 82 [(2, 86), (0, v1), (0, v2), (0, v3), (0, v4), (9, 0)] [] μ = _
  rw [mE_bk (M := q_M_beatenBy) k_M_beatenBy.1 k_M_beatenBy.2 [5, 35, 38, 76, 82] 400]
  have key : ∀ (C : Nat → List zv → Mu → mR) (E : Nat → List zv → List zv → Mu → mR), mbk C E q_M_beatenBy.1 q_M_beatenBy.2.1 z q_M_beatenBy.2.2.2 [5, 35, 38, 76, 82] 400 (zfind q_M_beatenBy.2.2.2 82) [(2, 86), (0, v1), (0, v2), (0, v3), (0, v4), (9, 0)] [] μ = g_M_beatenBy_5 E v1 v2 v3 (zw (v4 + 1)) μ := by
    intro C E
    rfl
  exact key _ _
set_option maxRecDepth 100000 in
theorem e_M_beatenBy_38 (z : zZ) (d : Nat) (v1 : Int) (v2 : Int) (v3 : Int) (v4 : Int) (v5 : Int) (μ : Mu) : f_M_beatenBy_38 z d v1 v2 v3 v4 v5 μ = (mC z d 198 [(2, 86), (0, v1)] μ).bind fun q1 => (bif decide (q1.1 ≤ v5) then (f_M_beatenBy_82 z d v1 v2 v3 v4 q1.2) else ((mC z d 189 [(0, v2), (0, v5)] q1.2).bind fun q2 => (bif decide (q2.1 = 0) then (f_M_beatenBy_76 z d v1 v2 v3 v4 v5 q2.2) else ((mC z d 241 [(2, 86), (0, v1), (0, v5), (0, v4)] q2.2).bind fun q3 => (bif decide (q3.1 = 0) then (f_M_beatenBy_76 z d v1 v2 v3 v4 v5 q3.2) else (f_M_beatenBy_76 z d v1 v2 (z_or v3 (z_shl 1 v4)) v4 v5 q3.2)))))) := by
  show mE z d q_M_beatenBy 38 [(2, 86), (0, v1), (0, v2), (0, v3), (0, v4), (0, v5)] [] μ = _
  rw [mE_bk (M := q_M_beatenBy) k_M_beatenBy.1 k_M_beatenBy.2 [5, 35, 38, 76, 82] 400]
  have key : ∀ (C : Nat → List zv → Mu → mR) (E : Nat → List zv → List zv → Mu → mR), mbk C E q_M_beatenBy.1 q_M_beatenBy.2.1 z q_M_beatenBy.2.2.2 [5, 35, 38, 76, 82] 400 (zfind q_M_beatenBy.2.2.2 38) [(2, 86), (0, v1), (0, v2), (0, v3), (0, v4), (0, v5)] [] μ = (C 198 [(2, 86), (0, v1)] μ).bind fun q1 => (bif decide (q1.1 ≤ v5) then (g_M_beatenBy_82 E v1 v2 v3 v4 q1.2) else ((C 189 [(0, v2), (0, v5)] q1.2).bind fun q2 => (bif decide (q2.1 = 0) then (g_M_beatenBy_76 E v1 v2 v3 v4 v5 q2.2) else ((C 241 [(2, 86), (0, v1), (0, v5), (0, v4)] q2.2).bind fun q3 => (bif decide (q3.1 = 0) then (g_M_beatenBy_76 E v1 v2 v3 v4 v5 q3.2) else (g_M_beatenBy_76 E v1 v2 (z_or v3 (z_shl 1 v4)) v4 v5 q3.2)))))) := by
    intro C E
    rfl
  exact key _ _
set_option maxRecDepth 100000 in
theorem e_M_beatenBy_76 (z : zZ) (d : Nat) (v1 : Int) (v2 : Int) (v3 : Int) (v4 : Int) (v5 : Int) (μ : Mu) : f_M_beatenBy_76 z d v1 v2 v3 v4 v5 μ = f_M_beatenBy_38 z d v1 v2 v3 v4 (zw (v5 + 1)) μ := by
  show mE z d q_M_beatenBy 76 [(2, 86), (0, v1), (0, v2), (0, v3), (0, v4), (0, v5)] [] μ = _
  rw [mE_bk (M := q_M_beatenBy) k_M_beatenBy.1 k_M_beatenBy.2 [5, 35, 38, 76, 82] 400]
  have key : ∀ (C : Nat → List zv → Mu → mR) (E : Nat → List zv → List zv → Mu → mR), mbk C E q_M_beatenBy.1 q_M_beatenBy.2.1 z q_M_beatenBy.2.2.2 [5, 35, 38, 76, 82] 400 (zfind q_M_beatenBy.2.2.2 76) [(2, 86), (0, v1), (0, v2), (0, v3), (0, v4), (0, v5)] [] μ = g_M_beatenBy_38 E v1 v2 v3 v4 (zw (v5 + 1)) μ := by
    intro C E
    rfl
  exact key _ _
