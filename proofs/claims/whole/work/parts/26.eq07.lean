def g_M_byLaw_2 (E : Nat → List zv → List zv → Mu → mR) (v1 : Int) (v2 : Int) (v3 : Int) (μ : Mu) : mR := E 2 [(2, 86), (0, v1), (0, v2), (0, v3), (9, 0)] [] μ
noncomputable def f_M_byLaw_2 (z : zZ) (d : Nat) (v1 : Int) (v2 : Int) (v3 : Int) (μ : Mu) : mR := g_M_byLaw_2 (fun pc ls st μ => mE z d q_M_byLaw pc ls st μ) v1 v2 v3 μ
def g_M_byLaw_43 (E : Nat → List zv → List zv → Mu → mR) (v2 : Int) (v3 : Int) (μ : Mu) : mR := E 43 [(2, 86), (9, 0), (0, v2), (0, v3), (9, 0)] [] μ
noncomputable def f_M_byLaw_43 (z : zZ) (d : Nat) (v2 : Int) (v3 : Int) (μ : Mu) : mR := g_M_byLaw_43 (fun pc ls st μ => mE z d q_M_byLaw pc ls st μ) v2 v3 μ
def g_M_byLaw_70 (E : Nat → List zv → List zv → Mu → mR) (v2 : Int) (v4 : Int) (μ : Mu) : mR := E 70 [(9, 0), (9, 0), (0, v2), (9, 0), (0, v4)] [] μ
noncomputable def f_M_byLaw_70 (z : zZ) (d : Nat) (v2 : Int) (v4 : Int) (μ : Mu) : mR := g_M_byLaw_70 (fun pc ls st μ => mE z d q_M_byLaw pc ls st μ) v2 v4 μ
def g_M_byLaw_80 (E : Nat → List zv → List zv → Mu → mR) (v4 : Int) (μ : Mu) : mR := E 80 [(9, 0), (9, 0), (9, 0), (9, 0), (0, v4)] [] μ
noncomputable def f_M_byLaw_80 (z : zZ) (d : Nat) (v4 : Int) (μ : Mu) : mR := g_M_byLaw_80 (fun pc ls st μ => mE z d q_M_byLaw pc ls st μ) v4 μ
def g_M_byLaw_82 (E : Nat → List zv → List zv → Mu → mR) (v100 : Int) (μ : Mu) : mR := E 82 [(9, 0), (9, 0), (9, 0), (9, 0), (9, 0)] [(0, v100)] μ
noncomputable def f_M_byLaw_82 (z : zZ) (d : Nat) (v100 : Int) (μ : Mu) : mR := g_M_byLaw_82 (fun pc ls st μ => mE z d q_M_byLaw pc ls st μ) v100 μ
def g_M_byLaw_83 (E : Nat → List zv → List zv → Mu → mR) (v1 : Int) (v2 : Int) (v3 : Int) (μ : Mu) : mR := E 83 [(2, 86), (0, v1), (0, v2), (0, v3), (9, 0)] [] μ
noncomputable def f_M_byLaw_83 (z : zZ) (d : Nat) (v1 : Int) (v2 : Int) (v3 : Int) (μ : Mu) : mR := g_M_byLaw_83 (fun pc ls st μ => mE z d q_M_byLaw pc ls st μ) v1 v2 v3 μ
def g_M_byLaw_89 (E : Nat → List zv → List zv → Mu → mR) (μ : Mu) : mR := E 89 [(9, 0), (9, 0), (9, 0), (9, 0), (9, 0)] [] μ
noncomputable def f_M_byLaw_89 (z : zZ) (d : Nat) (μ : Mu) : mR := g_M_byLaw_89 (fun pc ls st μ => mE z d q_M_byLaw pc ls st μ) μ
theorem k_M_byLaw : zprK q_M_byLaw.2.2.2 = true ∧ zinc q_M_byLaw.2.2.2 = true := by decide +kernel
set_option maxRecDepth 100000 in
theorem c_M_byLaw (z : zZ) (d : Nat) (v1 : Int) (v2 : Int) (μ : Mu) : mC z (d + 1) 248 [(2, 86), (0, v1), (0, v2)] μ = f_M_byLaw_2 z d v1 v2 0 μ := by
  rw [mC_succ q_M_byLaw rfl rfl rfl]
  rw [mE_bk (M := q_M_byLaw) k_M_byLaw.1 k_M_byLaw.2 [2, 43, 70, 80, 82, 83, 89] 400]
  have key : ∀ (C : Nat → List zv → Mu → mR) (E : Nat → List zv → List zv → Mu → mR), mbk C E q_M_byLaw.1 q_M_byLaw.2.1 z q_M_byLaw.2.2.2 [2, 43, 70, 80, 82, 83, 89] 400 (zfind q_M_byLaw.2.2.2 0) (zentry q_M_byLaw.2.2.1 [(2, 86), (0, v1), (0, v2)]) [] μ = g_M_byLaw_2 E v1 v2 0 μ := by
    intro C E
    rfl
  exact key _ _
set_option maxRecDepth 100000 in
theorem e_M_byLaw_2 (z : zZ) (d : Nat) (v1 : Int) (v2 : Int) (v3 : Int) (μ : Mu) : f_M_byLaw_2 z d v1 v2 v3 μ = bif decide (μ 86 27 ≤ v3) then (f_M_byLaw_89 z d μ) else (gI v3 14 (bif !decide (μ 105 v3.toNat = v1) then (f_M_byLaw_83 z d v1 v2 v3 μ) else (gI v3 14 (gI v3 14 ((mC z d 249 [(2, 86), (0, μ 107 v3.toNat), (0, μ 108 v3.toNat)] μ).bind fun q1 => (bif decide (q1.1 = 1) then (f_M_byLaw_43 z d v2 v3 q1.2) else (f_M_byLaw_83 z d v1 v2 v3 q1.2))))))) := by
  show mE z d q_M_byLaw 2 [(2, 86), (0, v1), (0, v2), (0, v3), (9, 0)] [] μ = _
  rw [mE_bk (M := q_M_byLaw) k_M_byLaw.1 k_M_byLaw.2 [2, 43, 70, 80, 82, 83, 89] 400]
  have key : ∀ (C : Nat → List zv → Mu → mR) (E : Nat → List zv → List zv → Mu → mR), mbk C E q_M_byLaw.1 q_M_byLaw.2.1 z q_M_byLaw.2.2.2 [2, 43, 70, 80, 82, 83, 89] 400 (zfind q_M_byLaw.2.2.2 2) [(2, 86), (0, v1), (0, v2), (0, v3), (9, 0)] [] μ = bif decide (μ 86 27 ≤ v3) then (g_M_byLaw_89 E μ) else (gI v3 14 (bif !decide (μ 105 v3.toNat = v1) then (g_M_byLaw_83 E v1 v2 v3 μ) else (gI v3 14 (gI v3 14 ((C 249 [(2, 86), (0, μ 107 v3.toNat), (0, μ 108 v3.toNat)] μ).bind fun q1 => (bif decide (q1.1 = 1) then (g_M_byLaw_43 E v2 v3 q1.2) else (g_M_byLaw_83 E v1 v2 v3 q1.2))))))) := by
    intro C E
    rfl
  exact key _ _
set_option maxRecDepth 100000 in
theorem e_M_byLaw_89 (z : zZ) (d : Nat) (μ : Mu) : f_M_byLaw_89 z d μ = some (0, μ) := by
  show mE z d q_M_byLaw 89 [(9, 0), (9, 0), (9, 0), (9, 0), (9, 0)] [] μ = _
  rw [mE_bk (M := q_M_byLaw) k_M_byLaw.1 k_M_byLaw.2 [2, 43, 70, 80, 82, 83, 89] 400]
  have key : ∀ (C : Nat → List zv → Mu → mR) (E : Nat → List zv → List zv → Mu → mR), mbk C E q_M_byLaw.1 q_M_byLaw.2.1 z q_M_byLaw.2.2.2 [2, 43, 70, 80, 82, 83, 89] 400 (zfind q_M_byLaw.2.2.2 89) [(9, 0), (9, 0), (9, 0), (9, 0), (9, 0)] [] μ = some (0, μ) := by
    intro C E
    rfl
  exact key _ _
set_option maxRecDepth 100000 in
theorem e_M_byLaw_83 (z : zZ) (d : Nat) (v1 : Int) (v2 : Int) (v3 : Int) (μ : Mu) : f_M_byLaw_83 z d v1 v2 v3 μ = f_M_byLaw_2 z d v1 v2 (zw (v3 + 1)) μ := by
  show mE z d q_M_byLaw 83 [(2, 86), (0, v1), (0, v2), (0, v3), (9, 0)] [] μ = _
  rw [mE_bk (M := q_M_byLaw) k_M_byLaw.1 k_M_byLaw.2 [2, 43, 70, 80, 82, 83, 89] 400]
  have key : ∀ (C : Nat → List zv → Mu → mR) (E : Nat → List zv → List zv → Mu → mR), mbk C E q_M_byLaw.1 q_M_byLaw.2.1 z q_M_byLaw.2.2.2 [2, 43, 70, 80, 82, 83, 89] 400 (zfind q_M_byLaw.2.2.2 83) [(2, 86), (0, v1), (0, v2), (0, v3), (9, 0)] [] μ = g_M_byLaw_2 E v1 v2 (zw (v3 + 1)) μ := by
    intro C E
    rfl
  exact key _ _
set_option maxRecDepth 100000 in
theorem e_M_byLaw_43 (z : zZ) (d : Nat) (v2 : Int) (v3 : Int) (μ : Mu) : f_M_byLaw_43 z d v2 v3 μ = gI v3 14 (gI v3 14 ((mC z d 249 [(2, 86), (0, μ 106 v3.toNat), (0, μ 107 v3.toNat)] μ).bind fun q1 => (bif decide (0 ≤ q1.1) then (f_M_byLaw_70 z d v2 q1.1 q1.2) else (f_M_byLaw_82 z d 0 q1.2)))) := by
  show mE z d q_M_byLaw 43 [(2, 86), (9, 0), (0, v2), (0, v3), (9, 0)] [] μ = _
  rw [mE_bk (M := q_M_byLaw) k_M_byLaw.1 k_M_byLaw.2 [2, 43, 70, 80, 82, 83, 89] 400]
  have key : ∀ (C : Nat → List zv → Mu → mR) (E : Nat → List zv → List zv → Mu → mR), mbk C E q_M_byLaw.1 q_M_byLaw.2.1 z q_M_byLaw.2.2.2 [2, 43, 70, 80, 82, 83, 89] 400 (zfind q_M_byLaw.2.2.2 43) [(2, 86), (9, 0), (0, v2), (0, v3), (9, 0)] [] μ = gI v3 14 (gI v3 14 ((C 249 [(2, 86), (0, μ 106 v3.toNat), (0, μ 107 v3.toNat)] μ).bind fun q1 => (bif decide (0 ≤ q1.1) then (g_M_byLaw_70 E v2 q1.1 q1.2) else (g_M_byLaw_82 E 0 q1.2)))) := by
    intro C E
    rfl
  exact key _ _
set_option maxRecDepth 100000 in
theorem e_M_byLaw_70 (z : zZ) (d : Nat) (v2 : Int) (v4 : Int) (μ : Mu) : f_M_byLaw_70 z d v2 v4 μ = bif decide (v4 ≤ v2) then (f_M_byLaw_80 z d v4 μ) else (f_M_byLaw_82 z d v2 μ) := by
  show mE z d q_M_byLaw 70 [(9, 0), (9, 0), (0, v2), (9, 0), (0, v4)] [] μ = _
  rw [mE_bk (M := q_M_byLaw) k_M_byLaw.1 k_M_byLaw.2 [2, 43, 70, 80, 82, 83, 89] 400]
  have key : ∀ (C : Nat → List zv → Mu → mR) (E : Nat → List zv → List zv → Mu → mR), mbk C E q_M_byLaw.1 q_M_byLaw.2.1 z q_M_byLaw.2.2.2 [2, 43, 70, 80, 82, 83, 89] 400 (zfind q_M_byLaw.2.2.2 70) [(9, 0), (9, 0), (0, v2), (9, 0), (0, v4)] [] μ = bif decide (v4 ≤ v2) then (g_M_byLaw_80 E v4 μ) else (g_M_byLaw_82 E v2 μ) := by
    intro C E
    rfl
  exact key _ _
set_option maxRecDepth 100000 in
theorem e_M_byLaw_82 (z : zZ) (d : Nat) (v100 : Int) (μ : Mu) : f_M_byLaw_82 z d v100 μ = some (v100, μ) := by
  show mE z d q_M_byLaw 82 [(9, 0), (9, 0), (9, 0), (9, 0), (9, 0)] [(0, v100)] μ = _
  rw [mE_bk (M := q_M_byLaw) k_M_byLaw.1 k_M_byLaw.2 [2, 43, 70, 80, 82, 83, 89] 400]
  have key : ∀ (C : Nat → List zv → Mu → mR) (E : Nat → List zv → List zv → Mu → mR), mbk C E q_M_byLaw.1 q_M_byLaw.2.1 z q_M_byLaw.2.2.2 [2, 43, 70, 80, 82, 83, 89] 400 (zfind q_M_byLaw.2.2.2 82) [(9, 0), (9, 0), (9, 0), (9, 0), (9, 0)] [(0, v100)] μ = some (v100, μ) := by
    intro C E
    rfl
  exact key _ _
set_option maxRecDepth 100000 in
theorem e_M_byLaw_80 (z : zZ) (d : Nat) (v4 : Int) (μ : Mu) : f_M_byLaw_80 z d v4 μ = f_M_byLaw_82 z d v4 μ := by
  show mE z d q_M_byLaw 80 [(9, 0), (9, 0), (9, 0), (9, 0), (0, v4)] [] μ = _
  rw [mE_bk (M := q_M_byLaw) k_M_byLaw.1 k_M_byLaw.2 [2, 43, 70, 80, 82, 83, 89] 400]
  have key : ∀ (C : Nat → List zv → Mu → mR) (E : Nat → List zv → List zv → Mu → mR), mbk C E q_M_byLaw.1 q_M_byLaw.2.1 z q_M_byLaw.2.2.2 [2, 43, 70, 80, 82, 83, 89] 400 (zfind q_M_byLaw.2.2.2 80) [(9, 0), (9, 0), (9, 0), (9, 0), (0, v4)] [] μ = g_M_byLaw_82 E v4 μ := by
    intro C E
    rfl
  exact key _ _
def g_M_comesTo_16 (E : Nat → List zv → List zv → Mu → mR) (v2 : Int) (v3 : Int) (v4 : Int) (v5 : Int) (μ : Mu) : mR := E 16 [(2, 86), (9, 0), (0, v2), (0, v3), (0, v4), (0, v5), (9, 0), (9, 0)] [] μ
noncomputable def f_M_comesTo_16 (z : zZ) (d : Nat) (v2 : Int) (v3 : Int) (v4 : Int) (v5 : Int) (μ : Mu) : mR := g_M_comesTo_16 (fun pc ls st μ => mE z d q_M_comesTo pc ls st μ) v2 v3 v4 v5 μ
def g_M_comesTo_65 (E : Nat → List zv → List zv → Mu → mR) (v2 : Int) (v3 : Int) (v4 : Int) (v5 : Int) (v6 : Int) (v7 : Int) (μ : Mu) : mR := E 65 [(2, 86), (9, 0), (0, v2), (0, v3), (0, v4), (0, v5), (0, v6), (0, v7)] [] μ
noncomputable def f_M_comesTo_65 (z : zZ) (d : Nat) (v2 : Int) (v3 : Int) (v4 : Int) (v5 : Int) (v6 : Int) (v7 : Int) (μ : Mu) : mR := g_M_comesTo_65 (fun pc ls st μ => mE z d q_M_comesTo pc ls st μ) v2 v3 v4 v5 v6 v7 μ
def g_M_comesTo_80 (E : Nat → List zv → List zv → Mu → mR) (v2 : Int) (v3 : Int) (v4 : Int) (v5 : Int) (v7 : Int) (v101 : Int) (μ : Mu) : mR := E 80 [(2, 86), (9, 0), (0, v2), (0, v3), (0, v4), (0, v5), (9, 0), (0, v7)] [(0, v101), (2, 109)] μ
noncomputable def f_M_comesTo_80 (z : zZ) (d : Nat) (v2 : Int) (v3 : Int) (v4 : Int) (v5 : Int) (v7 : Int) (v101 : Int) (μ : Mu) : mR := g_M_comesTo_80 (fun pc ls st μ => mE z d q_M_comesTo pc ls st μ) v2 v3 v4 v5 v7 v101 μ
def g_M_comesTo_87 (E : Nat → List zv → List zv → Mu → mR) (v2 : Int) (v3 : Int) (v4 : Int) (v5 : Int) (v101 : Int) (v102 : Int) (μ : Mu) : mR := E 87 [(2, 86), (9, 0), (0, v2), (0, v3), (0, v4), (0, v5), (9, 0), (9, 0)] [(0, v102), (0, v101), (2, 109)] μ
noncomputable def f_M_comesTo_87 (z : zZ) (d : Nat) (v2 : Int) (v3 : Int) (v4 : Int) (v5 : Int) (v101 : Int) (v102 : Int) (μ : Mu) : mR := g_M_comesTo_87 (fun pc ls st μ => mE z d q_M_comesTo pc ls st μ) v2 v3 v4 v5 v101 v102 μ
def g_M_comesTo_95 (E : Nat → List zv → List zv → Mu → mR) (v2 : Int) (v3 : Int) (v4 : Int) (v5 : Int) (v6 : Int) (v7 : Int) (μ : Mu) : mR := E 95 [(2, 86), (9, 0), (0, v2), (0, v3), (0, v4), (0, v5), (0, v6), (0, v7)] [] μ
noncomputable def f_M_comesTo_95 (z : zZ) (d : Nat) (v2 : Int) (v3 : Int) (v4 : Int) (v5 : Int) (v6 : Int) (v7 : Int) (μ : Mu) : mR := g_M_comesTo_95 (fun pc ls st μ => mE z d q_M_comesTo pc ls st μ) v2 v3 v4 v5 v6 v7 μ
def g_M_comesTo_123 (E : Nat → List zv → List zv → Mu → mR) (v2 : Int) (v3 : Int) (v4 : Int) (v5 : Int) (v6 : Int) (v7 : Int) (μ : Mu) : mR := E 123 [(2, 86), (9, 0), (0, v2), (0, v3), (0, v4), (0, v5), (0, v6), (0, v7)] [] μ
noncomputable def f_M_comesTo_123 (z : zZ) (d : Nat) (v2 : Int) (v3 : Int) (v4 : Int) (v5 : Int) (v6 : Int) (v7 : Int) (μ : Mu) : mR := g_M_comesTo_123 (fun pc ls st μ => mE z d q_M_comesTo pc ls st μ) v2 v3 v4 v5 v6 v7 μ
def g_M_comesTo_137 (E : Nat → List zv → List zv → Mu → mR) (v2 : Int) (v3 : Int) (v4 : Int) (v5 : Int) (v6 : Int) (v7 : Int) (μ : Mu) : mR := E 137 [(2, 86), (9, 0), (0, v2), (0, v3), (0, v4), (0, v5), (0, v6), (0, v7)] [] μ
noncomputable def f_M_comesTo_137 (z : zZ) (d : Nat) (v2 : Int) (v3 : Int) (v4 : Int) (v5 : Int) (v6 : Int) (v7 : Int) (μ : Mu) : mR := g_M_comesTo_137 (fun pc ls st μ => mE z d q_M_comesTo pc ls st μ) v2 v3 v4 v5 v6 v7 μ
def g_M_comesTo_156 (E : Nat → List zv → List zv → Mu → mR) (v2 : Int) (v3 : Int) (v4 : Int) (v5 : Int) (v7 : Int) (v100 : Int) (μ : Mu) : mR := E 156 [(2, 86), (9, 0), (0, v2), (0, v3), (0, v4), (0, v5), (9, 0), (0, v7)] [(0, v100)] μ
noncomputable def f_M_comesTo_156 (z : zZ) (d : Nat) (v2 : Int) (v3 : Int) (v4 : Int) (v5 : Int) (v7 : Int) (v100 : Int) (μ : Mu) : mR := g_M_comesTo_156 (fun pc ls st μ => mE z d q_M_comesTo pc ls st μ) v2 v3 v4 v5 v7 v100 μ
def g_M_comesTo_157 (E : Nat → List zv → List zv → Mu → mR) (v2 : Int) (v3 : Int) (v4 : Int) (v5 : Int) (v7 : Int) (v100 : Int) (v101 : Int) (μ : Mu) : mR := E 157 [(2, 86), (9, 0), (0, v2), (0, v3), (0, v4), (0, v5), (9, 0), (0, v7)] [(0, v101), (0, v100)] μ
noncomputable def f_M_comesTo_157 (z : zZ) (d : Nat) (v2 : Int) (v3 : Int) (v4 : Int) (v5 : Int) (v7 : Int) (v100 : Int) (v101 : Int) (μ : Mu) : mR := g_M_comesTo_157 (fun pc ls st μ => mE z d q_M_comesTo pc ls st μ) v2 v3 v4 v5 v7 v100 v101 μ
def g_M_comesTo_170 (E : Nat → List zv → List zv → Mu → mR) (v2 : Int) (v3 : Int) (v4 : Int) (v5 : Int) (μ : Mu) : mR := E 170 [(2, 86), (9, 0), (0, v2), (0, v3), (0, v4), (0, v5), (9, 0), (9, 0)] [] μ
noncomputable def f_M_comesTo_170 (z : zZ) (d : Nat) (v2 : Int) (v3 : Int) (v4 : Int) (v5 : Int) (μ : Mu) : mR := g_M_comesTo_170 (fun pc ls st μ => mE z d q_M_comesTo pc ls st μ) v2 v3 v4 v5 μ
def g_M_comesTo_177 (E : Nat → List zv → List zv → Mu → mR) (v2 : Int) (v3 : Int) (v4 : Int) (v5 : Int) (v6 : Int) (μ : Mu) : mR := E 177 [(2, 86), (9, 0), (0, v2), (0, v3), (0, v4), (0, v5), (0, v6), (9, 0)] [] μ
noncomputable def f_M_comesTo_177 (z : zZ) (d : Nat) (v2 : Int) (v3 : Int) (v4 : Int) (v5 : Int) (v6 : Int) (μ : Mu) : mR := g_M_comesTo_177 (fun pc ls st μ => mE z d q_M_comesTo pc ls st μ) v2 v3 v4 v5 v6 μ
def g_M_comesTo_194 (E : Nat → List zv → List zv → Mu → mR) (v2 : Int) (v3 : Int) (v4 : Int) (v5 : Int) (v6 : Int) (μ : Mu) : mR := E 194 [(2, 86), (9, 0), (0, v2), (0, v3), (0, v4), (0, v5), (0, v6), (9, 0)] [] μ
noncomputable def f_M_comesTo_194 (z : zZ) (d : Nat) (v2 : Int) (v3 : Int) (v4 : Int) (v5 : Int) (v6 : Int) (μ : Mu) : mR := g_M_comesTo_194 (fun pc ls st μ => mE z d q_M_comesTo pc ls st μ) v2 v3 v4 v5 v6 μ
def g_M_comesTo_205 (E : Nat → List zv → List zv → Mu → mR) (v2 : Int) (v3 : Int) (v4 : Int) (v5 : Int) (v6 : Int) (μ : Mu) : mR := E 205 [(2, 86), (9, 0), (0, v2), (0, v3), (0, v4), (0, v5), (0, v6), (9, 0)] [] μ
noncomputable def f_M_comesTo_205 (z : zZ) (d : Nat) (v2 : Int) (v3 : Int) (v4 : Int) (v5 : Int) (v6 : Int) (μ : Mu) : mR := g_M_comesTo_205 (fun pc ls st μ => mE z d q_M_comesTo pc ls st μ) v2 v3 v4 v5 v6 μ
def g_M_comesTo_232 (E : Nat → List zv → List zv → Mu → mR) (v2 : Int) (v3 : Int) (v4 : Int) (v5 : Int) (μ : Mu) : mR := E 232 [(2, 86), (9, 0), (0, v2), (0, v3), (0, v4), (0, v5), (9, 0), (9, 0)] [] μ
noncomputable def f_M_comesTo_232 (z : zZ) (d : Nat) (v2 : Int) (v3 : Int) (v4 : Int) (v5 : Int) (μ : Mu) : mR := g_M_comesTo_232 (fun pc ls st μ => mE z d q_M_comesTo pc ls st μ) v2 v3 v4 v5 μ
def g_M_comesTo_235 (E : Nat → List zv → List zv → Mu → mR) (μ : Mu) : mR := E 235 [(2, 86), (9, 0), (9, 0), (9, 0), (9, 0), (9, 0), (9, 0), (9, 0)] [] μ
noncomputable def f_M_comesTo_235 (z : zZ) (d : Nat) (μ : Mu) : mR := g_M_comesTo_235 (fun pc ls st μ => mE z d q_M_comesTo pc ls st μ) μ
theorem k_M_comesTo : zprK q_M_comesTo.2.2.2 = true ∧ zinc q_M_comesTo.2.2.2 = true := by decide +kernel
set_option maxRecDepth 100000 in
theorem c_M_comesTo (z : zZ) (d : Nat) (v1 : Int) (v2 : Int) (μ : Mu) : mC z (d + 1) 249 [(2, 86), (0, v1), (0, v2)] μ = f_M_comesTo_16 z d v2 0 (zw (220 * (z_div v1 220))) v1 μ := by
  rw [mC_succ q_M_comesTo rfl rfl rfl]
  rw [mE_bk (M := q_M_comesTo) k_M_comesTo.1 k_M_comesTo.2 [16, 65, 80, 87, 95, 123, 137, 156, 157, 170, 177, 194, 205, 232, 235] 400]
  have key : ∀ (C : Nat → List zv → Mu → mR) (E : Nat → List zv → List zv → Mu → mR), mbk C E q_M_comesTo.1 q_M_comesTo.2.1 z q_M_comesTo.2.2.2 [16, 65, 80, 87, 95, 123, 137, 156, 157, 170, 177, 194, 205, 232, 235] 400 (zfind q_M_comesTo.2.2.2 0) (zentry q_M_comesTo.2.2.1 [(2, 86), (0, v1), (0, v2)]) [] μ = g_M_comesTo_16 E v2 0 (zw (220 * (z_div v1 220))) v1 μ := by
    intro C E
    rfl
  exact key _ _
set_option maxRecDepth 100000 in
theorem e_M_comesTo_16 (z : zZ) (d : Nat) (v2 : Int) (v3 : Int) (v4 : Int) (v5 : Int) (μ : Mu) : f_M_comesTo_16 z d v2 v3 v4 v5 μ = bif decide (v2 ≤ v5) then (f_M_comesTo_235 z d μ) else (gI v5 220 (gI v5 220 (bif decide (z_div (μ 104 v5.toNat) 1048576 = 0) then (f_M_comesTo_65 z d v2 v3 v4 (zw (v5 + 1)) (z_div (μ 104 v5.toNat) 1048576) (z_rem (μ 104 v5.toNat) 1048576) μ) else (bif !decide (z_div (μ 104 v5.toNat) 1048576 = 1) then (f_M_comesTo_95 z d v2 v3 v4 (zw (v5 + 1)) (z_div (μ 104 v5.toNat) 1048576) (z_rem (μ 104 v5.toNat) 1048576) μ) else (f_M_comesTo_65 z d v2 v3 v4 (zw (v5 + 1)) (z_div (μ 104 v5.toNat) 1048576) (z_rem (μ 104 v5.toNat) 1048576) μ))))) := by
  show mE z d q_M_comesTo 16 [(2, 86), (9, 0), (0, v2), (0, v3), (0, v4), (0, v5), (9, 0), (9, 0)] [] μ = _
  rw [mE_bk (M := q_M_comesTo) k_M_comesTo.1 k_M_comesTo.2 [16, 65, 80, 87, 95, 123, 137, 156, 157, 170, 177, 194, 205, 232, 235] 400]
  have key : ∀ (C : Nat → List zv → Mu → mR) (E : Nat → List zv → List zv → Mu → mR), mbk C E q_M_comesTo.1 q_M_comesTo.2.1 z q_M_comesTo.2.2.2 [16, 65, 80, 87, 95, 123, 137, 156, 157, 170, 177, 194, 205, 232, 235] 400 (zfind q_M_comesTo.2.2.2 16) [(2, 86), (9, 0), (0, v2), (0, v3), (0, v4), (0, v5), (9, 0), (9, 0)] [] μ = bif decide (v2 ≤ v5) then (g_M_comesTo_235 E μ) else (gI v5 220 (gI v5 220 (bif decide (z_div (μ 104 v5.toNat) 1048576 = 0) then (g_M_comesTo_65 E v2 v3 v4 (zw (v5 + 1)) (z_div (μ 104 v5.toNat) 1048576) (z_rem (μ 104 v5.toNat) 1048576) μ) else (bif !decide (z_div (μ 104 v5.toNat) 1048576 = 1) then (g_M_comesTo_95 E v2 v3 v4 (zw (v5 + 1)) (z_div (μ 104 v5.toNat) 1048576) (z_rem (μ 104 v5.toNat) 1048576) μ) else (g_M_comesTo_65 E v2 v3 v4 (zw (v5 + 1)) (z_div (μ 104 v5.toNat) 1048576) (z_rem (μ 104 v5.toNat) 1048576) μ))))) := by
    intro C E
    rfl
  exact key _ _
set_option maxRecDepth 100000 in
theorem e_M_comesTo_235 (z : zZ) (d : Nat) (μ : Mu) : f_M_comesTo_235 z d μ = some (μ 109 0, μ) := by
  show mE z d q_M_comesTo 235 [(2, 86), (9, 0), (9, 0), (9, 0), (9, 0), (9, 0), (9, 0), (9, 0)] [] μ = _
  rw [mE_bk (M := q_M_comesTo) k_M_comesTo.1 k_M_comesTo.2 [16, 65, 80, 87, 95, 123, 137, 156, 157, 170, 177, 194, 205, 232, 235] 400]
  have key : ∀ (C : Nat → List zv → Mu → mR) (E : Nat → List zv → List zv → Mu → mR), mbk C E q_M_comesTo.1 q_M_comesTo.2.1 z q_M_comesTo.2.2.2 [16, 65, 80, 87, 95, 123, 137, 156, 157, 170, 177, 194, 205, 232, 235] 400 (zfind q_M_comesTo.2.2.2 235) [(2, 86), (9, 0), (9, 0), (9, 0), (9, 0), (9, 0), (9, 0), (9, 0)] [] μ = some (μ 109 0, μ) := by
    intro C E
    rfl
  exact key _ _
set_option maxRecDepth 100000 in
theorem e_M_comesTo_65 (z : zZ) (d : Nat) (v2 : Int) (v3 : Int) (v4 : Int) (v5 : Int) (v6 : Int) (v7 : Int) (μ : Mu) : f_M_comesTo_65 z d v2 v3 v4 v5 v6 v7 μ = bif !decide (v6 = 0) then (f_M_comesTo_80 z d v2 v3 v4 v5 v7 v3 μ) else (f_M_comesTo_87 z d v2 v3 v4 v5 v3 v7 μ) := by
  show mE z d q_M_comesTo 65 [(2, 86), (9, 0), (0, v2), (0, v3), (0, v4), (0, v5), (0, v6), (0, v7)] [] μ = _
  rw [mE_bk (M := q_M_comesTo) k_M_comesTo.1 k_M_comesTo.2 [16, 65, 80, 87, 95, 123, 137, 156, 157, 170, 177, 194, 205, 232, 235] 400]
  have key : ∀ (C : Nat → List zv → Mu → mR) (E : Nat → List zv → List zv → Mu → mR), mbk C E q_M_comesTo.1 q_M_comesTo.2.1 z q_M_comesTo.2.2.2 [16, 65, 80, 87, 95, 123, 137, 156, 157, 170, 177, 194, 205, 232, 235] 400 (zfind q_M_comesTo.2.2.2 65) [(2, 86), (9, 0), (0, v2), (0, v3), (0, v4), (0, v5), (0, v6), (0, v7)] [] μ = bif !decide (v6 = 0) then (g_M_comesTo_80 E v2 v3 v4 v5 v7 v3 μ) else (g_M_comesTo_87 E v2 v3 v4 v5 v3 v7 μ) := by
    intro C E
    rfl
  exact key _ _
set_option maxRecDepth 100000 in
theorem e_M_comesTo_95 (z : zZ) (d : Nat) (v2 : Int) (v3 : Int) (v4 : Int) (v5 : Int) (v6 : Int) (v7 : Int) (μ : Mu) : f_M_comesTo_95 z d v2 v3 v4 v5 v6 v7 μ = bif !decide (v6 = 10) then (f_M_comesTo_123 z d v2 v3 v4 v5 v6 v7 μ) else (gI (zw (v3 - 1)) 220 (gI (zw (v3 - 1)) 220 (f_M_comesTo_232 z d v2 v3 v4 v5 (zup μ 109 ((zw (v3 - 1)).toNat) (zw (1 - (μ 109 ((zw (v3 - 1)).toNat)))))))) := by
  show mE z d q_M_comesTo 95 [(2, 86), (9, 0), (0, v2), (0, v3), (0, v4), (0, v5), (0, v6), (0, v7)] [] μ = _
  rw [mE_bk (M := q_M_comesTo) k_M_comesTo.1 k_M_comesTo.2 [16, 65, 80, 87, 95, 123, 137, 156, 157, 170, 177, 194, 205, 232, 235] 400]
  have key : ∀ (C : Nat → List zv → Mu → mR) (E : Nat → List zv → List zv → Mu → mR), mbk C E q_M_comesTo.1 q_M_comesTo.2.1 z q_M_comesTo.2.2.2 [16, 65, 80, 87, 95, 123, 137, 156, 157, 170, 177, 194, 205, 232, 235] 400 (zfind q_M_comesTo.2.2.2 95) [(2, 86), (9, 0), (0, v2), (0, v3), (0, v4), (0, v5), (0, v6), (0, v7)] [] μ = bif !decide (v6 = 10) then (g_M_comesTo_123 E v2 v3 v4 v5 v6 v7 μ) else (gI (zw (v3 - 1)) 220 (gI (zw (v3 - 1)) 220 (g_M_comesTo_232 E v2 v3 v4 v5 (zup μ 109 ((zw (v3 - 1)).toNat) (zw (1 - (μ 109 ((zw (v3 - 1)).toNat)))))))) := by
    intro C E
    rfl
  exact key _ _
set_option maxRecDepth 100000 in
theorem e_M_comesTo_80 (z : zZ) (d : Nat) (v2 : Int) (v3 : Int) (v4 : Int) (v5 : Int) (v7 : Int) (v101 : Int) (μ : Mu) : f_M_comesTo_80 z d v2 v3 v4 v5 v7 v101 μ = gI v7 10 (f_M_comesTo_87 z d v2 v3 v4 v5 v101 (μ 110 v7.toNat) μ) := by
  show mE z d q_M_comesTo 80 [(2, 86), (9, 0), (0, v2), (0, v3), (0, v4), (0, v5), (9, 0), (0, v7)] [(0, v101), (2, 109)] μ = _
  rw [mE_bk (M := q_M_comesTo) k_M_comesTo.1 k_M_comesTo.2 [16, 65, 80, 87, 95, 123, 137, 156, 157, 170, 177, 194, 205, 232, 235] 400]
  have key : ∀ (C : Nat → List zv → Mu → mR) (E : Nat → List zv → List zv → Mu → mR), mbk C E q_M_comesTo.1 q_M_comesTo.2.1 z q_M_comesTo.2.2.2 [16, 65, 80, 87, 95, 123, 137, 156, 157, 170, 177, 194, 205, 232, 235] 400 (zfind q_M_comesTo.2.2.2 80) [(2, 86), (9, 0), (0, v2), (0, v3), (0, v4), (0, v5), (9, 0), (0, v7)] [(0, v101), (2, 109)] μ = gI v7 10 (g_M_comesTo_87 E v2 v3 v4 v5 v101 (μ 110 v7.toNat) μ) := by
    intro C E
    rfl
  exact key _ _
set_option maxRecDepth 100000 in
theorem e_M_comesTo_87 (z : zZ) (d : Nat) (v2 : Int) (v3 : Int) (v4 : Int) (v5 : Int) (v101 : Int) (v102 : Int) (μ : Mu) : f_M_comesTo_87 z d v2 v3 v4 v5 v101 v102 μ = gI v101 220 (f_M_comesTo_232 z d v2 (zw (v3 + 1)) v4 v5 (zup μ 109 v101.toNat v102)) := by
  show mE z d q_M_comesTo 87 [(2, 86), (9, 0), (0, v2), (0, v3), (0, v4), (0, v5), (9, 0), (9, 0)] [(0, v102), (0, v101), (2, 109)] μ = _
  rw [mE_bk (M := q_M_comesTo) k_M_comesTo.1 k_M_comesTo.2 [16, 65, 80, 87, 95, 123, 137, 156, 157, 170, 177, 194, 205, 232, 235] 400]
  have key : ∀ (C : Nat → List zv → Mu → mR) (E : Nat → List zv → List zv → Mu → mR), mbk C E q_M_comesTo.1 q_M_comesTo.2.1 z q_M_comesTo.2.2.2 [16, 65, 80, 87, 95, 123, 137, 156, 157, 170, 177, 194, 205, 232, 235] 400 (zfind q_M_comesTo.2.2.2 87) [(2, 86), (9, 0), (0, v2), (0, v3), (0, v4), (0, v5), (9, 0), (9, 0)] [(0, v102), (0, v101), (2, 109)] μ = gI v101 220 (g_M_comesTo_232 E v2 (zw (v3 + 1)) v4 v5 (zup μ 109 v101.toNat v102)) := by
    intro C E
    rfl
  exact key _ _
set_option maxRecDepth 100000 in
theorem e_M_comesTo_123 (z : zZ) (d : Nat) (v2 : Int) (v3 : Int) (v4 : Int) (v5 : Int) (v6 : Int) (v7 : Int) (μ : Mu) : f_M_comesTo_123 z d v2 v3 v4 v5 v6 v7 μ = bif decide (v6 = 11) then (f_M_comesTo_137 z d v2 v3 v4 v5 v6 v7 μ) else (bif !decide (v6 = 12) then (f_M_comesTo_177 z d v2 v3 v4 v5 v6 μ) else (f_M_comesTo_137 z d v2 v3 v4 v5 v6 v7 μ)) := by
  show mE z d q_M_comesTo 123 [(2, 86), (9, 0), (0, v2), (0, v3), (0, v4), (0, v5), (0, v6), (0, v7)] [] μ = _
  rw [mE_bk (M := q_M_comesTo) k_M_comesTo.1 k_M_comesTo.2 [16, 65, 80, 87, 95, 123, 137, 156, 157, 170, 177, 194, 205, 232, 235] 400]
  have key : ∀ (C : Nat → List zv → Mu → mR) (E : Nat → List zv → List zv → Mu → mR), mbk C E q_M_comesTo.1 q_M_comesTo.2.1 z q_M_comesTo.2.2.2 [16, 65, 80, 87, 95, 123, 137, 156, 157, 170, 177, 194, 205, 232, 235] 400 (zfind q_M_comesTo.2.2.2 123) [(2, 86), (9, 0), (0, v2), (0, v3), (0, v4), (0, v5), (0, v6), (0, v7)] [] μ = bif decide (v6 = 11) then (g_M_comesTo_137 E v2 v3 v4 v5 v6 v7 μ) else (bif !decide (v6 = 12) then (g_M_comesTo_177 E v2 v3 v4 v5 v6 μ) else (g_M_comesTo_137 E v2 v3 v4 v5 v6 v7 μ)) := by
    intro C E
    rfl
  exact key _ _
set_option maxRecDepth 100000 in
theorem e_M_comesTo_232 (z : zZ) (d : Nat) (v2 : Int) (v3 : Int) (v4 : Int) (v5 : Int) (μ : Mu) : f_M_comesTo_232 z d v2 v3 v4 v5 μ = f_M_comesTo_16 z d v2 v3 v4 v5 μ := by
  show mE z d q_M_comesTo 232 [(2, 86), (9, 0), (0, v2), (0, v3), (0, v4), (0, v5), (9, 0), (9, 0)] [] μ = _
  rw [mE_bk (M := q_M_comesTo) k_M_comesTo.1 k_M_comesTo.2 [16, 65, 80, 87, 95, 123, 137, 156, 157, 170, 177, 194, 205, 232, 235] 400]
  have key : ∀ (C : Nat → List zv → Mu → mR) (E : Nat → List zv → List zv → Mu → mR), mbk C E q_M_comesTo.1 q_M_comesTo.2.1 z q_M_comesTo.2.2.2 [16, 65, 80, 87, 95, 123, 137, 156, 157, 170, 177, 194, 205, 232, 235] 400 (zfind q_M_comesTo.2.2.2 232) [(2, 86), (9, 0), (0, v2), (0, v3), (0, v4), (0, v5), (9, 0), (9, 0)] [] μ = g_M_comesTo_16 E v2 v3 v4 v5 μ := by
    intro C E
    rfl
  exact key _ _
set_option maxRecDepth 100000 in
theorem e_M_comesTo_137 (z : zZ) (d : Nat) (v2 : Int) (v3 : Int) (v4 : Int) (v5 : Int) (v6 : Int) (v7 : Int) (μ : Mu) : f_M_comesTo_137 z d v2 v3 v4 v5 v6 v7 μ = gI (zw (v3 - 1)) 220 (bif !decide (v6 = 12) then (f_M_comesTo_156 z d v2 v3 v4 v5 v7 (μ 109 ((zw (v3 - 1)).toNat)) μ) else (f_M_comesTo_157 z d v2 v3 v4 v5 v7 (μ 109 ((zw (v3 - 1)).toNat)) 1 μ)) := by
  show mE z d q_M_comesTo 137 [(2, 86), (9, 0), (0, v2), (0, v3), (0, v4), (0, v5), (0, v6), (0, v7)] [] μ = _
  rw [mE_bk (M := q_M_comesTo) k_M_comesTo.1 k_M_comesTo.2 [16, 65, 80, 87, 95, 123, 137, 156, 157, 170, 177, 194, 205, 232, 235] 400]
  have key : ∀ (C : Nat → List zv → Mu → mR) (E : Nat → List zv → List zv → Mu → mR), mbk C E q_M_comesTo.1 q_M_comesTo.2.1 z q_M_comesTo.2.2.2 [16, 65, 80, 87, 95, 123, 137, 156, 157, 170, 177, 194, 205, 232, 235] 400 (zfind q_M_comesTo.2.2.2 137) [(2, 86), (9, 0), (0, v2), (0, v3), (0, v4), (0, v5), (0, v6), (0, v7)] [] μ = gI (zw (v3 - 1)) 220 (bif !decide (v6 = 12) then (g_M_comesTo_156 E v2 v3 v4 v5 v7 (μ 109 ((zw (v3 - 1)).toNat)) μ) else (g_M_comesTo_157 E v2 v3 v4 v5 v7 (μ 109 ((zw (v3 - 1)).toNat)) 1 μ)) := by
    intro C E
    rfl
  exact key _ _
set_option maxRecDepth 100000 in
theorem e_M_comesTo_177 (z : zZ) (d : Nat) (v2 : Int) (v3 : Int) (v4 : Int) (v5 : Int) (v6 : Int) (μ : Mu) : f_M_comesTo_177 z d v2 v3 v4 v5 v6 μ = bif decide (v6 = 5) then (f_M_comesTo_194 z d v2 (zw (v3 - 1)) v4 v5 v6 μ) else (bif !decide (v6 = 6) then (f_M_comesTo_205 z d v2 (zw (v3 - 1)) v4 v5 v6 μ) else (f_M_comesTo_194 z d v2 (zw (v3 - 1)) v4 v5 v6 μ)) := by
  show mE z d q_M_comesTo 177 [(2, 86), (9, 0), (0, v2), (0, v3), (0, v4), (0, v5), (0, v6), (9, 0)] [] μ = _
  rw [mE_bk (M := q_M_comesTo) k_M_comesTo.1 k_M_comesTo.2 [16, 65, 80, 87, 95, 123, 137, 156, 157, 170, 177, 194, 205, 232, 235] 400]
  have key : ∀ (C : Nat → List zv → Mu → mR) (E : Nat → List zv → List zv → Mu → mR), mbk C E q_M_comesTo.1 q_M_comesTo.2.1 z q_M_comesTo.2.2.2 [16, 65, 80, 87, 95, 123, 137, 156, 157, 170, 177, 194, 205, 232, 235] 400 (zfind q_M_comesTo.2.2.2 177) [(2, 86), (9, 0), (0, v2), (0, v3), (0, v4), (0, v5), (0, v6), (9, 0)] [] μ = bif decide (v6 = 5) then (g_M_comesTo_194 E v2 (zw (v3 - 1)) v4 v5 v6 μ) else (bif !decide (v6 = 6) then (g_M_comesTo_205 E v2 (zw (v3 - 1)) v4 v5 v6 μ) else (g_M_comesTo_194 E v2 (zw (v3 - 1)) v4 v5 v6 μ)) := by
    intro C E
    rfl
  exact key _ _
set_option maxRecDepth 100000 in
theorem e_M_comesTo_156 (z : zZ) (d : Nat) (v2 : Int) (v3 : Int) (v4 : Int) (v5 : Int) (v7 : Int) (v100 : Int) (μ : Mu) : f_M_comesTo_156 z d v2 v3 v4 v5 v7 v100 μ = f_M_comesTo_157 z d v2 v3 v4 v5 v7 v100 0 μ := by
  show mE z d q_M_comesTo 156 [(2, 86), (9, 0), (0, v2), (0, v3), (0, v4), (0, v5), (9, 0), (0, v7)] [(0, v100)] μ = _
  rw [mE_bk (M := q_M_comesTo) k_M_comesTo.1 k_M_comesTo.2 [16, 65, 80, 87, 95, 123, 137, 156, 157, 170, 177, 194, 205, 232, 235] 400]
  have key : ∀ (C : Nat → List zv → Mu → mR) (E : Nat → List zv → List zv → Mu → mR), mbk C E q_M_comesTo.1 q_M_comesTo.2.1 z q_M_comesTo.2.2.2 [16, 65, 80, 87, 95, 123, 137, 156, 157, 170, 177, 194, 205, 232, 235] 400 (zfind q_M_comesTo.2.2.2 156) [(2, 86), (9, 0), (0, v2), (0, v3), (0, v4), (0, v5), (9, 0), (0, v7)] [(0, v100)] μ = g_M_comesTo_157 E v2 v3 v4 v5 v7 v100 0 μ := by
    intro C E
    rfl
  exact key _ _
set_option maxRecDepth 100000 in
theorem e_M_comesTo_157 (z : zZ) (d : Nat) (v2 : Int) (v3 : Int) (v4 : Int) (v5 : Int) (v7 : Int) (v100 : Int) (v101 : Int) (μ : Mu) : f_M_comesTo_157 z d v2 v3 v4 v5 v7 v100 v101 μ = bif !decide (v100 = v101) then (f_M_comesTo_170 z d v2 v3 v4 v5 μ) else (f_M_comesTo_232 z d v2 v3 v4 (zw (v4 + v7)) μ) := by
  show mE z d q_M_comesTo 157 [(2, 86), (9, 0), (0, v2), (0, v3), (0, v4), (0, v5), (9, 0), (0, v7)] [(0, v101), (0, v100)] μ = _
  rw [mE_bk (M := q_M_comesTo) k_M_comesTo.1 k_M_comesTo.2 [16, 65, 80, 87, 95, 123, 137, 156, 157, 170, 177, 194, 205, 232, 235] 400]
  have key : ∀ (C : Nat → List zv → Mu → mR) (E : Nat → List zv → List zv → Mu → mR), mbk C E q_M_comesTo.1 q_M_comesTo.2.1 z q_M_comesTo.2.2.2 [16, 65, 80, 87, 95, 123, 137, 156, 157, 170, 177, 194, 205, 232, 235] 400 (zfind q_M_comesTo.2.2.2 157) [(2, 86), (9, 0), (0, v2), (0, v3), (0, v4), (0, v5), (9, 0), (0, v7)] [(0, v101), (0, v100)] μ = bif !decide (v100 = v101) then (g_M_comesTo_170 E v2 v3 v4 v5 μ) else (g_M_comesTo_232 E v2 v3 v4 (zw (v4 + v7)) μ) := by
    intro C E
    rfl
  exact key _ _
set_option maxRecDepth 100000 in
theorem e_M_comesTo_194 (z : zZ) (d : Nat) (v2 : Int) (v3 : Int) (v4 : Int) (v5 : Int) (v6 : Int) (μ : Mu) : f_M_comesTo_194 z d v2 v3 v4 v5 v6 μ = gI v3 220 (bif !decide (μ 109 v3.toNat = 0) then (f_M_comesTo_205 z d v2 v3 v4 v5 v6 μ) else (some (0, μ))) := by
  show mE z d q_M_comesTo 194 [(2, 86), (9, 0), (0, v2), (0, v3), (0, v4), (0, v5), (0, v6), (9, 0)] [] μ = _
  rw [mE_bk (M := q_M_comesTo) k_M_comesTo.1 k_M_comesTo.2 [16, 65, 80, 87, 95, 123, 137, 156, 157, 170, 177, 194, 205, 232, 235] 400]
  have key : ∀ (C : Nat → List zv → Mu → mR) (E : Nat → List zv → List zv → Mu → mR), mbk C E q_M_comesTo.1 q_M_comesTo.2.1 z q_M_comesTo.2.2.2 [16, 65, 80, 87, 95, 123, 137, 156, 157, 170, 177, 194, 205, 232, 235] 400 (zfind q_M_comesTo.2.2.2 194) [(2, 86), (9, 0), (0, v2), (0, v3), (0, v4), (0, v5), (0, v6), (9, 0)] [] μ = gI v3 220 (bif !decide (μ 109 v3.toNat = 0) then (g_M_comesTo_205 E v2 v3 v4 v5 v6 μ) else (some (0, μ))) := by
    intro C E
    rfl
  exact key _ _
set_option maxRecDepth 100000 in
theorem e_M_comesTo_205 (z : zZ) (d : Nat) (v2 : Int) (v3 : Int) (v4 : Int) (v5 : Int) (v6 : Int) (μ : Mu) : f_M_comesTo_205 z d v2 v3 v4 v5 v6 μ = gI (zw (v3 - 1)) 220 (gI v3 220 ((mC z d 250 [(0, v6), (0, μ 109 ((zw (v3 - 1)).toNat)), (0, μ 109 v3.toNat)] μ).bind fun q1 => (gI (zw (v3 - 1)) 220 (f_M_comesTo_232 z d v2 v3 v4 v5 (zup q1.2 109 ((zw (v3 - 1)).toNat) q1.1))))) := by
  show mE z d q_M_comesTo 205 [(2, 86), (9, 0), (0, v2), (0, v3), (0, v4), (0, v5), (0, v6), (9, 0)] [] μ = _
  rw [mE_bk (M := q_M_comesTo) k_M_comesTo.1 k_M_comesTo.2 [16, 65, 80, 87, 95, 123, 137, 156, 157, 170, 177, 194, 205, 232, 235] 400]
  have key : ∀ (C : Nat → List zv → Mu → mR) (E : Nat → List zv → List zv → Mu → mR), mbk C E q_M_comesTo.1 q_M_comesTo.2.1 z q_M_comesTo.2.2.2 [16, 65, 80, 87, 95, 123, 137, 156, 157, 170, 177, 194, 205, 232, 235] 400 (zfind q_M_comesTo.2.2.2 205) [(2, 86), (9, 0), (0, v2), (0, v3), (0, v4), (0, v5), (0, v6), (9, 0)] [] μ = gI (zw (v3 - 1)) 220 (gI v3 220 ((C 250 [(0, v6), (0, μ 109 ((zw (v3 - 1)).toNat)), (0, μ 109 v3.toNat)] μ).bind fun q1 => (gI (zw (v3 - 1)) 220 (g_M_comesTo_232 E v2 v3 v4 v5 (zup q1.2 109 ((zw (v3 - 1)).toNat) q1.1))))) := by
    intro C E
    rfl
  exact key _ _
set_option maxRecDepth 100000 in
theorem e_M_comesTo_170 (z : zZ) (d : Nat) (v2 : Int) (v3 : Int) (v4 : Int) (v5 : Int) (μ : Mu) : f_M_comesTo_170 z d v2 v3 v4 v5 μ = f_M_comesTo_232 z d v2 (zw (v3 - 1)) v4 v5 μ := by
  show mE z d q_M_comesTo 170 [(2, 86), (9, 0), (0, v2), (0, v3), (0, v4), (0, v5), (9, 0), (9, 0)] [] μ = _
  rw [mE_bk (M := q_M_comesTo) k_M_comesTo.1 k_M_comesTo.2 [16, 65, 80, 87, 95, 123, 137, 156, 157, 170, 177, 194, 205, 232, 235] 400]
  have key : ∀ (C : Nat → List zv → Mu → mR) (E : Nat → List zv → List zv → Mu → mR), mbk C E q_M_comesTo.1 q_M_comesTo.2.1 z q_M_comesTo.2.2.2 [16, 65, 80, 87, 95, 123, 137, 156, 157, 170, 177, 194, 205, 232, 235] 400 (zfind q_M_comesTo.2.2.2 170) [(2, 86), (9, 0), (0, v2), (0, v3), (0, v4), (0, v5), (9, 0), (9, 0)] [] μ = g_M_comesTo_232 E v2 (zw (v3 - 1)) v4 v5 μ := by
    intro C E
    rfl
  exact key _ _
