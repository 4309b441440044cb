def g_Fig_fillMust_10 (E : Nat → List zv → List zv → Mu → mR) (v1 : Int) (μ : Mu) : mR := E 10 [(2, 58), (0, v1), (9, 0), (9, 0)] [] μ
noncomputable def f_Fig_fillMust_10 (z : zZ) (d : Nat) (v1 : Int) (μ : Mu) : mR := g_Fig_fillMust_10 (fun pc ls st μ => mE z d q_Fig_fillMust pc ls st μ) v1 μ
def g_Fig_fillMust_62 (E : Nat → List zv → List zv → Mu → mR) (μ : Mu) : mR := E 62 [(9, 0), (9, 0), (9, 0), (9, 0)] [] μ
noncomputable def f_Fig_fillMust_62 (z : zZ) (d : Nat) (μ : Mu) : mR := g_Fig_fillMust_62 (fun pc ls st μ => mE z d q_Fig_fillMust pc ls st μ) μ
theorem k_Fig_fillMust : zprK q_Fig_fillMust.2.2.2 = true ∧ zinc q_Fig_fillMust.2.2.2 = true := by decide +kernel
set_option maxRecDepth 100000 in
theorem c_Fig_fillMust (z : zZ) (d : Nat) (μ : Mu) : mC z (d + 1) 142 [(2, 58)] μ = (mC z d 5 [(2, 61), (0, 0)] μ).bind fun q1 => (f_Fig_fillMust_10 z d 0 q1.2) := by
  rw [mC_succ q_Fig_fillMust rfl rfl rfl]
  rw [mE_bk (M := q_Fig_fillMust) k_Fig_fillMust.1 k_Fig_fillMust.2 [10, 62] 400]
  have key : ∀ (C : Nat → List zv → Mu → mR) (E : Nat → List zv → List zv → Mu → mR), mbk C E q_Fig_fillMust.1 q_Fig_fillMust.2.1 z q_Fig_fillMust.2.2.2 [10, 62] 400 (zfind q_Fig_fillMust.2.2.2 0) (zentry q_Fig_fillMust.2.2.1 [(2, 58)]) [] μ = (C 5 [(2, 61), (0, 0)] μ).bind fun q1 => (g_Fig_fillMust_10 E 0 q1.2) := by
    intro C E
    rfl
  exact key _ _
set_option maxRecDepth 100000 in
theorem e_Fig_fillMust_10 (z : zZ) (d : Nat) (v1 : Int) (μ : Mu) : f_Fig_fillMust_10 z d v1 μ = bif decide (μ 58 0 ≤ v1) then (f_Fig_fillMust_62 z d μ) else (bif decide (24 ≤ v1) then (f_Fig_fillMust_62 z d μ) else (gI v1 24 (gI v1 24 (gI (z_rem (μ 59 v1.toNat) 12) 12 (gI (z_rem (μ 59 v1.toNat) 12) 12 (f_Fig_fillMust_10 z d (zw (v1 + 1)) (zup μ 61 ((z_rem (μ 59 v1.toNat) 12).toNat) (z_or (μ 61 ((z_rem (μ 59 v1.toNat) 12).toNat)) (z_shl 1 (z_div (μ 59 v1.toNat) 12)))))))))) := by
  show mE z d q_Fig_fillMust 10 [(2, 58), (0, v1), (9, 0), (9, 0)] [] μ = _
  rw [mE_bk (M := q_Fig_fillMust) k_Fig_fillMust.1 k_Fig_fillMust.2 [10, 62] 400]
  have key : ∀ (C : Nat → List zv → Mu → mR) (E : Nat → List zv → List zv → Mu → mR), mbk C E q_Fig_fillMust.1 q_Fig_fillMust.2.1 z q_Fig_fillMust.2.2.2 [10, 62] 400 (zfind q_Fig_fillMust.2.2.2 10) [(2, 58), (0, v1), (9, 0), (9, 0)] [] μ = bif decide (μ 58 0 ≤ v1) then (g_Fig_fillMust_62 E μ) else (bif decide (24 ≤ v1) then (g_Fig_fillMust_62 E μ) else (gI v1 24 (gI v1 24 (gI (z_rem (μ 59 v1.toNat) 12) 12 (gI (z_rem (μ 59 v1.toNat) 12) 12 (g_Fig_fillMust_10 E (zw (v1 + 1)) (zup μ 61 ((z_rem (μ 59 v1.toNat) 12).toNat) (z_or (μ 61 ((z_rem (μ 59 v1.toNat) 12).toNat)) (z_shl 1 (z_div (μ 59 v1.toNat) 12)))))))))) := by
    intro C E
    rfl
  exact key _ _
set_option maxRecDepth 100000 in
theorem e_Fig_fillMust_62 (z : zZ) (d : Nat) (μ : Mu) : f_Fig_fillMust_62 z d μ = some (0, μ) := by
  show mE z d q_Fig_fillMust 62 [(9, 0), (9, 0), (9, 0), (9, 0)] [] μ = _
  rw [mE_bk (M := q_Fig_fillMust) k_Fig_fillMust.1 k_Fig_fillMust.2 [10, 62] 400]
  have key : ∀ (C : Nat → List zv → Mu → mR) (E : Nat → List zv → List zv → Mu → mR), mbk C E q_Fig_fillMust.1 q_Fig_fillMust.2.1 z q_Fig_fillMust.2.2.2 [10, 62] 400 (zfind q_Fig_fillMust.2.2.2 62) [(9, 0), (9, 0), (9, 0), (9, 0)] [] μ = some (0, μ) := by
    intro C E
    rfl
  exact key _ _
def g_Fig_fillBegun_17 (E : Nat → List zv → List zv → Mu → mR) (v1 : Int) (μ : Mu) : mR := E 17 [(2, 58), (0, v1), (9, 0), (9, 0), (9, 0)] [] μ
noncomputable def f_Fig_fillBegun_17 (z : zZ) (d : Nat) (v1 : Int) (μ : Mu) : mR := g_Fig_fillBegun_17 (fun pc ls st μ => mE z d q_Fig_fillBegun pc ls st μ) v1 μ
def g_Fig_fillBegun_33 (E : Nat → List zv → List zv → Mu → mR) (v1 : Int) (v2 : Int) (v3 : Int) (μ : Mu) : mR := E 33 [(2, 58), (0, v1), (0, v2), (0, v3), (9, 0)] [] μ
noncomputable def f_Fig_fillBegun_33 (z : zZ) (d : Nat) (v1 : Int) (v2 : Int) (v3 : Int) (μ : Mu) : mR := g_Fig_fillBegun_33 (fun pc ls st μ => mE z d q_Fig_fillBegun pc ls st μ) v1 v2 v3 μ
def g_Fig_fillBegun_79 (E : Nat → List zv → List zv → Mu → mR) (v1 : Int) (v2 : Int) (v3 : Int) (μ : Mu) : mR := E 79 [(2, 58), (0, v1), (0, v2), (0, v3), (9, 0)] [] μ
noncomputable def f_Fig_fillBegun_79 (z : zZ) (d : Nat) (v1 : Int) (v2 : Int) (v3 : Int) (μ : Mu) : mR := g_Fig_fillBegun_79 (fun pc ls st μ => mE z d q_Fig_fillBegun pc ls st μ) v1 v2 v3 μ
def g_Fig_fillBegun_85 (E : Nat → List zv → List zv → Mu → mR) (v1 : Int) (μ : Mu) : mR := E 85 [(2, 58), (0, v1), (9, 0), (9, 0), (9, 0)] [] μ
noncomputable def f_Fig_fillBegun_85 (z : zZ) (d : Nat) (v1 : Int) (μ : Mu) : mR := g_Fig_fillBegun_85 (fun pc ls st μ => mE z d q_Fig_fillBegun pc ls st μ) v1 μ
theorem k_Fig_fillBegun : zprK q_Fig_fillBegun.2.2.2 = true ∧ zinc q_Fig_fillBegun.2.2.2 = true := by decide +kernel
set_option maxRecDepth 100000 in
theorem c_Fig_fillBegun (z : zZ) (d : Nat) (μ : Mu) : mC z (d + 1) 143 [(2, 58)] μ = (mC z d 5 [(2, 62), (0, 0)] μ).bind fun q1 => (f_Fig_fillBegun_17 z d 0 (zup q1.2 62 0 1)) := by
  rw [mC_succ q_Fig_fillBegun rfl rfl rfl]
  rw [mE_bk (M := q_Fig_fillBegun) k_Fig_fillBegun.1 k_Fig_fillBegun.2 [17, 33, 79, 85] 400]
  have key : ∀ (C : Nat → List zv → Mu → mR) (E : Nat → List zv → List zv → Mu → mR), mbk C E q_Fig_fillBegun.1 q_Fig_fillBegun.2.1 z q_Fig_fillBegun.2.2.2 [17, 33, 79, 85] 400 (zfind q_Fig_fillBegun.2.2.2 0) (zentry q_Fig_fillBegun.2.2.1 [(2, 58)]) [] μ = (C 5 [(2, 62), (0, 0)] μ).bind fun q1 => (g_Fig_fillBegun_17 E 0 (zup q1.2 62 0 1)) := by
    intro C E
    rfl
  exact key _ _
set_option maxRecDepth 100000 in
theorem e_Fig_fillBegun_17 (z : zZ) (d : Nat) (v1 : Int) (μ : Mu) : f_Fig_fillBegun_17 z d v1 μ = bif decide (4096 ≤ v1) then (some (0, μ)) else (gI v1 4096 (f_Fig_fillBegun_33 z d v1 (μ 62 v1.toNat) 0 μ)) := by
  show mE z d q_Fig_fillBegun 17 [(2, 58), (0, v1), (9, 0), (9, 0), (9, 0)] [] μ = _
  rw [mE_bk (M := q_Fig_fillBegun) k_Fig_fillBegun.1 k_Fig_fillBegun.2 [17, 33, 79, 85] 400]
  have key : ∀ (C : Nat → List zv → Mu → mR) (E : Nat → List zv → List zv → Mu → mR), mbk C E q_Fig_fillBegun.1 q_Fig_fillBegun.2.1 z q_Fig_fillBegun.2.2.2 [17, 33, 79, 85] 400 (zfind q_Fig_fillBegun.2.2.2 17) [(2, 58), (0, v1), (9, 0), (9, 0), (9, 0)] [] μ = bif decide (4096 ≤ v1) then (some (0, μ)) else (gI v1 4096 (g_Fig_fillBegun_33 E v1 (μ 62 v1.toNat) 0 μ)) := by
    intro C E
    rfl
  exact key _ _
set_option maxRecDepth 100000 in
theorem e_Fig_fillBegun_33 (z : zZ) (d : Nat) (v1 : Int) (v2 : Int) (v3 : Int) (μ : Mu) : f_Fig_fillBegun_33 z d v1 v2 v3 μ = bif decide (12 ≤ v3) then (f_Fig_fillBegun_85 z d v1 μ) else (bif decide (v2 = 0) then (f_Fig_fillBegun_85 z d v1 μ) else (gI v3 12 (bif !decide (z_or (z_and v1 (z_shl 1 v3)) (z_and (μ 61 v3.toNat) (z_xor v1 ((-1)))) = 0) then (f_Fig_fillBegun_79 z d v1 v2 v3 μ) else (gI (z_or v1 (z_shl 1 v3)) 4096 (gI (z_or v1 (z_shl 1 v3)) 4096 (f_Fig_fillBegun_79 z d v1 v2 v3 (zup μ 62 ((z_or v1 (z_shl 1 v3)).toNat) (zw ((μ 62 ((z_or v1 (z_shl 1 v3)).toNat)) + v2))))))))) := by
  show mE z d q_Fig_fillBegun 33 [(2, 58), (0, v1), (0, v2), (0, v3), (9, 0)] [] μ = _
  rw [mE_bk (M := q_Fig_fillBegun) k_Fig_fillBegun.1 k_Fig_fillBegun.2 [17, 33, 79, 85] 400]
  have key : ∀ (C : Nat → List zv → Mu → mR) (E : Nat → List zv → List zv → Mu → mR), mbk C E q_Fig_fillBegun.1 q_Fig_fillBegun.2.1 z q_Fig_fillBegun.2.2.2 [17, 33, 79, 85] 400 (zfind q_Fig_fillBegun.2.2.2 33) [(2, 58), (0, v1), (0, v2), (0, v3), (9, 0)] [] μ = bif decide (12 ≤ v3) then (g_Fig_fillBegun_85 E v1 μ) else (bif decide (v2 = 0) then (g_Fig_fillBegun_85 E v1 μ) else (gI v3 12 (bif !decide (z_or (z_and v1 (z_shl 1 v3)) (z_and (μ 61 v3.toNat) (z_xor v1 ((-1)))) = 0) then (g_Fig_fillBegun_79 E v1 v2 v3 μ) else (gI (z_or v1 (z_shl 1 v3)) 4096 (gI (z_or v1 (z_shl 1 v3)) 4096 (g_Fig_fillBegun_79 E v1 v2 v3 (zup μ 62 ((z_or v1 (z_shl 1 v3)).toNat) (zw ((μ 62 ((z_or v1 (z_shl 1 v3)).toNat)) + v2))))))))) := by
    intro C E
    rfl
  exact key _ _
set_option maxRecDepth 100000 in
theorem e_Fig_fillBegun_85 (z : zZ) (d : Nat) (v1 : Int) (μ : Mu) : f_Fig_fillBegun_85 z d v1 μ = f_Fig_fillBegun_17 z d (zw (v1 + 1)) μ := by
  show mE z d q_Fig_fillBegun 85 [(2, 58), (0, v1), (9, 0), (9, 0), (9, 0)] [] μ = _
  rw [mE_bk (M := q_Fig_fillBegun) k_Fig_fillBegun.1 k_Fig_fillBegun.2 [17, 33, 79, 85] 400]
  have key : ∀ (C : Nat → List zv → Mu → mR) (E : Nat → List zv → List zv → Mu → mR), mbk C E q_Fig_fillBegun.1 q_Fig_fillBegun.2.1 z q_Fig_fillBegun.2.2.2 [17, 33, 79, 85] 400 (zfind q_Fig_fillBegun.2.2.2 85) [(2, 58), (0, v1), (9, 0), (9, 0), (9, 0)] [] μ = g_Fig_fillBegun_17 E (zw (v1 + 1)) μ := by
    intro C E
    rfl
  exact key _ _
set_option maxRecDepth 100000 in
theorem e_Fig_fillBegun_79 (z : zZ) (d : Nat) (v1 : Int) (v2 : Int) (v3 : Int) (μ : Mu) : f_Fig_fillBegun_79 z d v1 v2 v3 μ = f_Fig_fillBegun_33 z d v1 v2 (zw (v3 + 1)) μ := by
  show mE z d q_Fig_fillBegun 79 [(2, 58), (0, v1), (0, v2), (0, v3), (9, 0)] [] μ = _
  rw [mE_bk (M := q_Fig_fillBegun) k_Fig_fillBegun.1 k_Fig_fillBegun.2 [17, 33, 79, 85] 400]
  have key : ∀ (C : Nat → List zv → Mu → mR) (E : Nat → List zv → List zv → Mu → mR), mbk C E q_Fig_fillBegun.1 q_Fig_fillBegun.2.1 z q_Fig_fillBegun.2.2.2 [17, 33, 79, 85] 400 (zfind q_Fig_fillBegun.2.2.2 79) [(2, 58), (0, v1), (0, v2), (0, v3), (9, 0)] [] μ = g_Fig_fillBegun_33 E v1 v2 (zw (v3 + 1)) μ := by
    intro C E
    rfl
  exact key _ _
def g_Fig_firstRowAt_7 (E : Nat → List zv → List zv → Mu → mR) (v1 : Int) (v2 : Int) (v3 : Int) (v4 : Int) (μ : Mu) : mR := E 7 [(2, 58), (0, v1), (0, v2), (0, v3), (0, v4), (9, 0)] [] μ
noncomputable def f_Fig_firstRowAt_7 (z : zZ) (d : Nat) (v1 : Int) (v2 : Int) (v3 : Int) (v4 : Int) (μ : Mu) : mR := g_Fig_firstRowAt_7 (fun pc ls st μ => mE z d q_Fig_firstRowAt pc ls st μ) v1 v2 v3 v4 μ
def g_Fig_firstRowAt_25 (E : Nat → List zv → List zv → Mu → mR) (v1 : Int) (v2 : Int) (v3 : Int) (v4 : Int) (v5 : Int) (μ : Mu) : mR := E 25 [(2, 58), (0, v1), (0, v2), (0, v3), (0, v4), (0, v5)] [] μ
noncomputable def f_Fig_firstRowAt_25 (z : zZ) (d : Nat) (v1 : Int) (v2 : Int) (v3 : Int) (v4 : Int) (v5 : Int) (μ : Mu) : mR := g_Fig_firstRowAt_25 (fun pc ls st μ => mE z d q_Fig_firstRowAt pc ls st μ) v1 v2 v3 v4 v5 μ
def g_Fig_firstRowAt_61 (E : Nat → List zv → List zv → Mu → mR) (v1 : Int) (v2 : Int) (v3 : Int) (v4 : Int) (v5 : Int) (μ : Mu) : mR := E 61 [(2, 58), (0, v1), (0, v2), (0, v3), (0, v4), (0, v5)] [] μ
noncomputable def f_Fig_firstRowAt_61 (z : zZ) (d : Nat) (v1 : Int) (v2 : Int) (v3 : Int) (v4 : Int) (v5 : Int) (μ : Mu) : mR := g_Fig_firstRowAt_61 (fun pc ls st μ => mE z d q_Fig_firstRowAt pc ls st μ) v1 v2 v3 v4 v5 μ
def g_Fig_firstRowAt_67 (E : Nat → List zv → List zv → Mu → mR) (v1 : Int) (v2 : Int) (v3 : Int) (v4 : Int) (μ : Mu) : mR := E 67 [(2, 58), (0, v1), (0, v2), (0, v3), (0, v4), (9, 0)] [] μ
noncomputable def f_Fig_firstRowAt_67 (z : zZ) (d : Nat) (v1 : Int) (v2 : Int) (v3 : Int) (v4 : Int) (μ : Mu) : mR := g_Fig_firstRowAt_67 (fun pc ls st μ => mE z d q_Fig_firstRowAt pc ls st μ) v1 v2 v3 v4 μ
def g_Fig_firstRowAt_78 (E : Nat → List zv → List zv → Mu → mR) (v1 : Int) (v2 : Int) (v3 : Int) (v4 : Int) (μ : Mu) : mR := E 78 [(2, 58), (0, v1), (0, v2), (0, v3), (0, v4), (9, 0)] [] μ
noncomputable def f_Fig_firstRowAt_78 (z : zZ) (d : Nat) (v1 : Int) (v2 : Int) (v3 : Int) (v4 : Int) (μ : Mu) : mR := g_Fig_firstRowAt_78 (fun pc ls st μ => mE z d q_Fig_firstRowAt pc ls st μ) v1 v2 v3 v4 μ
def g_Fig_firstRowAt_84 (E : Nat → List zv → List zv → Mu → mR) (v3 : Int) (μ : Mu) : mR := E 84 [(9, 0), (9, 0), (9, 0), (0, v3), (9, 0), (9, 0)] [] μ
noncomputable def f_Fig_firstRowAt_84 (z : zZ) (d : Nat) (v3 : Int) (μ : Mu) : mR := g_Fig_firstRowAt_84 (fun pc ls st μ => mE z d q_Fig_firstRowAt pc ls st μ) v3 μ
theorem k_Fig_firstRowAt : zprK q_Fig_firstRowAt.2.2.2 = true ∧ zinc q_Fig_firstRowAt.2.2.2 = true := by decide +kernel
set_option maxRecDepth 100000 in
theorem c_Fig_firstRowAt (z : zZ) (d : Nat) (v1 : Int) (μ : Mu) : mC z (d + 1) 144 [(2, 58), (0, v1)] μ = f_Fig_firstRowAt_7 z d v1 0 ((-1)) 0 μ := by
  rw [mC_succ q_Fig_firstRowAt rfl rfl rfl]
  rw [mE_bk (M := q_Fig_firstRowAt) k_Fig_firstRowAt.1 k_Fig_firstRowAt.2 [7, 25, 61, 67, 78, 84] 400]
  have key : ∀ (C : Nat → List zv → Mu → mR) (E : Nat → List zv → List zv → Mu → mR), mbk C E q_Fig_firstRowAt.1 q_Fig_firstRowAt.2.1 z q_Fig_firstRowAt.2.2.2 [7, 25, 61, 67, 78, 84] 400 (zfind q_Fig_firstRowAt.2.2.2 0) (zentry q_Fig_firstRowAt.2.2.1 [(2, 58), (0, v1)]) [] μ = g_Fig_firstRowAt_7 E v1 0 ((-1)) 0 μ := by
    intro C E
    rfl
  exact key _ _
set_option maxRecDepth 100000 in
theorem e_Fig_firstRowAt_7 (z : zZ) (d : Nat) (v1 : Int) (v2 : Int) (v3 : Int) (v4 : Int) (μ : Mu) : f_Fig_firstRowAt_7 z d v1 v2 v3 v4 μ = bif decide (v1 < v4) then (f_Fig_firstRowAt_84 z d v3 μ) else (bif decide (12 ≤ v4) then (f_Fig_firstRowAt_84 z d v3 μ) else (f_Fig_firstRowAt_25 z d v1 v2 ((-1)) v4 0 μ)) := by
  show mE z d q_Fig_firstRowAt 7 [(2, 58), (0, v1), (0, v2), (0, v3), (0, v4), (9, 0)] [] μ = _
  rw [mE_bk (M := q_Fig_firstRowAt) k_Fig_firstRowAt.1 k_Fig_firstRowAt.2 [7, 25, 61, 67, 78, 84] 400]
  have key : ∀ (C : Nat → List zv → Mu → mR) (E : Nat → List zv → List zv → Mu → mR), mbk C E q_Fig_firstRowAt.1 q_Fig_firstRowAt.2.1 z q_Fig_firstRowAt.2.2.2 [7, 25, 61, 67, 78, 84] 400 (zfind q_Fig_firstRowAt.2.2.2 7) [(2, 58), (0, v1), (0, v2), (0, v3), (0, v4), (9, 0)] [] μ = bif decide (v1 < v4) then (g_Fig_firstRowAt_84 E v3 μ) else (bif decide (12 ≤ v4) then (g_Fig_firstRowAt_84 E v3 μ) else (g_Fig_firstRowAt_25 E v1 v2 ((-1)) v4 0 μ)) := by
    intro C E
    rfl
  exact key _ _
set_option maxRecDepth 100000 in
theorem e_Fig_firstRowAt_84 (z : zZ) (d : Nat) (v3 : Int) (μ : Mu) : f_Fig_firstRowAt_84 z d v3 μ = some (v3, μ) := by
  show mE z d q_Fig_firstRowAt 84 [(9, 0), (9, 0), (9, 0), (0, v3), (9, 0), (9, 0)] [] μ = _
  rw [mE_bk (M := q_Fig_firstRowAt) k_Fig_firstRowAt.1 k_Fig_firstRowAt.2 [7, 25, 61, 67, 78, 84] 400]
  have key : ∀ (C : Nat → List zv → Mu → mR) (E : Nat → List zv → List zv → Mu → mR), mbk C E q_Fig_firstRowAt.1 q_Fig_firstRowAt.2.1 z q_Fig_firstRowAt.2.2.2 [7, 25, 61, 67, 78, 84] 400 (zfind q_Fig_firstRowAt.2.2.2 84) [(9, 0), (9, 0), (9, 0), (0, v3), (9, 0), (9, 0)] [] μ = some (v3, μ) := by
    intro C E
    rfl
  exact key _ _
set_option maxRecDepth 100000 in
theorem e_Fig_firstRowAt_25 (z : zZ) (d : Nat) (v1 : Int) (v2 : Int) (v3 : Int) (v4 : Int) (v5 : Int) (μ : Mu) : f_Fig_firstRowAt_25 z d v1 v2 v3 v4 v5 μ = bif decide (12 ≤ v5) then (f_Fig_firstRowAt_67 z d v1 v2 v3 v4 μ) else (bif !decide (v3 = (-1)) then (f_Fig_firstRowAt_67 z d v1 v2 v3 v4 μ) else (gI v5 12 (bif !decide (z_or (z_and v2 (z_shl 1 v5)) (z_and (μ 61 v5.toNat) (z_xor v2 ((-1)))) = 0) then (f_Fig_firstRowAt_61 z d v1 v2 v3 v4 v5 μ) else (f_Fig_firstRowAt_61 z d v1 v2 v5 v4 v5 μ)))) := by
  show mE z d q_Fig_firstRowAt 25 [(2, 58), (0, v1), (0, v2), (0, v3), (0, v4), (0, v5)] [] μ = _
  rw [mE_bk (M := q_Fig_firstRowAt) k_Fig_firstRowAt.1 k_Fig_firstRowAt.2 [7, 25, 61, 67, 78, 84] 400]
  have key : ∀ (C : Nat → List zv → Mu → mR) (E : Nat → List zv → List zv → Mu → mR), mbk C E q_Fig_firstRowAt.1 q_Fig_firstRowAt.2.1 z q_Fig_firstRowAt.2.2.2 [7, 25, 61, 67, 78, 84] 400 (zfind q_Fig_firstRowAt.2.2.2 25) [(2, 58), (0, v1), (0, v2), (0, v3), (0, v4), (0, v5)] [] μ = bif decide (12 ≤ v5) then (g_Fig_firstRowAt_67 E v1 v2 v3 v4 μ) else (bif !decide (v3 = (-1)) then (g_Fig_firstRowAt_67 E v1 v2 v3 v4 μ) else (gI v5 12 (bif !decide (z_or (z_and v2 (z_shl 1 v5)) (z_and (μ 61 v5.toNat) (z_xor v2 ((-1)))) = 0) then (g_Fig_firstRowAt_61 E v1 v2 v3 v4 v5 μ) else (g_Fig_firstRowAt_61 E v1 v2 v5 v4 v5 μ)))) := by
    intro C E
    rfl
  exact key _ _
set_option maxRecDepth 100000 in
theorem e_Fig_firstRowAt_67 (z : zZ) (d : Nat) (v1 : Int) (v2 : Int) (v3 : Int) (v4 : Int) (μ : Mu) : f_Fig_firstRowAt_67 z d v1 v2 v3 v4 μ = bif decide (v3 = (-1)) then (f_Fig_firstRowAt_78 z d v1 v2 v3 v4 μ) else (f_Fig_firstRowAt_78 z d v1 (z_or v2 (z_shl 1 v3)) v3 v4 μ) := by
  show mE z d q_Fig_firstRowAt 67 [(2, 58), (0, v1), (0, v2), (0, v3), (0, v4), (9, 0)] [] μ = _
  rw [mE_bk (M := q_Fig_firstRowAt) k_Fig_firstRowAt.1 k_Fig_firstRowAt.2 [7, 25, 61, 67, 78, 84] 400]
  have key : ∀ (C : Nat → List zv → Mu → mR) (E : Nat → List zv → List zv → Mu → mR), mbk C E q_Fig_firstRowAt.1 q_Fig_firstRowAt.2.1 z q_Fig_firstRowAt.2.2.2 [7, 25, 61, 67, 78, 84] 400 (zfind q_Fig_firstRowAt.2.2.2 67) [(2, 58), (0, v1), (0, v2), (0, v3), (0, v4), (9, 0)] [] μ = bif decide (v3 = (-1)) then (g_Fig_firstRowAt_78 E v1 v2 v3 v4 μ) else (g_Fig_firstRowAt_78 E v1 (z_or v2 (z_shl 1 v3)) v3 v4 μ) := by
    intro C E
    rfl
  exact key _ _
set_option maxRecDepth 100000 in
theorem e_Fig_firstRowAt_61 (z : zZ) (d : Nat) (v1 : Int) (v2 : Int) (v3 : Int) (v4 : Int) (v5 : Int) (μ : Mu) : f_Fig_firstRowAt_61 z d v1 v2 v3 v4 v5 μ = f_Fig_firstRowAt_25 z d v1 v2 v3 v4 (zw (v5 + 1)) μ := by
  show mE z d q_Fig_firstRowAt 61 [(2, 58), (0, v1), (0, v2), (0, v3), (0, v4), (0, v5)] [] μ = _
  rw [mE_bk (M := q_Fig_firstRowAt) k_Fig_firstRowAt.1 k_Fig_firstRowAt.2 [7, 25, 61, 67, 78, 84] 400]
  have key : ∀ (C : Nat → List zv → Mu → mR) (E : Nat → List zv → List zv → Mu → mR), mbk C E q_Fig_firstRowAt.1 q_Fig_firstRowAt.2.1 z q_Fig_firstRowAt.2.2.2 [7, 25, 61, 67, 78, 84] 400 (zfind q_Fig_firstRowAt.2.2.2 61) [(2, 58), (0, v1), (0, v2), (0, v3), (0, v4), (0, v5)] [] μ = g_Fig_firstRowAt_25 E v1 v2 v3 v4 (zw (v5 + 1)) μ := by
    intro C E
    rfl
  exact key _ _
set_option maxRecDepth 100000 in
theorem e_Fig_firstRowAt_78 (z : zZ) (d : Nat) (v1 : Int) (v2 : Int) (v3 : Int) (v4 : Int) (μ : Mu) : f_Fig_firstRowAt_78 z d v1 v2 v3 v4 μ = f_Fig_firstRowAt_7 z d v1 v2 v3 (zw (v4 + 1)) μ := by
  show mE z d q_Fig_firstRowAt 78 [(2, 58), (0, v1), (0, v2), (0, v3), (0, v4), (9, 0)] [] μ = _
  rw [mE_bk (M := q_Fig_firstRowAt) k_Fig_firstRowAt.1 k_Fig_firstRowAt.2 [7, 25, 61, 67, 78, 84] 400]
  have key : ∀ (C : Nat → List zv → Mu → mR) (E : Nat → List zv → List zv → Mu → mR), mbk C E q_Fig_firstRowAt.1 q_Fig_firstRowAt.2.1 z q_Fig_firstRowAt.2.2.2 [7, 25, 61, 67, 78, 84] 400 (zfind q_Fig_firstRowAt.2.2.2 78) [(2, 58), (0, v1), (0, v2), (0, v3), (0, v4), (9, 0)] [] μ = g_Fig_firstRowAt_7 E v1 v2 v3 (zw (v4 + 1)) μ := by
    intro C E
    rfl
  exact key _ _
def g_W_ahead_19 (E : Nat → List zv → List zv → Mu → mR) (μ : Mu) : mR := E 19 [(9, 0), (9, 0), (9, 0)] [] μ
noncomputable def f_W_ahead_19 (z : zZ) (d : Nat) (μ : Mu) : mR := g_W_ahead_19 (fun pc ls st μ => mE z d q_W_ahead pc ls st μ) μ
theorem k_W_ahead : zprK q_W_ahead.2.2.2 = true ∧ zinc q_W_ahead.2.2.2 = true := by decide +kernel
set_option maxRecDepth 100000 in
theorem c_W_ahead (z : zZ) (d : Nat) (v1 : Int) (v2 : Int) (μ : Mu) : mC z (d + 1) 145 [(2, 0), (0, v1), (0, v2)] μ = (mC z d 13 [(0, v1)] μ).bind fun q1 => (bif decide (q1.1 = 0) then (f_W_ahead_19 z d q1.2) else ((mC z d 13 [(0, v2)] q1.2).bind fun q2 => (bif decide (q2.1 = 0) then (f_W_ahead_19 z d q2.2) else (bif !decide (v1 = v2) then ((mC z d 146 [(2, 58), (0, v1), (0, v2)] q2.2).bind fun q3 => (some (q3.1, q3.2))) else (f_W_ahead_19 z d q2.2))))) := by
  rw [mC_succ q_W_ahead rfl rfl rfl]
  rw [mE_bk (M := q_W_ahead) k_W_ahead.1 k_W_ahead.2 [19] 400]
  have key : ∀ (C : Nat → List zv → Mu → mR) (E : Nat → List zv → List zv → Mu → mR), mbk C E q_W_ahead.1 q_W_ahead.2.1 z q_W_ahead.2.2.2 [19] 400 (zfind q_W_ahead.2.2.2 0) (zentry q_W_ahead.2.2.1 [(2, 0), (0, v1), (0, v2)]) [] μ = (C 13 [(0, v1)] μ).bind fun q1 => (bif decide (q1.1 = 0) then (g_W_ahead_19 E q1.2) else ((C 13 [(0, v2)] q1.2).bind fun q2 => (bif decide (q2.1 = 0) then (g_W_ahead_19 E q2.2) else (bif !decide (v1 = v2) then ((C 146 [(2, 58), (0, v1), (0, v2)] q2.2).bind fun q3 => (some (q3.1, q3.2))) else (g_W_ahead_19 E q2.2))))) := by
    intro C E
    rfl
  exact key _ _
set_option maxRecDepth 100000 in
theorem e_W_ahead_19 (z : zZ) (d : Nat) (μ : Mu) : f_W_ahead_19 z d μ = some ((-1), μ) := by
  show mE z d q_W_ahead 19 [(9, 0), (9, 0), (9, 0)] [] μ = _
  rw [mE_bk (M := q_W_ahead) k_W_ahead.1 k_W_ahead.2 [19] 400]
  have key : ∀ (C : Nat → List zv → Mu → mR) (E : Nat → List zv → List zv → Mu → mR), mbk C E q_W_ahead.1 q_W_ahead.2.1 z q_W_ahead.2.2.2 [19] 400 (zfind q_W_ahead.2.2.2 19) [(9, 0), (9, 0), (9, 0)] [] μ = some ((-1), μ) := by
    intro C E
    rfl
  exact key _ _
def g_Fig_rowsWith_25 (E : Nat → List zv → List zv → Mu → mR) (v1 : Int) (v2 : Int) (v3 : Int) (μ : Mu) : mR := E 25 [(2, 58), (0, v1), (0, v2), (1, v3), (9, 0)] [] μ
noncomputable def f_Fig_rowsWith_25 (z : zZ) (d : Nat) (v1 : Int) (v2 : Int) (v3 : Int) (μ : Mu) : mR := g_Fig_rowsWith_25 (fun pc ls st μ => mE z d q_Fig_rowsWith pc ls st μ) v1 v2 v3 μ
def g_Fig_rowsWith_57 (E : Nat → List zv → List zv → Mu → mR) (v100 : Int) (μ : Mu) : mR := E 57 [(9, 0), (9, 0), (9, 0), (9, 0), (9, 0)] [(1, v100)] μ
noncomputable def f_Fig_rowsWith_57 (z : zZ) (d : Nat) (v100 : Int) (μ : Mu) : mR := g_Fig_rowsWith_57 (fun pc ls st μ => mE z d q_Fig_rowsWith pc ls st μ) v100 μ
theorem k_Fig_rowsWith : zprK q_Fig_rowsWith.2.2.2 = true ∧ zinc q_Fig_rowsWith.2.2.2 = true := by decide +kernel
set_option maxRecDepth 100000 in
theorem c_Fig_rowsWith (z : zZ) (d : Nat) (v1 : Int) (v2 : Int) (μ : Mu) : mC z (d + 1) 146 [(2, 58), (0, v1), (0, v2)] μ = (mC z d 141 [(2, 58)] μ).bind fun q1 => (bif !decide (q1.2 58 9 = 0) then (f_Fig_rowsWith_25 z d v1 v2 q1.1 q1.2) else ((mC z d 147 [(2, 58)] q1.2).bind fun q2 => ((mC z d 148 [(2, 58)] q2.2).bind fun q3 => (f_Fig_rowsWith_25 z d v1 v2 q1.1 (zup q3.2 58 9 1))))) := by
  rw [mC_succ q_Fig_rowsWith rfl rfl rfl]
  rw [mE_bk (M := q_Fig_rowsWith) k_Fig_rowsWith.1 k_Fig_rowsWith.2 [25, 57] 400]
  have key : ∀ (C : Nat → List zv → Mu → mR) (E : Nat → List zv → List zv → Mu → mR), mbk C E q_Fig_rowsWith.1 q_Fig_rowsWith.2.1 z q_Fig_rowsWith.2.2.2 [25, 57] 400 (zfind q_Fig_rowsWith.2.2.2 0) (zentry q_Fig_rowsWith.2.2.1 [(2, 58), (0, v1), (0, v2)]) [] μ = (C 141 [(2, 58)] μ).bind fun q1 => (bif !decide (q1.2 58 9 = 0) then (g_Fig_rowsWith_25 E v1 v2 q1.1 q1.2) else ((C 147 [(2, 58)] q1.2).bind fun q2 => ((C 148 [(2, 58)] q2.2).bind fun q3 => (g_Fig_rowsWith_25 E v1 v2 q1.1 (zup q3.2 58 9 1))))) := by
    intro C E
    rfl
  exact key _ _
set_option maxRecDepth 100000 in
theorem e_Fig_rowsWith_25 (z : zZ) (d : Nat) (v1 : Int) (v2 : Int) (v3 : Int) (μ : Mu) : f_Fig_rowsWith_25 z d v1 v2 v3 μ = bif decide (v2 ≤ v1) then (gI (zw ((zw (v2 * 12)) + v1)) 144 (f_Fig_rowsWith_57 z d (zwl (v3 - (μ 64 ((zw ((zw (v2 * 12)) + v1)).toNat)))) μ)) else (gI (zw ((zw (v1 * 12)) + v2)) 144 (f_Fig_rowsWith_57 z d (μ 64 ((zw ((zw (v1 * 12)) + v2)).toNat)) μ)) := by
  show mE z d q_Fig_rowsWith 25 [(2, 58), (0, v1), (0, v2), (1, v3), (9, 0)] [] μ = _
  rw [mE_bk (M := q_Fig_rowsWith) k_Fig_rowsWith.1 k_Fig_rowsWith.2 [25, 57] 400]
  have key : ∀ (C : Nat → List zv → Mu → mR) (E : Nat → List zv → List zv → Mu → mR), mbk C E q_Fig_rowsWith.1 q_Fig_rowsWith.2.1 z q_Fig_rowsWith.2.2.2 [25, 57] 400 (zfind q_Fig_rowsWith.2.2.2 25) [(2, 58), (0, v1), (0, v2), (1, v3), (9, 0)] [] μ = bif decide (v2 ≤ v1) then (gI (zw ((zw (v2 * 12)) + v1)) 144 (g_Fig_rowsWith_57 E (zwl (v3 - (μ 64 ((zw ((zw (v2 * 12)) + v1)).toNat)))) μ)) else (gI (zw ((zw (v1 * 12)) + v2)) 144 (g_Fig_rowsWith_57 E (μ 64 ((zw ((zw (v1 * 12)) + v2)).toNat)) μ)) := by
    intro C E
    rfl
  exact key _ _
set_option maxRecDepth 100000 in
theorem e_Fig_rowsWith_57 (z : zZ) (d : Nat) (v100 : Int) (μ : Mu) : f_Fig_rowsWith_57 z d v100 μ = some (v100, μ) := by
  show mE z d q_Fig_rowsWith 57 [(9, 0), (9, 0), (9, 0), (9, 0), (9, 0)] [(1, v100)] μ = _
  rw [mE_bk (M := q_Fig_rowsWith) k_Fig_rowsWith.1 k_Fig_rowsWith.2 [25, 57] 400]
  have key : ∀ (C : Nat → List zv → Mu → mR) (E : Nat → List zv → List zv → Mu → mR), mbk C E q_Fig_rowsWith.1 q_Fig_rowsWith.2.1 z q_Fig_rowsWith.2.2.2 [25, 57] 400 (zfind q_Fig_rowsWith.2.2.2 57) [(9, 0), (9, 0), (9, 0), (9, 0), (9, 0)] [(1, v100)] μ = some (v100, μ) := by
    intro C E
    rfl
  exact key _ _
def g_Fig_fillEnded_21 (E : Nat → List zv → List zv → Mu → mR) (v1 : Int) (μ : Mu) : mR := E 21 [(2, 58), (0, v1), (9, 0), (9, 0), (9, 0)] [] μ
noncomputable def f_Fig_fillEnded_21 (z : zZ) (d : Nat) (v1 : Int) (μ : Mu) : mR := g_Fig_fillEnded_21 (fun pc ls st μ => mE z d q_Fig_fillEnded pc ls st μ) v1 μ
def g_Fig_fillEnded_29 (E : Nat → List zv → List zv → Mu → mR) (v1 : Int) (v2 : Int) (v3 : Int) (μ : Mu) : mR := E 29 [(2, 58), (0, v1), (0, v2), (0, v3), (9, 0)] [] μ
noncomputable def f_Fig_fillEnded_29 (z : zZ) (d : Nat) (v1 : Int) (v2 : Int) (v3 : Int) (μ : Mu) : mR := g_Fig_fillEnded_29 (fun pc ls st μ => mE z d q_Fig_fillEnded pc ls st μ) v1 v2 v3 μ
def g_Fig_fillEnded_79 (E : Nat → List zv → List zv → Mu → mR) (v1 : Int) (v2 : Int) (v3 : Int) (μ : Mu) : mR := E 79 [(2, 58), (0, v1), (0, v2), (0, v3), (9, 0)] [] μ
noncomputable def f_Fig_fillEnded_79 (z : zZ) (d : Nat) (v1 : Int) (v2 : Int) (v3 : Int) (μ : Mu) : mR := g_Fig_fillEnded_79 (fun pc ls st μ => mE z d q_Fig_fillEnded pc ls st μ) v1 v2 v3 μ
def g_Fig_fillEnded_85 (E : Nat → List zv → List zv → Mu → mR) (v1 : Int) (v2 : Int) (μ : Mu) : mR := E 85 [(2, 58), (0, v1), (0, v2), (9, 0), (9, 0)] [] μ
noncomputable def f_Fig_fillEnded_85 (z : zZ) (d : Nat) (v1 : Int) (v2 : Int) (μ : Mu) : mR := g_Fig_fillEnded_85 (fun pc ls st μ => mE z d q_Fig_fillEnded pc ls st μ) v1 v2 μ
theorem k_Fig_fillEnded : zprK q_Fig_fillEnded.2.2.2 = true ∧ zinc q_Fig_fillEnded.2.2.2 = true := by decide +kernel
set_option maxRecDepth 100000 in
theorem c_Fig_fillEnded (z : zZ) (d : Nat) (μ : Mu) : mC z (d + 1) 147 [(2, 58)] μ = (mC z d 5 [(2, 63), (0, 0)] μ).bind fun q1 => (f_Fig_fillEnded_21 z d 4094 (zup q1.2 63 4095 1)) := by
  rw [mC_succ q_Fig_fillEnded rfl rfl rfl]
  rw [mE_bk (M := q_Fig_fillEnded) k_Fig_fillEnded.1 k_Fig_fillEnded.2 [21, 29, 79, 85] 400]
  have key : ∀ (C : Nat → List zv → Mu → mR) (E : Nat → List zv → List zv → Mu → mR), mbk C E q_Fig_fillEnded.1 q_Fig_fillEnded.2.1 z q_Fig_fillEnded.2.2.2 [21, 29, 79, 85] 400 (zfind q_Fig_fillEnded.2.2.2 0) (zentry q_Fig_fillEnded.2.2.1 [(2, 58)]) [] μ = (C 5 [(2, 63), (0, 0)] μ).bind fun q1 => (g_Fig_fillEnded_21 E 4094 (zup q1.2 63 4095 1)) := by
    intro C E
    rfl
  exact key _ _
set_option maxRecDepth 100000 in
theorem e_Fig_fillEnded_21 (z : zZ) (d : Nat) (v1 : Int) (μ : Mu) : f_Fig_fillEnded_21 z d v1 μ = bif decide (v1 < 0) then (some (0, μ)) else (f_Fig_fillEnded_29 z d v1 0 0 μ) := by
  show mE z d q_Fig_fillEnded 21 [(2, 58), (0, v1), (9, 0), (9, 0), (9, 0)] [] μ = _
  rw [mE_bk (M := q_Fig_fillEnded) k_Fig_fillEnded.1 k_Fig_fillEnded.2 [21, 29, 79, 85] 400]
  have key : ∀ (C : Nat → List zv → Mu → mR) (E : Nat → List zv → List zv → Mu → mR), mbk C E q_Fig_fillEnded.1 q_Fig_fillEnded.2.1 z q_Fig_fillEnded.2.2.2 [21, 29, 79, 85] 400 (zfind q_Fig_fillEnded.2.2.2 21) [(2, 58), (0, v1), (9, 0), (9, 0), (9, 0)] [] μ = bif decide (v1 < 0) then (some (0, μ)) else (g_Fig_fillEnded_29 E v1 0 0 μ) := by
    intro C E
    rfl
  exact key _ _
set_option maxRecDepth 100000 in
theorem e_Fig_fillEnded_29 (z : zZ) (d : Nat) (v1 : Int) (v2 : Int) (v3 : Int) (μ : Mu) : f_Fig_fillEnded_29 z d v1 v2 v3 μ = bif decide (12 ≤ v3) then (f_Fig_fillEnded_85 z d v1 v2 μ) else (gI v1 4096 (bif decide (μ 62 v1.toNat = 0) then (f_Fig_fillEnded_85 z d v1 v2 μ) else (gI v3 12 (bif !decide (z_or (z_and v1 (z_shl 1 v3)) (z_and (μ 61 v3.toNat) (z_xor v1 ((-1)))) = 0) then (f_Fig_fillEnded_79 z d v1 v2 v3 μ) else (gI (z_or v1 (z_shl 1 v3)) 4096 (f_Fig_fillEnded_79 z d v1 (zw (v2 + (μ 63 ((z_or v1 (z_shl 1 v3)).toNat)))) v3 μ)))))) := by
  show mE z d q_Fig_fillEnded 29 [(2, 58), (0, v1), (0, v2), (0, v3), (9, 0)] [] μ = _
  rw [mE_bk (M := q_Fig_fillEnded) k_Fig_fillEnded.1 k_Fig_fillEnded.2 [21, 29, 79, 85] 400]
  have key : ∀ (C : Nat → List zv → Mu → mR) (E : Nat → List zv → List zv → Mu → mR), mbk C E q_Fig_fillEnded.1 q_Fig_fillEnded.2.1 z q_Fig_fillEnded.2.2.2 [21, 29, 79, 85] 400 (zfind q_Fig_fillEnded.2.2.2 29) [(2, 58), (0, v1), (0, v2), (0, v3), (9, 0)] [] μ = bif decide (12 ≤ v3) then (g_Fig_fillEnded_85 E v1 v2 μ) else (gI v1 4096 (bif decide (μ 62 v1.toNat = 0) then (g_Fig_fillEnded_85 E v1 v2 μ) else (gI v3 12 (bif !decide (z_or (z_and v1 (z_shl 1 v3)) (z_and (μ 61 v3.toNat) (z_xor v1 ((-1)))) = 0) then (g_Fig_fillEnded_79 E v1 v2 v3 μ) else (gI (z_or v1 (z_shl 1 v3)) 4096 (g_Fig_fillEnded_79 E v1 (zw (v2 + (μ 63 ((z_or v1 (z_shl 1 v3)).toNat)))) v3 μ)))))) := by
    intro C E
    rfl
  exact key _ _
set_option maxRecDepth 100000 in
theorem e_Fig_fillEnded_85 (z : zZ) (d : Nat) (v1 : Int) (v2 : Int) (μ : Mu) : f_Fig_fillEnded_85 z d v1 v2 μ = gI v1 4096 (f_Fig_fillEnded_21 z d (zw (v1 + (-1))) (zup μ 63 v1.toNat v2)) := by
  show mE z d q_Fig_fillEnded 85 [(2, 58), (0, v1), (0, v2), (9, 0), (9, 0)] [] μ = _
  rw [mE_bk (M := q_Fig_fillEnded) k_Fig_fillEnded.1 k_Fig_fillEnded.2 [21, 29, 79, 85] 400]
  have key : ∀ (C : Nat → List zv → Mu → mR) (E : Nat → List zv → List zv → Mu → mR), mbk C E q_Fig_fillEnded.1 q_Fig_fillEnded.2.1 z q_Fig_fillEnded.2.2.2 [21, 29, 79, 85] 400 (zfind q_Fig_fillEnded.2.2.2 85) [(2, 58), (0, v1), (0, v2), (9, 0), (9, 0)] [] μ = gI v1 4096 (g_Fig_fillEnded_21 E (zw (v1 + (-1))) (zup μ 63 v1.toNat v2)) := by
    intro C E
    rfl
  exact key _ _
set_option maxRecDepth 100000 in
theorem e_Fig_fillEnded_79 (z : zZ) (d : Nat) (v1 : Int) (v2 : Int) (v3 : Int) (μ : Mu) : f_Fig_fillEnded_79 z d v1 v2 v3 μ = f_Fig_fillEnded_29 z d v1 v2 (zw (v3 + 1)) μ := by
  show mE z d q_Fig_fillEnded 79 [(2, 58), (0, v1), (0, v2), (0, v3), (9, 0)] [] μ = _
  rw [mE_bk (M := q_Fig_fillEnded) k_Fig_fillEnded.1 k_Fig_fillEnded.2 [21, 29, 79, 85] 400]
  have key : ∀ (C : Nat → List zv → Mu → mR) (E : Nat → List zv → List zv → Mu → mR), mbk C E q_Fig_fillEnded.1 q_Fig_fillEnded.2.1 z q_Fig_fillEnded.2.2.2 [21, 29, 79, 85] 400 (zfind q_Fig_fillEnded.2.2.2 79) [(2, 58), (0, v1), (0, v2), (0, v3), (9, 0)] [] μ = g_Fig_fillEnded_29 E v1 v2 (zw (v3 + 1)) μ := by
    intro C E
    rfl
  exact key _ _
def g_Fig_fillRows_10 (E : Nat → List zv → List zv → Mu → mR) (v1 : Int) (μ : Mu) : mR := E 10 [(2, 58), (0, v1), (9, 0), (9, 0), (9, 0)] [] μ
noncomputable def f_Fig_fillRows_10 (z : zZ) (d : Nat) (v1 : Int) (μ : Mu) : mR := g_Fig_fillRows_10 (fun pc ls st μ => mE z d q_Fig_fillRows pc ls st μ) v1 μ
def g_Fig_fillRows_26 (E : Nat → List zv → List zv → Mu → mR) (v1 : Int) (v2 : Int) (v3 : Int) (μ : Mu) : mR := E 26 [(2, 58), (0, v1), (0, v2), (0, v3), (9, 0)] [] μ
noncomputable def f_Fig_fillRows_26 (z : zZ) (d : Nat) (v1 : Int) (v2 : Int) (v3 : Int) (μ : Mu) : mR := g_Fig_fillRows_26 (fun pc ls st μ => mE z d q_Fig_fillRows pc ls st μ) v1 v2 v3 μ
def g_Fig_fillRows_78 (E : Nat → List zv → List zv → Mu → mR) (v1 : Int) (v2 : Int) (v3 : Int) (μ : Mu) : mR := E 78 [(2, 58), (0, v1), (0, v2), (0, v3), (9, 0)] [] μ
noncomputable def f_Fig_fillRows_78 (z : zZ) (d : Nat) (v1 : Int) (v2 : Int) (v3 : Int) (μ : Mu) : mR := g_Fig_fillRows_78 (fun pc ls st μ => mE z d q_Fig_fillRows pc ls st μ) v1 v2 v3 μ
def g_Fig_fillRows_84 (E : Nat → List zv → List zv → Mu → mR) (v1 : Int) (μ : Mu) : mR := E 84 [(2, 58), (0, v1), (9, 0), (9, 0), (9, 0)] [] μ
noncomputable def f_Fig_fillRows_84 (z : zZ) (d : Nat) (v1 : Int) (μ : Mu) : mR := g_Fig_fillRows_84 (fun pc ls st μ => mE z d q_Fig_fillRows pc ls st μ) v1 μ
theorem k_Fig_fillRows : zprK q_Fig_fillRows.2.2.2 = true ∧ zinc q_Fig_fillRows.2.2.2 = true := by decide +kernel
set_option maxRecDepth 100000 in
theorem c_Fig_fillRows (z : zZ) (d : Nat) (μ : Mu) : mC z (d + 1) 148 [(2, 58)] μ = (mC z d 149 [(2, 64), (1, 0)] μ).bind fun q1 => (f_Fig_fillRows_10 z d 0 q1.2) := by
  rw [mC_succ q_Fig_fillRows rfl rfl rfl]
  rw [mE_bk (M := q_Fig_fillRows) k_Fig_fillRows.1 k_Fig_fillRows.2 [10, 26, 78, 84] 400]
  have key : ∀ (C : Nat → List zv → Mu → mR) (E : Nat → List zv → List zv → Mu → mR), mbk C E q_Fig_fillRows.1 q_Fig_fillRows.2.1 z q_Fig_fillRows.2.2.2 [10, 26, 78, 84] 400 (zfind q_Fig_fillRows.2.2.2 0) (zentry q_Fig_fillRows.2.2.1 [(2, 58)]) [] μ = (C 149 [(2, 64), (1, 0)] μ).bind fun q1 => (g_Fig_fillRows_10 E 0 q1.2) := by
    intro C E
    rfl
  exact key _ _
set_option maxRecDepth 100000 in
theorem e_Fig_fillRows_10 (z : zZ) (d : Nat) (v1 : Int) (μ : Mu) : f_Fig_fillRows_10 z d v1 μ = bif decide (4096 ≤ v1) then (some (0, μ)) else (gI v1 4096 (f_Fig_fillRows_26 z d v1 (μ 62 v1.toNat) 0 μ)) := by
  show mE z d q_Fig_fillRows 10 [(2, 58), (0, v1), (9, 0), (9, 0), (9, 0)] [] μ = _
  rw [mE_bk (M := q_Fig_fillRows) k_Fig_fillRows.1 k_Fig_fillRows.2 [10, 26, 78, 84] 400]
  have key : ∀ (C : Nat → List zv → Mu → mR) (E : Nat → List zv → List zv → Mu → mR), mbk C E q_Fig_fillRows.1 q_Fig_fillRows.2.1 z q_Fig_fillRows.2.2.2 [10, 26, 78, 84] 400 (zfind q_Fig_fillRows.2.2.2 10) [(2, 58), (0, v1), (9, 0), (9, 0), (9, 0)] [] μ = bif decide (4096 ≤ v1) then (some (0, μ)) else (gI v1 4096 (g_Fig_fillRows_26 E v1 (μ 62 v1.toNat) 0 μ)) := by
    intro C E
    rfl
  exact key _ _
set_option maxRecDepth 100000 in
theorem e_Fig_fillRows_26 (z : zZ) (d : Nat) (v1 : Int) (v2 : Int) (v3 : Int) (μ : Mu) : f_Fig_fillRows_26 z d v1 v2 v3 μ = bif decide (12 ≤ v3) then (f_Fig_fillRows_84 z d v1 μ) else (bif decide (v2 = 0) then (f_Fig_fillRows_84 z d v1 μ) else (gI v3 12 (bif !decide (z_or (z_and v1 (z_shl 1 v3)) (z_and (μ 61 v3.toNat) (z_xor v1 ((-1)))) = 0) then (f_Fig_fillRows_78 z d v1 v2 v3 μ) else (gI (z_or v1 (z_shl 1 v3)) 4096 ((mC z d 150 [(2, 58), (0, v1), (0, v3), (1, zwl (v2 * (μ 63 ((z_or v1 (z_shl 1 v3)).toNat))))] μ).bind fun q1 => (f_Fig_fillRows_78 z d v1 v2 v3 q1.2)))))) := by
  show mE z d q_Fig_fillRows 26 [(2, 58), (0, v1), (0, v2), (0, v3), (9, 0)] [] μ = _
  rw [mE_bk (M := q_Fig_fillRows) k_Fig_fillRows.1 k_Fig_fillRows.2 [10, 26, 78, 84] 400]
  have key : ∀ (C : Nat → List zv → Mu → mR) (E : Nat → List zv → List zv → Mu → mR), mbk C E q_Fig_fillRows.1 q_Fig_fillRows.2.1 z q_Fig_fillRows.2.2.2 [10, 26, 78, 84] 400 (zfind q_Fig_fillRows.2.2.2 26) [(2, 58), (0, v1), (0, v2), (0, v3), (9, 0)] [] μ = bif decide (12 ≤ v3) then (g_Fig_fillRows_84 E v1 μ) else (bif decide (v2 = 0) then (g_Fig_fillRows_84 E v1 μ) else (gI v3 12 (bif !decide (z_or (z_and v1 (z_shl 1 v3)) (z_and (μ 61 v3.toNat) (z_xor v1 ((-1)))) = 0) then (g_Fig_fillRows_78 E v1 v2 v3 μ) else (gI (z_or v1 (z_shl 1 v3)) 4096 ((C 150 [(2, 58), (0, v1), (0, v3), (1, zwl (v2 * (μ 63 ((z_or v1 (z_shl 1 v3)).toNat))))] μ).bind fun q1 => (g_Fig_fillRows_78 E v1 v2 v3 q1.2)))))) := by
    intro C E
    rfl
  exact key _ _
set_option maxRecDepth 100000 in
theorem e_Fig_fillRows_84 (z : zZ) (d : Nat) (v1 : Int) (μ : Mu) : f_Fig_fillRows_84 z d v1 μ = f_Fig_fillRows_10 z d (zw (v1 + 1)) μ := by
  show mE z d q_Fig_fillRows 84 [(2, 58), (0, v1), (9, 0), (9, 0), (9, 0)] [] μ = _
  rw [mE_bk (M := q_Fig_fillRows) k_Fig_fillRows.1 k_Fig_fillRows.2 [10, 26, 78, 84] 400]
  have key : ∀ (C : Nat → List zv → Mu → mR) (E : Nat → List zv → List zv → Mu → mR), mbk C E q_Fig_fillRows.1 q_Fig_fillRows.2.1 z q_Fig_fillRows.2.2.2 [10, 26, 78, 84] 400 (zfind q_Fig_fillRows.2.2.2 84) [(2, 58), (0, v1), (9, 0), (9, 0), (9, 0)] [] μ = g_Fig_fillRows_10 E (zw (v1 + 1)) μ := by
    intro C E
    rfl
  exact key _ _
set_option maxRecDepth 100000 in
theorem e_Fig_fillRows_78 (z : zZ) (d : Nat) (v1 : Int) (v2 : Int) (v3 : Int) (μ : Mu) : f_Fig_fillRows_78 z d v1 v2 v3 μ = f_Fig_fillRows_26 z d v1 v2 (zw (v3 + 1)) μ := by
  show mE z d q_Fig_fillRows 78 [(2, 58), (0, v1), (0, v2), (0, v3), (9, 0)] [] μ = _
  rw [mE_bk (M := q_Fig_fillRows) k_Fig_fillRows.1 k_Fig_fillRows.2 [10, 26, 78, 84] 400]
  have key : ∀ (C : Nat → List zv → Mu → mR) (E : Nat → List zv → List zv → Mu → mR), mbk C E q_Fig_fillRows.1 q_Fig_fillRows.2.1 z q_Fig_fillRows.2.2.2 [10, 26, 78, 84] 400 (zfind q_Fig_fillRows.2.2.2 78) [(2, 58), (0, v1), (0, v2), (0, v3), (9, 0)] [] μ = g_Fig_fillRows_26 E v1 v2 (zw (v3 + 1)) μ := by
    intro C E
    rfl
  exact key _ _
def g_Arr_fill_AJJV_6 (E : Nat → List zv → List zv → Mu → mR) (v0 : Int) (v1 : Int) (v3 : Int) (v4 : Int) (μ : Mu) : mR := E 6 [(2, v0), (1, v1), (9, 0), (0, v3), (0, v4)] [] μ
noncomputable def f_Arr_fill_AJJV_6 (z : zZ) (d : Nat) (v0 : Int) (v1 : Int) (v3 : Int) (v4 : Int) (μ : Mu) : mR := g_Arr_fill_AJJV_6 (fun pc ls st μ => mE z d q_Arr_fill_AJJV pc ls st μ) v0 v1 v3 v4 μ
theorem k_Arr_fill_AJJV : zprK q_Arr_fill_AJJV.2.2.2 = true ∧ zinc q_Arr_fill_AJJV.2.2.2 = true := by decide +kernel
set_option maxRecDepth 100000 in
theorem c_Arr_fill_AJJV (z : zZ) (d : Nat) (v0 : Int) (v1 : Int) (μ : Mu) : mC z (d + 1) 149 [(2, v0), (1, v1)] μ = gK v0 (f_Arr_fill_AJJV_6 z d v0 v1 0 (zlen v0) μ) := by
  rw [mC_succ q_Arr_fill_AJJV rfl rfl rfl]
  rw [mE_bk (M := q_Arr_fill_AJJV) k_Arr_fill_AJJV.1 k_Arr_fill_AJJV.2 [6] 400]
  have key : ∀ (C : Nat → List zv → Mu → mR) (E : Nat → List zv → List zv → Mu → mR), mbk C E q_Arr_fill_AJJV.1 q_Arr_fill_AJJV.2.1 z q_Arr_fill_AJJV.2.2.2 [6] 400 (zfind q_Arr_fill_AJJV.2.2.2 0) (zentry q_Arr_fill_AJJV.2.2.1 [(2, v0), (1, v1)]) [] μ = gK v0 (g_Arr_fill_AJJV_6 E v0 v1 0 (zlen v0) μ) := by
    intro C E
    rfl
  exact key _ _
set_option maxRecDepth 100000 in
theorem e_Arr_fill_AJJV_6 (z : zZ) (d : Nat) (v0 : Int) (v1 : Int) (v3 : Int) (v4 : Int) (μ : Mu) : f_Arr_fill_AJJV_6 z d v0 v1 v3 v4 μ = bif decide (v4 ≤ v3) then (some (0, μ)) else (gJ v0 v3 (f_Arr_fill_AJJV_6 z d v0 v1 (zw (v3 + 1)) v4 (zup μ v0.toNat v3.toNat v1))) := by
  show mE z d q_Arr_fill_AJJV 6 [(2, v0), (1, v1), (9, 0), (0, v3), (0, v4)] [] μ = _
  rw [mE_bk (M := q_Arr_fill_AJJV) k_Arr_fill_AJJV.1 k_Arr_fill_AJJV.2 [6] 400]
  have key : ∀ (C : Nat → List zv → Mu → mR) (E : Nat → List zv → List zv → Mu → mR), mbk C E q_Arr_fill_AJJV.1 q_Arr_fill_AJJV.2.1 z q_Arr_fill_AJJV.2.2.2 [6] 400 (zfind q_Arr_fill_AJJV.2.2.2 6) [(2, v0), (1, v1), (9, 0), (0, v3), (0, v4)] [] μ = bif decide (v4 ≤ v3) then (some (0, μ)) else (gJ v0 v3 (g_Arr_fill_AJJV_6 E v0 v1 (zw (v3 + 1)) v4 (zup μ v0.toNat v3.toNat v1))) := by
    intro C E
    rfl
  exact key _ _
