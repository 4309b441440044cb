def g_M_isInNew_2 (E : Nat → List zv → List zv → Mu → mR) (v1 : Int) (v2 : Int) (v3 : Int) (μ : Mu) : mR := E 2 [(2, 86), (0, v1), (0, v2), (0, v3)] [] μ
noncomputable def f_M_isInNew_2 (z : zZ) (d : Nat) (v1 : Int) (v2 : Int) (v3 : Int) (μ : Mu) : mR := g_M_isInNew_2 (fun pc ls st μ => mE z d q_M_isInNew pc ls st μ) v1 v2 v3 μ
def g_M_isInNew_47 (E : Nat → List zv → List zv → Mu → mR) (v1 : Int) (v2 : Int) (v3 : Int) (μ : Mu) : mR := E 47 [(2, 86), (0, v1), (0, v2), (0, v3)] [] μ
noncomputable def f_M_isInNew_47 (z : zZ) (d : Nat) (v1 : Int) (v2 : Int) (v3 : Int) (μ : Mu) : mR := g_M_isInNew_47 (fun pc ls st μ => mE z d q_M_isInNew pc ls st μ) v1 v2 v3 μ
theorem k_M_isInNew : zprK q_M_isInNew.2.2.2 = true ∧ zinc q_M_isInNew.2.2.2 = true := by decide +kernel
set_option maxRecDepth 100000 in
theorem c_M_isInNew (z : zZ) (d : Nat) (v1 : Int) (v2 : Int) (μ : Mu) : mC z (d + 1) 200 [(2, 86), (0, v1), (0, v2)] μ = f_M_isInNew_2 z d v1 v2 0 μ := by
  rw [mC_succ q_M_isInNew rfl rfl rfl]
  rw [mE_bk (M := q_M_isInNew) k_M_isInNew.1 k_M_isInNew.2 [2, 47] 400]
  have key : ∀ (C : Nat → List zv → Mu → mR) (E : Nat → List zv → List zv → Mu → mR), mbk C E q_M_isInNew.1 q_M_isInNew.2.1 z q_M_isInNew.2.2.2 [2, 47] 400 (zfind q_M_isInNew.2.2.2 0) (zentry q_M_isInNew.2.2.1 [(2, 86), (0, v1), (0, v2)]) [] μ = g_M_isInNew_2 E v1 v2 0 μ := by
    intro C E
    rfl
  exact key _ _
set_option maxRecDepth 100000 in
theorem e_M_isInNew_2 (z : zZ) (d : Nat) (v1 : Int) (v2 : Int) (v3 : Int) (μ : Mu) : f_M_isInNew_2 z d v1 v2 v3 μ = bif decide (μ 86 22 ≤ v3) then (some (0, μ)) else (gI v3 12 ((mC z d 201 [(0, v1), (0, v2)] μ).bind fun q1 => ((mC z d 202 [(2, 86), (0, v1), (0, v2)] q1.2).bind fun q2 => ((mC z d 196 [(2, 96), (0, zw (8 * v3)), (0, μ 97 v3.toNat), (2, 94), (0, q1.1), (0, q2.1)] q2.2).bind fun q3 => (bif decide (q3.1 = 0) then (f_M_isInNew_47 z d v1 v2 v3 q3.2) else (some (1, q3.2))))))) := by
  show mE z d q_M_isInNew 2 [(2, 86), (0, v1), (0, v2), (0, v3)] [] μ = _
  rw [mE_bk (M := q_M_isInNew) k_M_isInNew.1 k_M_isInNew.2 [2, 47] 400]
  have key : ∀ (C : Nat → List zv → Mu → mR) (E : Nat → List zv → List zv → Mu → mR), mbk C E q_M_isInNew.1 q_M_isInNew.2.1 z q_M_isInNew.2.2.2 [2, 47] 400 (zfind q_M_isInNew.2.2.2 2) [(2, 86), (0, v1), (0, v2), (0, v3)] [] μ = bif decide (μ 86 22 ≤ v3) then (some (0, μ)) else (gI v3 12 ((C 201 [(0, v1), (0, v2)] μ).bind fun q1 => ((C 202 [(2, 86), (0, v1), (0, v2)] q1.2).bind fun q2 => ((C 196 [(2, 96), (0, zw (8 * v3)), (0, μ 97 v3.toNat), (2, 94), (0, q1.1), (0, q2.1)] q2.2).bind fun q3 => (bif decide (q3.1 = 0) then (g_M_isInNew_47 E v1 v2 v3 q3.2) else (some (1, q3.2))))))) := by
    intro C E
    rfl
  exact key _ _
set_option maxRecDepth 100000 in
theorem e_M_isInNew_47 (z : zZ) (d : Nat) (v1 : Int) (v2 : Int) (v3 : Int) (μ : Mu) : f_M_isInNew_47 z d v1 v2 v3 μ = f_M_isInNew_2 z d v1 v2 (zw (v3 + 1)) μ := by
  show mE z d q_M_isInNew 47 [(2, 86), (0, v1), (0, v2), (0, v3)] [] μ = _
  rw [mE_bk (M := q_M_isInNew) k_M_isInNew.1 k_M_isInNew.2 [2, 47] 400]
  have key : ∀ (C : Nat → List zv → Mu → mR) (E : Nat → List zv → List zv → Mu → mR), mbk C E q_M_isInNew.1 q_M_isInNew.2.1 z q_M_isInNew.2.2.2 [2, 47] 400 (zfind q_M_isInNew.2.2.2 47) [(2, 86), (0, v1), (0, v2), (0, v3)] [] μ = g_M_isInNew_2 E v1 v2 (zw (v3 + 1)) μ := by
    intro C E
    rfl
  exact key _ _
theorem k_M_beginOf : zprK q_M_beginOf.2.2.2 = true ∧ zinc q_M_beginOf.2.2.2 = true := by decide +kernel
set_option maxRecDepth 100000 in
theorem c_M_beginOf (z : zZ) (d : Nat) (v0 : Int) (v1 : Int) (μ : Mu) : mC z (d + 1) 201 [(0, v0), (0, v1)] μ = some (zw (8 * (zw ((zw (12 * v0)) + v1))), μ) := by
  rw [mC_succ q_M_beginOf rfl rfl rfl]
  rw [mE_bk (M := q_M_beginOf) k_M_beginOf.1 k_M_beginOf.2 [] 400]
  have key : ∀ (C : Nat → List zv → Mu → mR) (E : Nat → List zv → List zv → Mu → mR), mbk C E q_M_beginOf.1 q_M_beginOf.2.1 z q_M_beginOf.2.2.2 [] 400 (zfind q_M_beginOf.2.2.2 0) (zentry q_M_beginOf.2.2.1 [(0, v0), (0, v1)]) [] μ = some (zw (8 * (zw ((zw (12 * v0)) + v1))), μ) := by
    intro C E
    rfl
  exact key _ _
theorem k_M_longOf : zprK q_M_longOf.2.2.2 = true ∧ zinc q_M_longOf.2.2.2 = true := by decide +kernel
set_option maxRecDepth 100000 in
theorem c_M_longOf (z : zZ) (d : Nat) (v1 : Int) (v2 : Int) (μ : Mu) : mC z (d + 1) 202 [(2, 86), (0, v1), (0, v2)] μ = gI (zw ((zw (12 * v1)) + v2)) 24 (some (μ 95 ((zw ((zw (12 * v1)) + v2)).toNat), μ)) := by
  rw [mC_succ q_M_longOf rfl rfl rfl]
  rw [mE_bk (M := q_M_longOf) k_M_longOf.1 k_M_longOf.2 [] 400]
  have key : ∀ (C : Nat → List zv → Mu → mR) (E : Nat → List zv → List zv → Mu → mR), mbk C E q_M_longOf.1 q_M_longOf.2.1 z q_M_longOf.2.2.2 [] 400 (zfind q_M_longOf.2.2.2 0) (zentry q_M_longOf.2.2.1 [(2, 86), (0, v1), (0, v2)]) [] μ = gI (zw ((zw (12 * v1)) + v2)) 24 (some (μ 95 ((zw ((zw (12 * v1)) + v2)).toNat), μ)) := by
    intro C E
    rfl
  exact key _ _
def g_M_goesHome_3 (E : Nat → List zv → List zv → Mu → mR) (v1 : Int) (v2 : Int) (v3 : Int) (v4 : Int) (v5 : Int) (μ : Mu) : mR := E 3 [(2, 86), (0, v1), (2, v2), (0, v3), (0, v4), (0, v5)] [] μ
noncomputable def f_M_goesHome_3 (z : zZ) (d : Nat) (v1 : Int) (v2 : Int) (v3 : Int) (v4 : Int) (v5 : Int) (μ : Mu) : mR := g_M_goesHome_3 (fun pc ls st μ => mE z d q_M_goesHome pc ls st μ) v1 v2 v3 v4 v5 μ
theorem k_M_goesHome : zprK q_M_goesHome.2.2.2 = true ∧ zinc q_M_goesHome.2.2.2 = true := by decide +kernel
set_option maxRecDepth 100000 in
theorem c_M_goesHome (z : zZ) (d : Nat) (v1 : Int) (v2 : Int) (v3 : Int) (v4 : Int) (μ : Mu) : mC z (d + 1) 203 [(2, 86), (0, v1), (2, v2), (0, v3), (0, v4)] μ = f_M_goesHome_3 z d v1 v2 v3 v4 0 μ := by
  rw [mC_succ q_M_goesHome rfl rfl rfl]
  rw [mE_bk (M := q_M_goesHome) k_M_goesHome.1 k_M_goesHome.2 [3] 400]
  have key : ∀ (C : Nat → List zv → Mu → mR) (E : Nat → List zv → List zv → Mu → mR), mbk C E q_M_goesHome.1 q_M_goesHome.2.1 z q_M_goesHome.2.2.2 [3] 400 (zfind q_M_goesHome.2.2.2 0) (zentry q_M_goesHome.2.2.1 [(2, 86), (0, v1), (2, v2), (0, v3), (0, v4)]) [] μ = g_M_goesHome_3 E v1 v2 v3 v4 0 μ := by
    intro C E
    rfl
  exact key _ _
set_option maxRecDepth 100000 in
theorem e_M_goesHome_3 (z : zZ) (d : Nat) (v1 : Int) (v2 : Int) (v3 : Int) (v4 : Int) (v5 : Int) (μ : Mu) : f_M_goesHome_3 z d v1 v2 v3 v4 v5 μ = bif decide (v4 ≤ v5) then (some (0, μ)) else (gA v2 (zw (v3 + v5)) ((mC z d 204 [(2, 90), (0, zw ((zw (12 * v1)) + (μ v2.toNat ((zw (v3 + v5)).toNat)))), (0, 1)] μ).bind fun q1 => (f_M_goesHome_3 z d v1 v2 v3 v4 (zw (v5 + 1)) q1.2))) := by
  show mE z d q_M_goesHome 3 [(2, 86), (0, v1), (2, v2), (0, v3), (0, v4), (0, v5)] [] μ = _
  rw [mE_bk (M := q_M_goesHome) k_M_goesHome.1 k_M_goesHome.2 [3] 400]
  have key : ∀ (C : Nat → List zv → Mu → mR) (E : Nat → List zv → List zv → Mu → mR), mbk C E q_M_goesHome.1 q_M_goesHome.2.1 z q_M_goesHome.2.2.2 [3] 400 (zfind q_M_goesHome.2.2.2 3) [(2, 86), (0, v1), (2, v2), (0, v3), (0, v4), (0, v5)] [] μ = bif decide (v4 ≤ v5) then (some (0, μ)) else (gA v2 (zw (v3 + v5)) ((C 204 [(2, 90), (0, zw ((zw (12 * v1)) + (μ v2.toNat ((zw (v3 + v5)).toNat)))), (0, 1)] μ).bind fun q1 => (g_M_goesHome_3 E v1 v2 v3 v4 (zw (v5 + 1)) q1.2))) := by
    intro C E
    rfl
  exact key _ _
theorem k_M_adds : zprK q_M_adds.2.2.2 = true ∧ zinc q_M_adds.2.2.2 = true := by decide +kernel
set_option maxRecDepth 100000 in
theorem c_M_adds (z : zZ) (d : Nat) (v0 : Int) (v1 : Int) (v2 : Int) (μ : Mu) : mC z (d + 1) 204 [(2, v0), (0, v1), (0, v2)] μ = gA v0 v1 ((mC z d 205 [(0, 999), (0, zw ((μ v0.toNat v1.toNat) + v2))] μ).bind fun q1 => (gA v0 v1 (some (0, zup q1.2 v0.toNat v1.toNat q1.1)))) := by
  rw [mC_succ q_M_adds rfl rfl rfl]
  rw [mE_bk (M := q_M_adds) k_M_adds.1 k_M_adds.2 [] 400]
  have key : ∀ (C : Nat → List zv → Mu → mR) (E : Nat → List zv → List zv → Mu → mR), mbk C E q_M_adds.1 q_M_adds.2.1 z q_M_adds.2.2.2 [] 400 (zfind q_M_adds.2.2.2 0) (zentry q_M_adds.2.2.1 [(2, v0), (0, v1), (0, v2)]) [] μ = gA v0 v1 ((C 205 [(0, 999), (0, zw ((μ v0.toNat v1.toNat) + v2))] μ).bind fun q1 => (gA v0 v1 (some (0, zup q1.2 v0.toNat v1.toNat q1.1)))) := by
    intro C E
    rfl
  exact key _ _
def g_M_min_10 (E : Nat → List zv → List zv → Mu → mR) (v100 : Int) (μ : Mu) : mR := E 10 [(9, 0), (9, 0)] [(0, v100)] μ
noncomputable def f_M_min_10 (z : zZ) (d : Nat) (v100 : Int) (μ : Mu) : mR := g_M_min_10 (fun pc ls st μ => mE z d q_M_min pc ls st μ) v100 μ
theorem k_M_min : zprK q_M_min.2.2.2 = true ∧ zinc q_M_min.2.2.2 = true := by decide +kernel
set_option maxRecDepth 100000 in
theorem c_M_min (z : zZ) (d : Nat) (v0 : Int) (v1 : Int) (μ : Mu) : mC z (d + 1) 205 [(0, v0), (0, v1)] μ = bif decide (v1 ≤ v0) then (f_M_min_10 z d v1 μ) else (f_M_min_10 z d v0 μ) := by
  rw [mC_succ q_M_min rfl rfl rfl]
  rw [mE_bk (M := q_M_min) k_M_min.1 k_M_min.2 [10] 400]
  have key : ∀ (C : Nat → List zv → Mu → mR) (E : Nat → List zv → List zv → Mu → mR), mbk C E q_M_min.1 q_M_min.2.1 z q_M_min.2.2.2 [10] 400 (zfind q_M_min.2.2.2 0) (zentry q_M_min.2.2.1 [(0, v0), (0, v1)]) [] μ = bif decide (v1 ≤ v0) then (g_M_min_10 E v1 μ) else (g_M_min_10 E v0 μ) := by
    intro C E
    rfl
  exact key _ _
set_option maxRecDepth 100000 in
theorem e_M_min_10 (z : zZ) (d : Nat) (v100 : Int) (μ : Mu) : f_M_min_10 z d v100 μ = some (v100, μ) := by
  show mE z d q_M_min 10 [(9, 0), (9, 0)] [(0, v100)] μ = _
  rw [mE_bk (M := q_M_min) k_M_min.1 k_M_min.2 [10] 400]
  have key : ∀ (C : Nat → List zv → Mu → mR) (E : Nat → List zv → List zv → Mu → mR), mbk C E q_M_min.1 q_M_min.2.1 z q_M_min.2.2.2 [10] 400 (zfind q_M_min.2.2.2 10) [(9, 0), (9, 0)] [(0, v100)] μ = some (v100, μ) := by
    intro C E
    rfl
  exact key _ _
def g_M_wordIn_3 (E : Nat → List zv → List zv → Mu → mR) (v1 : Int) (v2 : Int) (v3 : Int) (v4 : Int) (v5 : Int) (μ : Mu) : mR := E 3 [(2, 86), (0, v1), (2, v2), (0, v3), (0, v4), (0, v5)] [] μ
noncomputable def f_M_wordIn_3 (z : zZ) (d : Nat) (v1 : Int) (v2 : Int) (v3 : Int) (v4 : Int) (v5 : Int) (μ : Mu) : mR := g_M_wordIn_3 (fun pc ls st μ => mE z d q_M_wordIn pc ls st μ) v1 v2 v3 v4 v5 μ
def g_M_wordIn_43 (E : Nat → List zv → List zv → Mu → mR) (v1 : Int) (v2 : Int) (v3 : Int) (v4 : Int) (v5 : Int) (μ : Mu) : mR := E 43 [(2, 86), (0, v1), (2, v2), (0, v3), (0, v4), (0, v5)] [] μ
noncomputable def f_M_wordIn_43 (z : zZ) (d : Nat) (v1 : Int) (v2 : Int) (v3 : Int) (v4 : Int) (v5 : Int) (μ : Mu) : mR := g_M_wordIn_43 (fun pc ls st μ => mE z d q_M_wordIn pc ls st μ) v1 v2 v3 v4 v5 μ
theorem k_M_wordIn : zprK q_M_wordIn.2.2.2 = true ∧ zinc q_M_wordIn.2.2.2 = true := by decide +kernel
set_option maxRecDepth 100000 in
theorem c_M_wordIn (z : zZ) (d : Nat) (v1 : Int) (v2 : Int) (v3 : Int) (v4 : Int) (μ : Mu) : mC z (d + 1) 206 [(2, 86), (0, v1), (2, v2), (0, v3), (0, v4)] μ = f_M_wordIn_3 z d v1 v2 v3 v4 0 μ := by
  rw [mC_succ q_M_wordIn rfl rfl rfl]
  rw [mE_bk (M := q_M_wordIn) k_M_wordIn.1 k_M_wordIn.2 [3, 43] 400]
  have key : ∀ (C : Nat → List zv → Mu → mR) (E : Nat → List zv → List zv → Mu → mR), mbk C E q_M_wordIn.1 q_M_wordIn.2.1 z q_M_wordIn.2.2.2 [3, 43] 400 (zfind q_M_wordIn.2.2.2 0) (zentry q_M_wordIn.2.2.1 [(2, 86), (0, v1), (2, v2), (0, v3), (0, v4)]) [] μ = g_M_wordIn_3 E v1 v2 v3 v4 0 μ := by
    intro C E
    rfl
  exact key _ _
set_option maxRecDepth 100000 in
theorem e_M_wordIn_3 (z : zZ) (d : Nat) (v1 : Int) (v2 : Int) (v3 : Int) (v4 : Int) (v5 : Int) (μ : Mu) : f_M_wordIn_3 z d v1 v2 v3 v4 v5 μ = (mC z d 198 [(2, 86), (0, v1)] μ).bind fun q1 => (bif decide (q1.1 ≤ v5) then (some ((-1), q1.2)) else ((mC z d 201 [(0, v1), (0, v5)] q1.2).bind fun q2 => ((mC z d 202 [(2, 86), (0, v1), (0, v5)] q2.2).bind fun q3 => ((mC z d 196 [(2, 94), (0, q2.1), (0, q3.1), (2, v2), (0, v3), (0, v4)] q3.2).bind fun q4 => (bif decide (q4.1 = 0) then (f_M_wordIn_43 z d v1 v2 v3 v4 v5 q4.2) else (some (v5, q4.2))))))) := by
  show mE z d q_M_wordIn 3 [(2, 86), (0, v1), (2, v2), (0, v3), (0, v4), (0, v5)] [] μ = _
  rw [mE_bk (M := q_M_wordIn) k_M_wordIn.1 k_M_wordIn.2 [3, 43] 400]
  have key : ∀ (C : Nat → List zv → Mu → mR) (E : Nat → List zv → List zv → Mu → mR), mbk C E q_M_wordIn.1 q_M_wordIn.2.1 z q_M_wordIn.2.2.2 [3, 43] 400 (zfind q_M_wordIn.2.2.2 3) [(2, 86), (0, v1), (2, v2), (0, v3), (0, v4), (0, v5)] [] μ = (C 198 [(2, 86), (0, v1)] μ).bind fun q1 => (bif decide (q1.1 ≤ v5) then (some ((-1), q1.2)) else ((C 201 [(0, v1), (0, v5)] q1.2).bind fun q2 => ((C 202 [(2, 86), (0, v1), (0, v5)] q2.2).bind fun q3 => ((C 196 [(2, 94), (0, q2.1), (0, q3.1), (2, v2), (0, v3), (0, v4)] q3.2).bind fun q4 => (bif decide (q4.1 = 0) then (g_M_wordIn_43 E v1 v2 v3 v4 v5 q4.2) else (some (v5, q4.2))))))) := by
    intro C E
    rfl
  exact key _ _
set_option maxRecDepth 100000 in
theorem e_M_wordIn_43 (z : zZ) (d : Nat) (v1 : Int) (v2 : Int) (v3 : Int) (v4 : Int) (v5 : Int) (μ : Mu) : f_M_wordIn_43 z d v1 v2 v3 v4 v5 μ = f_M_wordIn_3 z d v1 v2 v3 v4 (zw (v5 + 1)) μ := by
  show mE z d q_M_wordIn 43 [(2, 86), (0, v1), (2, v2), (0, v3), (0, v4), (0, v5)] [] μ = _
  rw [mE_bk (M := q_M_wordIn) k_M_wordIn.1 k_M_wordIn.2 [3, 43] 400]
  have key : ∀ (C : Nat → List zv → Mu → mR) (E : Nat → List zv → List zv → Mu → mR), mbk C E q_M_wordIn.1 q_M_wordIn.2.1 z q_M_wordIn.2.2.2 [3, 43] 400 (zfind q_M_wordIn.2.2.2 43) [(2, 86), (0, v1), (2, v2), (0, v3), (0, v4), (0, v5)] [] μ = g_M_wordIn_3 E v1 v2 v3 v4 (zw (v5 + 1)) μ := by
    intro C E
    rfl
  exact key _ _
def g_M_setField_17 (E : Nat → List zv → List zv → Mu → mR) (μ : Mu) : mR := E 17 [(9, 0), (9, 0), (9, 0)] [] μ
noncomputable def f_M_setField_17 (z : zZ) (d : Nat) (μ : Mu) : mR := g_M_setField_17 (fun pc ls st μ => mE z d q_M_setField pc ls st μ) μ
theorem k_M_setField : zprK q_M_setField.2.2.2 = true ∧ zinc q_M_setField.2.2.2 = true := by decide +kernel
set_option maxRecDepth 100000 in
theorem c_M_setField (z : zZ) (d : Nat) (v1 : Int) (v2 : Int) (μ : Mu) : mC z (d + 1) 207 [(2, 86), (0, v1), (0, v2)] μ = bif !decide (v1 = 0) then (f_M_setField_17 z d (zup μ 86 17 v2)) else (f_M_setField_17 z d (zup μ 86 16 v2)) := by
  rw [mC_succ q_M_setField rfl rfl rfl]
  rw [mE_bk (M := q_M_setField) k_M_setField.1 k_M_setField.2 [17] 400]
  have key : ∀ (C : Nat → List zv → Mu → mR) (E : Nat → List zv → List zv → Mu → mR), mbk C E q_M_setField.1 q_M_setField.2.1 z q_M_setField.2.2.2 [17] 400 (zfind q_M_setField.2.2.2 0) (zentry q_M_setField.2.2.1 [(2, 86), (0, v1), (0, v2)]) [] μ = bif !decide (v1 = 0) then (g_M_setField_17 E (zup μ 86 17 v2)) else (g_M_setField_17 E (zup μ 86 16 v2)) := by
    intro C E
    rfl
  exact key _ _
set_option maxRecDepth 100000 in
theorem e_M_setField_17 (z : zZ) (d : Nat) (μ : Mu) : f_M_setField_17 z d μ = some (0, μ) := by
  show mE z d q_M_setField 17 [(9, 0), (9, 0), (9, 0)] [] μ = _
  rw [mE_bk (M := q_M_setField) k_M_setField.1 k_M_setField.2 [17] 400]
  have key : ∀ (C : Nat → List zv → Mu → mR) (E : Nat → List zv → List zv → Mu → mR), mbk C E q_M_setField.1 q_M_setField.2.1 z q_M_setField.2.2.2 [17] 400 (zfind q_M_setField.2.2.2 17) [(9, 0), (9, 0), (9, 0)] [] μ = some (0, μ) := by
    intro C E
    rfl
  exact key _ _
def g_M_law_19 (E : Nat → List zv → List zv → Mu → mR) (μ : Mu) : mR := E 19 [(9, 0), (9, 0), (9, 0), (9, 0)] [] μ
noncomputable def f_M_law_19 (z : zZ) (d : Nat) (μ : Mu) : mR := g_M_law_19 (fun pc ls st μ => mE z d q_M_law pc ls st μ) μ
def g_M_law_46 (E : Nat → List zv → List zv → Mu → mR) (v2 : Int) (μ : Mu) : mR := E 46 [(2, 86), (9, 0), (0, v2), (9, 0)] [] μ
noncomputable def f_M_law_46 (z : zZ) (d : Nat) (v2 : Int) (μ : Mu) : mR := g_M_law_46 (fun pc ls st μ => mE z d q_M_law pc ls st μ) v2 μ
def g_M_law_81 (E : Nat → List zv → List zv → Mu → mR) (μ : Mu) : mR := E 81 [(2, 86), (9, 0), (9, 0), (9, 0)] [] μ
noncomputable def f_M_law_81 (z : zZ) (d : Nat) (μ : Mu) : mR := g_M_law_81 (fun pc ls st μ => mE z d q_M_law pc ls st μ) μ
def g_M_law_82 (E : Nat → List zv → List zv → Mu → mR) (v100 : Int) (μ : Mu) : mR := E 82 [(2, 86), (9, 0), (9, 0), (9, 0)] [(0, v100)] μ
noncomputable def f_M_law_82 (z : zZ) (d : Nat) (v100 : Int) (μ : Mu) : mR := g_M_law_82 (fun pc ls st μ => mE z d q_M_law pc ls st μ) v100 μ
def g_M_law_86 (E : Nat → List zv → List zv → Mu → mR) (v2 : Int) (μ : Mu) : mR := E 86 [(2, 86), (9, 0), (0, v2), (9, 0)] [] μ
noncomputable def f_M_law_86 (z : zZ) (d : Nat) (v2 : Int) (μ : Mu) : mR := g_M_law_86 (fun pc ls st μ => mE z d q_M_law pc ls st μ) v2 μ
def g_M_law_110 (E : Nat → List zv → List zv → Mu → mR) (v3 : Int) (μ : Mu) : mR := E 110 [(2, 86), (9, 0), (9, 0), (0, v3)] [] μ
noncomputable def f_M_law_110 (z : zZ) (d : Nat) (v3 : Int) (μ : Mu) : mR := g_M_law_110 (fun pc ls st μ => mE z d q_M_law pc ls st μ) v3 μ
def g_M_law_138 (E : Nat → List zv → List zv → Mu → mR) (v3 : Int) (μ : Mu) : mR := E 138 [(2, 86), (9, 0), (9, 0), (0, v3)] [] μ
noncomputable def f_M_law_138 (z : zZ) (d : Nat) (v3 : Int) (μ : Mu) : mR := g_M_law_138 (fun pc ls st μ => mE z d q_M_law pc ls st μ) v3 μ
theorem k_M_law : zprK q_M_law.2.2.2 = true ∧ zinc q_M_law.2.2.2 = true := by decide +kernel
set_option maxRecDepth 100000 in
theorem c_M_law (z : zZ) (d : Nat) (v1 : Int) (μ : Mu) : mC z (d + 1) 208 [(2, 86), (0, v1)] μ = (mC z d 183 [(0, v1), (0, 1), (0, 200)] μ).bind fun q1 => (bif decide (q1.1 = 0) then (f_M_law_19 z d q1.2) else (bif decide (v1 ≤ q1.2 86 9) then ((mC z d 209 [(2, 86)] (zup (zup (zup (zup q1.2 86 10 0) 86 11 v1) 86 24 0) 86 26 0)).bind fun q2 => (f_M_law_46 z d q2.1 q2.2)) else (f_M_law_19 z d q1.2))) := by
  rw [mC_succ q_M_law rfl rfl rfl]
  rw [mE_bk (M := q_M_law) k_M_law.1 k_M_law.2 [19, 46, 81, 82, 86, 110, 138] 400]
  have key : ∀ (C : Nat → List zv → Mu → mR) (E : Nat → List zv → List zv → Mu → mR), mbk C E q_M_law.1 q_M_law.2.1 z q_M_law.2.2.2 [19, 46, 81, 82, 86, 110, 138] 400 (zfind q_M_law.2.2.2 0) (zentry q_M_law.2.2.1 [(2, 86), (0, v1)]) [] μ = (C 183 [(0, v1), (0, 1), (0, 200)] μ).bind fun q1 => (bif decide (q1.1 = 0) then (g_M_law_19 E q1.2) else (bif decide (v1 ≤ q1.2 86 9) then ((C 209 [(2, 86)] (zup (zup (zup (zup q1.2 86 10 0) 86 11 v1) 86 24 0) 86 26 0)).bind fun q2 => (g_M_law_46 E q2.1 q2.2)) else (g_M_law_19 E q1.2))) := by
    intro C E
    rfl
  exact key _ _
set_option maxRecDepth 100000 in
theorem e_M_law_19 (z : zZ) (d : Nat) (μ : Mu) : f_M_law_19 z d μ = some ((-1), μ) := by
  show mE z d q_M_law 19 [(9, 0), (9, 0), (9, 0), (9, 0)] [] μ = _
  rw [mE_bk (M := q_M_law) k_M_law.1 k_M_law.2 [19, 46, 81, 82, 86, 110, 138] 400]
  have key : ∀ (C : Nat → List zv → Mu → mR) (E : Nat → List zv → List zv → Mu → mR), mbk C E q_M_law.1 q_M_law.2.1 z q_M_law.2.2.2 [19, 46, 81, 82, 86, 110, 138] 400 (zfind q_M_law.2.2.2 19) [(9, 0), (9, 0), (9, 0), (9, 0)] [] μ = some ((-1), μ) := by
    intro C E
    rfl
  exact key _ _
set_option maxRecDepth 100000 in
theorem e_M_law_46 (z : zZ) (d : Nat) (v2 : Int) (μ : Mu) : f_M_law_46 z d v2 μ = bif decide (v2 = 0) then (f_M_law_86 z d v2 μ) else (bif decide (μ 86 11 ≤ μ 86 10) then (f_M_law_86 z d v2 μ) else ((mC z d 197 [(2, 86), (0, 59)] μ).bind fun q1 => (bif decide (q1.1 = 0) then (f_M_law_81 z d q1.2) else ((mC z d 209 [(2, 86)] q1.2).bind fun q2 => (bif decide (q2.1 = 0) then (f_M_law_81 z d q2.2) else (f_M_law_82 z d 1 q2.2)))))) := by
  show mE z d q_M_law 46 [(2, 86), (9, 0), (0, v2), (9, 0)] [] μ = _
  rw [mE_bk (M := q_M_law) k_M_law.1 k_M_law.2 [19, 46, 81, 82, 86, 110, 138] 400]
  have key : ∀ (C : Nat → List zv → Mu → mR) (E : Nat → List zv → List zv → Mu → mR), mbk C E q_M_law.1 q_M_law.2.1 z q_M_law.2.2.2 [19, 46, 81, 82, 86, 110, 138] 400 (zfind q_M_law.2.2.2 46) [(2, 86), (9, 0), (0, v2), (9, 0)] [] μ = bif decide (v2 = 0) then (g_M_law_86 E v2 μ) else (bif decide (μ 86 11 ≤ μ 86 10) then (g_M_law_86 E v2 μ) else ((C 197 [(2, 86), (0, 59)] μ).bind fun q1 => (bif decide (q1.1 = 0) then (g_M_law_81 E q1.2) else ((C 209 [(2, 86)] q1.2).bind fun q2 => (bif decide (q2.1 = 0) then (g_M_law_81 E q2.2) else (g_M_law_82 E 1 q2.2)))))) := by
    intro C E
    rfl
  exact key _ _
set_option maxRecDepth 100000 in
theorem e_M_law_86 (z : zZ) (d : Nat) (v2 : Int) (μ : Mu) : f_M_law_86 z d v2 μ = bif !decide (v2 = 0) then (f_M_law_110 z d 0 (zup (zup μ 86 9 0) 86 27 (μ 86 26))) else (some (μ 86 12, zup μ 86 9 0)) := by
  show mE z d q_M_law 86 [(2, 86), (9, 0), (0, v2), (9, 0)] [] μ = _
  rw [mE_bk (M := q_M_law) k_M_law.1 k_M_law.2 [19, 46, 81, 82, 86, 110, 138] 400]
  have key : ∀ (C : Nat → List zv → Mu → mR) (E : Nat → List zv → List zv → Mu → mR), mbk C E q_M_law.1 q_M_law.2.1 z q_M_law.2.2.2 [19, 46, 81, 82, 86, 110, 138] 400 (zfind q_M_law.2.2.2 86) [(2, 86), (9, 0), (0, v2), (9, 0)] [] μ = bif !decide (v2 = 0) then (g_M_law_110 E 0 (zup (zup μ 86 9 0) 86 27 (μ 86 26))) else (some (μ 86 12, zup μ 86 9 0)) := by
    intro C E
    rfl
  exact key _ _
set_option maxRecDepth 100000 in
theorem e_M_law_81 (z : zZ) (d : Nat) (μ : Mu) : f_M_law_81 z d μ = f_M_law_82 z d 0 μ := by
  show mE z d q_M_law 81 [(2, 86), (9, 0), (9, 0), (9, 0)] [] μ = _
  rw [mE_bk (M := q_M_law) k_M_law.1 k_M_law.2 [19, 46, 81, 82, 86, 110, 138] 400]
  have key : ∀ (C : Nat → List zv → Mu → mR) (E : Nat → List zv → List zv → Mu → mR), mbk C E q_M_law.1 q_M_law.2.1 z q_M_law.2.2.2 [19, 46, 81, 82, 86, 110, 138] 400 (zfind q_M_law.2.2.2 81) [(2, 86), (9, 0), (9, 0), (9, 0)] [] μ = g_M_law_82 E 0 μ := by
    intro C E
    rfl
  exact key _ _
set_option maxRecDepth 100000 in
theorem e_M_law_82 (z : zZ) (d : Nat) (v100 : Int) (μ : Mu) : f_M_law_82 z d v100 μ = f_M_law_46 z d v100 μ := by
  show mE z d q_M_law 82 [(2, 86), (9, 0), (9, 0), (9, 0)] [(0, v100)] μ = _
  rw [mE_bk (M := q_M_law) k_M_law.1 k_M_law.2 [19, 46, 81, 82, 86, 110, 138] 400]
  have key : ∀ (C : Nat → List zv → Mu → mR) (E : Nat → List zv → List zv → Mu → mR), mbk C E q_M_law.1 q_M_law.2.1 z q_M_law.2.2.2 [19, 46, 81, 82, 86, 110, 138] 400 (zfind q_M_law.2.2.2 82) [(2, 86), (9, 0), (9, 0), (9, 0)] [(0, v100)] μ = g_M_law_46 E v100 μ := by
    intro C E
    rfl
  exact key _ _
set_option maxRecDepth 100000 in
theorem e_M_law_110 (z : zZ) (d : Nat) (v3 : Int) (μ : Mu) : f_M_law_110 z d v3 μ = bif decide (μ 86 24 ≤ v3) then (f_M_law_138 z d 0 μ) else (gI v3 220 (gI v3 220 (f_M_law_110 z d (zw (v3 + 1)) (zup μ 104 v3.toNat (μ 98 v3.toNat))))) := by
  show mE z d q_M_law 110 [(2, 86), (9, 0), (9, 0), (0, v3)] [] μ = _
  rw [mE_bk (M := q_M_law) k_M_law.1 k_M_law.2 [19, 46, 81, 82, 86, 110, 138] 400]
  have key : ∀ (C : Nat → List zv → Mu → mR) (E : Nat → List zv → List zv → Mu → mR), mbk C E q_M_law.1 q_M_law.2.1 z q_M_law.2.2.2 [19, 46, 81, 82, 86, 110, 138] 400 (zfind q_M_law.2.2.2 110) [(2, 86), (9, 0), (9, 0), (0, v3)] [] μ = bif decide (μ 86 24 ≤ v3) then (g_M_law_138 E 0 μ) else (gI v3 220 (gI v3 220 (g_M_law_110 E (zw (v3 + 1)) (zup μ 104 v3.toNat (μ 98 v3.toNat))))) := by
    intro C E
    rfl
  exact key _ _
set_option maxRecDepth 100000 in
theorem e_M_law_138 (z : zZ) (d : Nat) (v3 : Int) (μ : Mu) : f_M_law_138 z d v3 μ = bif decide (μ 86 26 ≤ v3) then (some (μ 86 26, μ)) else (gI v3 14 (gI v3 14 (gI v3 14 (gI v3 14 (gI v3 14 (gI v3 14 (gI v3 14 (gI v3 14 (f_M_law_138 z d (zw (v3 + 1)) (zup (zup (zup (zup μ 105 v3.toNat (μ 100 v3.toNat)) 106 v3.toNat (μ 101 v3.toNat)) 107 v3.toNat (μ 102 v3.toNat)) 108 v3.toNat (μ 103 v3.toNat))))))))))) := by
  show mE z d q_M_law 138 [(2, 86), (9, 0), (9, 0), (0, v3)] [] μ = _
  rw [mE_bk (M := q_M_law) k_M_law.1 k_M_law.2 [19, 46, 81, 82, 86, 110, 138] 400]
  have key : ∀ (C : Nat → List zv → Mu → mR) (E : Nat → List zv → List zv → Mu → mR), mbk C E q_M_law.1 q_M_law.2.1 z q_M_law.2.2.2 [19, 46, 81, 82, 86, 110, 138] 400 (zfind q_M_law.2.2.2 138) [(2, 86), (9, 0), (9, 0), (0, v3)] [] μ = bif decide (μ 86 26 ≤ v3) then (some (μ 86 26, μ)) else (gI v3 14 (gI v3 14 (gI v3 14 (gI v3 14 (gI v3 14 (gI v3 14 (gI v3 14 (gI v3 14 (g_M_law_138 E (zw (v3 + 1)) (zup (zup (zup (zup μ 105 v3.toNat (μ 100 v3.toNat)) 106 v3.toNat (μ 101 v3.toNat)) 107 v3.toNat (μ 102 v3.toNat)) 108 v3.toNat (μ 103 v3.toNat))))))))))) := by
    intro C E
    rfl
  exact key _ _
def g_M_readsClause_21 (E : Nat → List zv → List zv → Mu → mR) (v1 : Int) (v100 : Int) (μ : Mu) : mR := E 21 [(2, 86), (0, v1)] [(0, v100)] μ
noncomputable def f_M_readsClause_21 (z : zZ) (d : Nat) (v1 : Int) (v100 : Int) (μ : Mu) : mR := g_M_readsClause_21 (fun pc ls st μ => mE z d q_M_readsClause pc ls st μ) v1 v100 μ
def g_M_readsClause_40 (E : Nat → List zv → List zv → Mu → mR) (v1 : Int) (v100 : Int) (μ : Mu) : mR := E 40 [(2, 86), (0, v1)] [(0, v100)] μ
noncomputable def f_M_readsClause_40 (z : zZ) (d : Nat) (v1 : Int) (v100 : Int) (μ : Mu) : mR := g_M_readsClause_40 (fun pc ls st μ => mE z d q_M_readsClause pc ls st μ) v1 v100 μ
def g_M_readsClause_93 (E : Nat → List zv → List zv → Mu → mR) (μ : Mu) : mR := E 93 [(2, 86), (9, 0)] [] μ
noncomputable def f_M_readsClause_93 (z : zZ) (d : Nat) (μ : Mu) : mR := g_M_readsClause_93 (fun pc ls st μ => mE z d q_M_readsClause pc ls st μ) μ
theorem k_M_readsClause : zprK q_M_readsClause.2.2.2 = true ∧ zinc q_M_readsClause.2.2.2 = true := by decide +kernel
set_option maxRecDepth 100000 in
theorem c_M_readsClause (z : zZ) (d : Nat) (μ : Mu) : mC z (d + 1) 209 [(2, 86)] μ = (mC z d 193 [(2, 86)] μ).bind fun q1 => ((mC z d 210 [(0, q1.1)] q1.2).bind fun q2 => (bif !decide (q2.1 = 0) then (bif !decide (q2.2 86 26 = 14) then (gI (q2.2 86 26) 14 (gI (q2.2 86 26) 14 ((mC z d 211 [(2, 86)] (zup (zup (zup (zup (zup q2.2 100 ((q2.2 86 26).toNat) q1.1) 86 10 (zw ((q2.2 86 10) + 1))) 101 ((q2.2 86 26).toNat) (q2.2 86 24)) 86 23 0) 86 25 0)).bind fun q3 => (bif !decide (q3.1 = 0) then (f_M_readsClause_93 z d q3.2) else (some (0, q3.2)))))) else ((mC z d 194 [(2, 86), (0, 4), (0, q2.2 86 10)] q2.2).bind fun q4 => (f_M_readsClause_40 z d q1.1 q4.1 q4.2))) else ((mC z d 194 [(2, 86), (0, 1), (0, q2.2 86 10)] q2.2).bind fun q5 => (f_M_readsClause_21 z d q1.1 q5.1 q5.2)))) := by
  rw [mC_succ q_M_readsClause rfl rfl rfl]
  rw [mE_bk (M := q_M_readsClause) k_M_readsClause.1 k_M_readsClause.2 [21, 40, 93] 400]
  have key : ∀ (C : Nat → List zv → Mu → mR) (E : Nat → List zv → List zv → Mu → mR), mbk C E q_M_readsClause.1 q_M_readsClause.2.1 z q_M_readsClause.2.2.2 [21, 40, 93] 400 (zfind q_M_readsClause.2.2.2 0) (zentry q_M_readsClause.2.2.1 [(2, 86)]) [] μ = (C 193 [(2, 86)] μ).bind fun q1 => ((C 210 [(0, q1.1)] q1.2).bind fun q2 => (bif !decide (q2.1 = 0) then (bif !decide (q2.2 86 26 = 14) then (gI (q2.2 86 26) 14 (gI (q2.2 86 26) 14 ((C 211 [(2, 86)] (zup (zup (zup (zup (zup q2.2 100 ((q2.2 86 26).toNat) q1.1) 86 10 (zw ((q2.2 86 10) + 1))) 101 ((q2.2 86 26).toNat) (q2.2 86 24)) 86 23 0) 86 25 0)).bind fun q3 => (bif !decide (q3.1 = 0) then (g_M_readsClause_93 E q3.2) else (some (0, q3.2)))))) else ((C 194 [(2, 86), (0, 4), (0, q2.2 86 10)] q2.2).bind fun q4 => (g_M_readsClause_40 E q1.1 q4.1 q4.2))) else ((C 194 [(2, 86), (0, 1), (0, q2.2 86 10)] q2.2).bind fun q5 => (g_M_readsClause_21 E q1.1 q5.1 q5.2)))) := by
    intro C E
    rfl
  exact key _ _
set_option maxRecDepth 100000 in
theorem e_M_readsClause_93 (z : zZ) (d : Nat) (μ : Mu) : f_M_readsClause_93 z d μ = gI (μ 86 26) 14 ((mC z d 222 [(2, 86)] (zup μ 102 ((μ 86 26).toNat) (μ 86 24))).bind fun q1 => (bif !decide (q1.1 = 0) then (gI (q1.2 86 26) 14 (some (1, zup (zup q1.2 103 ((q1.2 86 26).toNat) (q1.2 86 24)) 86 26 (zw ((q1.2 86 26) + 1))))) else (some (0, q1.2)))) := by
  show mE z d q_M_readsClause 93 [(2, 86), (9, 0)] [] μ = _
  rw [mE_bk (M := q_M_readsClause) k_M_readsClause.1 k_M_readsClause.2 [21, 40, 93] 400]
  have key : ∀ (C : Nat → List zv → Mu → mR) (E : Nat → List zv → List zv → Mu → mR), mbk C E q_M_readsClause.1 q_M_readsClause.2.1 z q_M_readsClause.2.2.2 [21, 40, 93] 400 (zfind q_M_readsClause.2.2.2 93) [(2, 86), (9, 0)] [] μ = gI (μ 86 26) 14 ((C 222 [(2, 86)] (zup μ 102 ((μ 86 26).toNat) (μ 86 24))).bind fun q1 => (bif !decide (q1.1 = 0) then (gI (q1.2 86 26) 14 (some (1, zup (zup q1.2 103 ((q1.2 86 26).toNat) (q1.2 86 24)) 86 26 (zw ((q1.2 86 26) + 1))))) else (some (0, q1.2)))) := by
    intro C E
    rfl
  exact key _ _
set_option maxRecDepth 100000 in
theorem e_M_readsClause_40 (z : zZ) (d : Nat) (v1 : Int) (v100 : Int) (μ : Mu) : f_M_readsClause_40 z d v1 v100 μ = g01 v100 (some (v100, μ)) := by
  show mE z d q_M_readsClause 40 [(2, 86), (0, v1)] [(0, v100)] μ = _
  rw [mE_bk (M := q_M_readsClause) k_M_readsClause.1 k_M_readsClause.2 [21, 40, 93] 400]
  have key : ∀ (C : Nat → List zv → Mu → mR) (E : Nat → List zv → List zv → Mu → mR), mbk C E q_M_readsClause.1 q_M_readsClause.2.1 z q_M_readsClause.2.2.2 [21, 40, 93] 400 (zfind q_M_readsClause.2.2.2 40) [(2, 86), (0, v1)] [(0, v100)] μ = g01 v100 (some (v100, μ)) := by
    intro C E
    rfl
  exact key _ _
set_option maxRecDepth 100000 in
theorem e_M_readsClause_21 (z : zZ) (d : Nat) (v1 : Int) (v100 : Int) (μ : Mu) : f_M_readsClause_21 z d v1 v100 μ = g01 v100 (some (v100, μ)) := by
  show mE z d q_M_readsClause 21 [(2, 86), (0, v1)] [(0, v100)] μ = _
  rw [mE_bk (M := q_M_readsClause) k_M_readsClause.1 k_M_readsClause.2 [21, 40, 93] 400]
  have key : ∀ (C : Nat → List zv → Mu → mR) (E : Nat → List zv → List zv → Mu → mR), mbk C E q_M_readsClause.1 q_M_readsClause.2.1 z q_M_readsClause.2.2.2 [21, 40, 93] 400 (zfind q_M_readsClause.2.2.2 21) [(2, 86), (0, v1)] [(0, v100)] μ = g01 v100 (some (v100, μ)) := by
    intro C E
    rfl
  exact key _ _
def g_M_isClause_30 (E : Nat → List zv → List zv → Mu → mR) (μ : Mu) : mR := E 30 [(9, 0)] [] μ
noncomputable def f_M_isClause_30 (z : zZ) (d : Nat) (μ : Mu) : mR := g_M_isClause_30 (fun pc ls st μ => mE z d q_M_isClause pc ls st μ) μ
def g_M_isClause_34 (E : Nat → List zv → List zv → Mu → mR) (μ : Mu) : mR := E 34 [(9, 0)] [] μ
noncomputable def f_M_isClause_34 (z : zZ) (d : Nat) (μ : Mu) : mR := g_M_isClause_34 (fun pc ls st μ => mE z d q_M_isClause pc ls st μ) μ
def g_M_isClause_35 (E : Nat → List zv → List zv → Mu → mR) (v100 : Int) (μ : Mu) : mR := E 35 [(9, 0)] [(0, v100)] μ
noncomputable def f_M_isClause_35 (z : zZ) (d : Nat) (v100 : Int) (μ : Mu) : mR := g_M_isClause_35 (fun pc ls st μ => mE z d q_M_isClause pc ls st μ) v100 μ
theorem k_M_isClause : zprK q_M_isClause.2.2.2 = true ∧ zinc q_M_isClause.2.2.2 = true := by decide +kernel
set_option maxRecDepth 100000 in
theorem c_M_isClause (z : zZ) (d : Nat) (v0 : Int) (μ : Mu) : mC z (d + 1) 210 [(0, v0)] μ = bif decide (v0 = 102) then (f_M_isClause_30 z d μ) else (bif decide (v0 = 112) then (f_M_isClause_30 z d μ) else (bif decide (v0 = 118) then (f_M_isClause_30 z d μ) else (bif decide (v0 = 100) then (f_M_isClause_30 z d μ) else (bif !decide (v0 = 119) then (f_M_isClause_34 z d μ) else (f_M_isClause_30 z d μ))))) := by
  rw [mC_succ q_M_isClause rfl rfl rfl]
  rw [mE_bk (M := q_M_isClause) k_M_isClause.1 k_M_isClause.2 [30, 34, 35] 400]
  have key : ∀ (C : Nat → List zv → Mu → mR) (E : Nat → List zv → List zv → Mu → mR), mbk C E q_M_isClause.1 q_M_isClause.2.1 z q_M_isClause.2.2.2 [30, 34, 35] 400 (zfind q_M_isClause.2.2.2 0) (zentry q_M_isClause.2.2.1 [(0, v0)]) [] μ = bif decide (v0 = 102) then (g_M_isClause_30 E μ) else (bif decide (v0 = 112) then (g_M_isClause_30 E μ) else (bif decide (v0 = 118) then (g_M_isClause_30 E μ) else (bif decide (v0 = 100) then (g_M_isClause_30 E μ) else (bif !decide (v0 = 119) then (g_M_isClause_34 E μ) else (g_M_isClause_30 E μ))))) := by
    intro C E
    rfl
  exact key _ _
set_option maxRecDepth 100000 in
theorem e_M_isClause_30 (z : zZ) (d : Nat) (μ : Mu) : f_M_isClause_30 z d μ = f_M_isClause_35 z d 1 μ := by
  show mE z d q_M_isClause 30 [(9, 0)] [] μ = _
  rw [mE_bk (M := q_M_isClause) k_M_isClause.1 k_M_isClause.2 [30, 34, 35] 400]
  have key : ∀ (C : Nat → List zv → Mu → mR) (E : Nat → List zv → List zv → Mu → mR), mbk C E q_M_isClause.1 q_M_isClause.2.1 z q_M_isClause.2.2.2 [30, 34, 35] 400 (zfind q_M_isClause.2.2.2 30) [(9, 0)] [] μ = g_M_isClause_35 E 1 μ := by
    intro C E
    rfl
  exact key _ _
set_option maxRecDepth 100000 in
theorem e_M_isClause_34 (z : zZ) (d : Nat) (μ : Mu) : f_M_isClause_34 z d μ = f_M_isClause_35 z d 0 μ := by
  show mE z d q_M_isClause 34 [(9, 0)] [] μ = _
  rw [mE_bk (M := q_M_isClause) k_M_isClause.1 k_M_isClause.2 [30, 34, 35] 400]
  have key : ∀ (C : Nat → List zv → Mu → mR) (E : Nat → List zv → List zv → Mu → mR), mbk C E q_M_isClause.1 q_M_isClause.2.1 z q_M_isClause.2.2.2 [30, 34, 35] 400 (zfind q_M_isClause.2.2.2 34) [(9, 0)] [] μ = g_M_isClause_35 E 0 μ := by
    intro C E
    rfl
  exact key _ _
set_option maxRecDepth 100000 in
theorem e_M_isClause_35 (z : zZ) (d : Nat) (v100 : Int) (μ : Mu) : f_M_isClause_35 z d v100 μ = g01 v100 (some (v100, μ)) := by
  show mE z d q_M_isClause 35 [(9, 0)] [(0, v100)] μ = _
  rw [mE_bk (M := q_M_isClause) k_M_isClause.1 k_M_isClause.2 [30, 34, 35] 400]
  have key : ∀ (C : Nat → List zv → Mu → mR) (E : Nat → List zv → List zv → Mu → mR), mbk C E q_M_isClause.1 q_M_isClause.2.1 z q_M_isClause.2.2.2 [30, 34, 35] 400 (zfind q_M_isClause.2.2.2 35) [(9, 0)] [(0, v100)] μ = g01 v100 (some (v100, μ)) := by
    intro C E
    rfl
  exact key _ _
