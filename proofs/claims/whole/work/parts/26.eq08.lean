def g_M_reckon_44 (E : Nat → List zv → List zv → Mu → mR) (v1 : Int) (v2 : Int) (μ : Mu) : mR := E 44 [(9, 0), (0, v1), (0, v2)] [] μ
noncomputable def f_M_reckon_44 (z : zZ) (d : Nat) (v1 : Int) (v2 : Int) (μ : Mu) : mR := g_M_reckon_44 (fun pc ls st μ => mE z d q_M_reckon pc ls st μ) v1 v2 μ
def g_M_reckon_48 (E : Nat → List zv → List zv → Mu → mR) (v1 : Int) (v2 : Int) (μ : Mu) : mR := E 48 [(9, 0), (0, v1), (0, v2)] [] μ
noncomputable def f_M_reckon_48 (z : zZ) (d : Nat) (v1 : Int) (v2 : Int) (μ : Mu) : mR := g_M_reckon_48 (fun pc ls st μ => mE z d q_M_reckon pc ls st μ) v1 v2 μ
def g_M_reckon_52 (E : Nat → List zv → List zv → Mu → mR) (v1 : Int) (v2 : Int) (μ : Mu) : mR := E 52 [(9, 0), (0, v1), (0, v2)] [] μ
noncomputable def f_M_reckon_52 (z : zZ) (d : Nat) (v1 : Int) (v2 : Int) (μ : Mu) : mR := g_M_reckon_52 (fun pc ls st μ => mE z d q_M_reckon pc ls st μ) v1 v2 μ
def g_M_reckon_56 (E : Nat → List zv → List zv → Mu → mR) (v1 : Int) (v2 : Int) (μ : Mu) : mR := E 56 [(9, 0), (0, v1), (0, v2)] [] μ
noncomputable def f_M_reckon_56 (z : zZ) (d : Nat) (v1 : Int) (v2 : Int) (μ : Mu) : mR := g_M_reckon_56 (fun pc ls st μ => mE z d q_M_reckon pc ls st μ) v1 v2 μ
def g_M_reckon_60 (E : Nat → List zv → List zv → Mu → mR) (v1 : Int) (v2 : Int) (μ : Mu) : mR := E 60 [(9, 0), (0, v1), (0, v2)] [] μ
noncomputable def f_M_reckon_60 (z : zZ) (d : Nat) (v1 : Int) (v2 : Int) (μ : Mu) : mR := g_M_reckon_60 (fun pc ls st μ => mE z d q_M_reckon pc ls st μ) v1 v2 μ
def g_M_reckon_64 (E : Nat → List zv → List zv → Mu → mR) (v1 : Int) (v2 : Int) (μ : Mu) : mR := E 64 [(9, 0), (0, v1), (0, v2)] [] μ
noncomputable def f_M_reckon_64 (z : zZ) (d : Nat) (v1 : Int) (v2 : Int) (μ : Mu) : mR := g_M_reckon_64 (fun pc ls st μ => mE z d q_M_reckon pc ls st μ) v1 v2 μ
def g_M_reckon_74 (E : Nat → List zv → List zv → Mu → mR) (v100 : Int) (μ : Mu) : mR := E 74 [(9, 0), (9, 0), (9, 0)] [(0, v100)] μ
noncomputable def f_M_reckon_74 (z : zZ) (d : Nat) (v100 : Int) (μ : Mu) : mR := g_M_reckon_74 (fun pc ls st μ => mE z d q_M_reckon pc ls st μ) v100 μ
def g_M_reckon_75 (E : Nat → List zv → List zv → Mu → mR) (v1 : Int) (v2 : Int) (μ : Mu) : mR := E 75 [(9, 0), (0, v1), (0, v2)] [] μ
noncomputable def f_M_reckon_75 (z : zZ) (d : Nat) (v1 : Int) (v2 : Int) (μ : Mu) : mR := g_M_reckon_75 (fun pc ls st μ => mE z d q_M_reckon pc ls st μ) v1 v2 μ
def g_M_reckon_85 (E : Nat → List zv → List zv → Mu → mR) (v100 : Int) (μ : Mu) : mR := E 85 [(9, 0), (9, 0), (9, 0)] [(0, v100)] μ
noncomputable def f_M_reckon_85 (z : zZ) (d : Nat) (v100 : Int) (μ : Mu) : mR := g_M_reckon_85 (fun pc ls st μ => mE z d q_M_reckon pc ls st μ) v100 μ
def g_M_reckon_86 (E : Nat → List zv → List zv → Mu → mR) (v1 : Int) (v2 : Int) (μ : Mu) : mR := E 86 [(9, 0), (0, v1), (0, v2)] [] μ
noncomputable def f_M_reckon_86 (z : zZ) (d : Nat) (v1 : Int) (v2 : Int) (μ : Mu) : mR := g_M_reckon_86 (fun pc ls st μ => mE z d q_M_reckon pc ls st μ) v1 v2 μ
def g_M_reckon_96 (E : Nat → List zv → List zv → Mu → mR) (v100 : Int) (μ : Mu) : mR := E 96 [(9, 0), (9, 0), (9, 0)] [(0, v100)] μ
noncomputable def f_M_reckon_96 (z : zZ) (d : Nat) (v100 : Int) (μ : Mu) : mR := g_M_reckon_96 (fun pc ls st μ => mE z d q_M_reckon pc ls st μ) v100 μ
theorem k_M_reckon : zprK q_M_reckon.2.2.2 = true ∧ zinc q_M_reckon.2.2.2 = true := by decide +kernel
set_option maxRecDepth 100000 in
theorem c_M_reckon (z : zZ) (d : Nat) (v0 : Int) (v1 : Int) (v2 : Int) (μ : Mu) : mC z (d + 1) 250 [(0, v0), (0, v1), (0, v2)] μ = bif decide (v0 = 2) then (f_M_reckon_44 z d v1 v2 μ) else bif decide (v0 = 3) then (f_M_reckon_48 z d v1 v2 μ) else bif decide (v0 = 4) then (f_M_reckon_52 z d v1 v2 μ) else bif decide (v0 = 5) then (f_M_reckon_56 z d v1 v2 μ) else bif decide (v0 = 6) then (f_M_reckon_60 z d v1 v2 μ) else bif decide (v0 = 7) then (f_M_reckon_64 z d v1 v2 μ) else bif decide (v0 = 8) then (f_M_reckon_75 z d v1 v2 μ) else (f_M_reckon_86 z d v1 v2 μ) := by
  rw [mC_succ q_M_reckon rfl rfl rfl]
  rw [mE_bk (M := q_M_reckon) k_M_reckon.1 k_M_reckon.2 [44, 48, 52, 56, 60, 64, 74, 75, 85, 86, 96] 400]
  have key : ∀ (C : Nat → List zv → Mu → mR) (E : Nat → List zv → List zv → Mu → mR), mbk C E q_M_reckon.1 q_M_reckon.2.1 z q_M_reckon.2.2.2 [44, 48, 52, 56, 60, 64, 74, 75, 85, 86, 96] 400 (zfind q_M_reckon.2.2.2 0) (zentry q_M_reckon.2.2.1 [(0, v0), (0, v1), (0, v2)]) [] μ = bif decide (v0 = 2) then (g_M_reckon_44 E v1 v2 μ) else bif decide (v0 = 3) then (g_M_reckon_48 E v1 v2 μ) else bif decide (v0 = 4) then (g_M_reckon_52 E v1 v2 μ) else bif decide (v0 = 5) then (g_M_reckon_56 E v1 v2 μ) else bif decide (v0 = 6) then (g_M_reckon_60 E v1 v2 μ) else bif decide (v0 = 7) then (g_M_reckon_64 E v1 v2 μ) else bif decide (v0 = 8) then (g_M_reckon_75 E v1 v2 μ) else (g_M_reckon_86 E v1 v2 μ) := by
    intro C E
    rfl
  exact key _ _
set_option maxRecDepth 100000 in
theorem e_M_reckon_44 (z : zZ) (d : Nat) (v1 : Int) (v2 : Int) (μ : Mu) : f_M_reckon_44 z d v1 v2 μ = some (zw (v1 + v2), μ) := by
  show mE z d q_M_reckon 44 [(9, 0), (0, v1), (0, v2)] [] μ = _
  rw [mE_bk (M := q_M_reckon) k_M_reckon.1 k_M_reckon.2 [44, 48, 52, 56, 60, 64, 74, 75, 85, 86, 96] 400]
  have key : ∀ (C : Nat → List zv → Mu → mR) (E : Nat → List zv → List zv → Mu → mR), mbk C E q_M_reckon.1 q_M_reckon.2.1 z q_M_reckon.2.2.2 [44, 48, 52, 56, 60, 64, 74, 75, 85, 86, 96] 400 (zfind q_M_reckon.2.2.2 44) [(9, 0), (0, v1), (0, v2)] [] μ = some (zw (v1 + v2), μ) := by
    intro C E
    rfl
  exact key _ _
set_option maxRecDepth 100000 in
theorem e_M_reckon_48 (z : zZ) (d : Nat) (v1 : Int) (v2 : Int) (μ : Mu) : f_M_reckon_48 z d v1 v2 μ = some (zw (v1 - v2), μ) := by
  show mE z d q_M_reckon 48 [(9, 0), (0, v1), (0, v2)] [] μ = _
  rw [mE_bk (M := q_M_reckon) k_M_reckon.1 k_M_reckon.2 [44, 48, 52, 56, 60, 64, 74, 75, 85, 86, 96] 400]
  have key : ∀ (C : Nat → List zv → Mu → mR) (E : Nat → List zv → List zv → Mu → mR), mbk C E q_M_reckon.1 q_M_reckon.2.1 z q_M_reckon.2.2.2 [44, 48, 52, 56, 60, 64, 74, 75, 85, 86, 96] 400 (zfind q_M_reckon.2.2.2 48) [(9, 0), (0, v1), (0, v2)] [] μ = some (zw (v1 - v2), μ) := by
    intro C E
    rfl
  exact key _ _
set_option maxRecDepth 100000 in
theorem e_M_reckon_52 (z : zZ) (d : Nat) (v1 : Int) (v2 : Int) (μ : Mu) : f_M_reckon_52 z d v1 v2 μ = some (zw (v1 * v2), μ) := by
  show mE z d q_M_reckon 52 [(9, 0), (0, v1), (0, v2)] [] μ = _
  rw [mE_bk (M := q_M_reckon) k_M_reckon.1 k_M_reckon.2 [44, 48, 52, 56, 60, 64, 74, 75, 85, 86, 96] 400]
  have key : ∀ (C : Nat → List zv → Mu → mR) (E : Nat → List zv → List zv → Mu → mR), mbk C E q_M_reckon.1 q_M_reckon.2.1 z q_M_reckon.2.2.2 [44, 48, 52, 56, 60, 64, 74, 75, 85, 86, 96] 400 (zfind q_M_reckon.2.2.2 52) [(9, 0), (0, v1), (0, v2)] [] μ = some (zw (v1 * v2), μ) := by
    intro C E
    rfl
  exact key _ _
set_option maxRecDepth 100000 in
theorem e_M_reckon_56 (z : zZ) (d : Nat) (v1 : Int) (v2 : Int) (μ : Mu) : f_M_reckon_56 z d v1 v2 μ = gN v2 (some (z_div v1 v2, μ)) := by
  show mE z d q_M_reckon 56 [(9, 0), (0, v1), (0, v2)] [] μ = _
  rw [mE_bk (M := q_M_reckon) k_M_reckon.1 k_M_reckon.2 [44, 48, 52, 56, 60, 64, 74, 75, 85, 86, 96] 400]
  have key : ∀ (C : Nat → List zv → Mu → mR) (E : Nat → List zv → List zv → Mu → mR), mbk C E q_M_reckon.1 q_M_reckon.2.1 z q_M_reckon.2.2.2 [44, 48, 52, 56, 60, 64, 74, 75, 85, 86, 96] 400 (zfind q_M_reckon.2.2.2 56) [(9, 0), (0, v1), (0, v2)] [] μ = gN v2 (some (z_div v1 v2, μ)) := by
    intro C E
    rfl
  exact key _ _
set_option maxRecDepth 100000 in
theorem e_M_reckon_60 (z : zZ) (d : Nat) (v1 : Int) (v2 : Int) (μ : Mu) : f_M_reckon_60 z d v1 v2 μ = gN v2 (some (z_rem v1 v2, μ)) := by
  show mE z d q_M_reckon 60 [(9, 0), (0, v1), (0, v2)] [] μ = _
  rw [mE_bk (M := q_M_reckon) k_M_reckon.1 k_M_reckon.2 [44, 48, 52, 56, 60, 64, 74, 75, 85, 86, 96] 400]
  have key : ∀ (C : Nat → List zv → Mu → mR) (E : Nat → List zv → List zv → Mu → mR), mbk C E q_M_reckon.1 q_M_reckon.2.1 z q_M_reckon.2.2.2 [44, 48, 52, 56, 60, 64, 74, 75, 85, 86, 96] 400 (zfind q_M_reckon.2.2.2 60) [(9, 0), (0, v1), (0, v2)] [] μ = gN v2 (some (z_rem v1 v2, μ)) := by
    intro C E
    rfl
  exact key _ _
set_option maxRecDepth 100000 in
theorem e_M_reckon_64 (z : zZ) (d : Nat) (v1 : Int) (v2 : Int) (μ : Mu) : f_M_reckon_64 z d v1 v2 μ = bif decide (v2 ≤ v1) then (f_M_reckon_74 z d 0 μ) else (f_M_reckon_74 z d 1 μ) := by
  show mE z d q_M_reckon 64 [(9, 0), (0, v1), (0, v2)] [] μ = _
  rw [mE_bk (M := q_M_reckon) k_M_reckon.1 k_M_reckon.2 [44, 48, 52, 56, 60, 64, 74, 75, 85, 86, 96] 400]
  have key : ∀ (C : Nat → List zv → Mu → mR) (E : Nat → List zv → List zv → Mu → mR), mbk C E q_M_reckon.1 q_M_reckon.2.1 z q_M_reckon.2.2.2 [44, 48, 52, 56, 60, 64, 74, 75, 85, 86, 96] 400 (zfind q_M_reckon.2.2.2 64) [(9, 0), (0, v1), (0, v2)] [] μ = bif decide (v2 ≤ v1) then (g_M_reckon_74 E 0 μ) else (g_M_reckon_74 E 1 μ) := by
    intro C E
    rfl
  exact key _ _
set_option maxRecDepth 100000 in
theorem e_M_reckon_75 (z : zZ) (d : Nat) (v1 : Int) (v2 : Int) (μ : Mu) : f_M_reckon_75 z d v1 v2 μ = bif decide (v1 ≤ v2) then (f_M_reckon_85 z d 0 μ) else (f_M_reckon_85 z d 1 μ) := by
  show mE z d q_M_reckon 75 [(9, 0), (0, v1), (0, v2)] [] μ = _
  rw [mE_bk (M := q_M_reckon) k_M_reckon.1 k_M_reckon.2 [44, 48, 52, 56, 60, 64, 74, 75, 85, 86, 96] 400]
  have key : ∀ (C : Nat → List zv → Mu → mR) (E : Nat → List zv → List zv → Mu → mR), mbk C E q_M_reckon.1 q_M_reckon.2.1 z q_M_reckon.2.2.2 [44, 48, 52, 56, 60, 64, 74, 75, 85, 86, 96] 400 (zfind q_M_reckon.2.2.2 75) [(9, 0), (0, v1), (0, v2)] [] μ = bif decide (v1 ≤ v2) then (g_M_reckon_85 E 0 μ) else (g_M_reckon_85 E 1 μ) := by
    intro C E
    rfl
  exact key _ _
set_option maxRecDepth 100000 in
theorem e_M_reckon_86 (z : zZ) (d : Nat) (v1 : Int) (v2 : Int) (μ : Mu) : f_M_reckon_86 z d v1 v2 μ = bif !decide (v1 = v2) then (f_M_reckon_96 z d 0 μ) else (f_M_reckon_96 z d 1 μ) := by
  show mE z d q_M_reckon 86 [(9, 0), (0, v1), (0, v2)] [] μ = _
  rw [mE_bk (M := q_M_reckon) k_M_reckon.1 k_M_reckon.2 [44, 48, 52, 56, 60, 64, 74, 75, 85, 86, 96] 400]
  have key : ∀ (C : Nat → List zv → Mu → mR) (E : Nat → List zv → List zv → Mu → mR), mbk C E q_M_reckon.1 q_M_reckon.2.1 z q_M_reckon.2.2.2 [44, 48, 52, 56, 60, 64, 74, 75, 85, 86, 96] 400 (zfind q_M_reckon.2.2.2 86) [(9, 0), (0, v1), (0, v2)] [] μ = bif !decide (v1 = v2) then (g_M_reckon_96 E 0 μ) else (g_M_reckon_96 E 1 μ) := by
    intro C E
    rfl
  exact key _ _
set_option maxRecDepth 100000 in
theorem e_M_reckon_74 (z : zZ) (d : Nat) (v100 : Int) (μ : Mu) : f_M_reckon_74 z d v100 μ = some (v100, μ) := by
  show mE z d q_M_reckon 74 [(9, 0), (9, 0), (9, 0)] [(0, v100)] μ = _
  rw [mE_bk (M := q_M_reckon) k_M_reckon.1 k_M_reckon.2 [44, 48, 52, 56, 60, 64, 74, 75, 85, 86, 96] 400]
  have key : ∀ (C : Nat → List zv → Mu → mR) (E : Nat → List zv → List zv → Mu → mR), mbk C E q_M_reckon.1 q_M_reckon.2.1 z q_M_reckon.2.2.2 [44, 48, 52, 56, 60, 64, 74, 75, 85, 86, 96] 400 (zfind q_M_reckon.2.2.2 74) [(9, 0), (9, 0), (9, 0)] [(0, v100)] μ = some (v100, μ) := by
    intro C E
    rfl
  exact key _ _
set_option maxRecDepth 100000 in
theorem e_M_reckon_85 (z : zZ) (d : Nat) (v100 : Int) (μ : Mu) : f_M_reckon_85 z d v100 μ = some (v100, μ) := by
  show mE z d q_M_reckon 85 [(9, 0), (9, 0), (9, 0)] [(0, v100)] μ = _
  rw [mE_bk (M := q_M_reckon) k_M_reckon.1 k_M_reckon.2 [44, 48, 52, 56, 60, 64, 74, 75, 85, 86, 96] 400]
  have key : ∀ (C : Nat → List zv → Mu → mR) (E : Nat → List zv → List zv → Mu → mR), mbk C E q_M_reckon.1 q_M_reckon.2.1 z q_M_reckon.2.2.2 [44, 48, 52, 56, 60, 64, 74, 75, 85, 86, 96] 400 (zfind q_M_reckon.2.2.2 85) [(9, 0), (9, 0), (9, 0)] [(0, v100)] μ = some (v100, μ) := by
    intro C E
    rfl
  exact key _ _
set_option maxRecDepth 100000 in
theorem e_M_reckon_96 (z : zZ) (d : Nat) (v100 : Int) (μ : Mu) : f_M_reckon_96 z d v100 μ = some (v100, μ) := by
  show mE z d q_M_reckon 96 [(9, 0), (9, 0), (9, 0)] [(0, v100)] μ = _
  rw [mE_bk (M := q_M_reckon) k_M_reckon.1 k_M_reckon.2 [44, 48, 52, 56, 60, 64, 74, 75, 85, 86, 96] 400]
  have key : ∀ (C : Nat → List zv → Mu → mR) (E : Nat → List zv → List zv → Mu → mR), mbk C E q_M_reckon.1 q_M_reckon.2.1 z q_M_reckon.2.2.2 [44, 48, 52, 56, 60, 64, 74, 75, 85, 86, 96] 400 (zfind q_M_reckon.2.2.2 96) [(9, 0), (9, 0), (9, 0)] [(0, v100)] μ = some (v100, μ) := by
    intro C E
    rfl
  exact key _ _
def g_M_judged_26 (E : Nat → List zv → List zv → Mu → mR) (μ : Mu) : mR := E 26 [(9, 0), (9, 0), (9, 0), (9, 0)] [] μ
noncomputable def f_M_judged_26 (z : zZ) (d : Nat) (μ : Mu) : mR := g_M_judged_26 (fun pc ls st μ => mE z d q_M_judged pc ls st μ) μ
def g_M_judged_41 (E : Nat → List zv → List zv → Mu → mR) (v1 : Int) (μ : Mu) : mR := E 41 [(2, 86), (0, v1), (9, 0), (9, 0)] [] μ
noncomputable def f_M_judged_41 (z : zZ) (d : Nat) (v1 : Int) (μ : Mu) : mR := g_M_judged_41 (fun pc ls st μ => mE z d q_M_judged pc ls st μ) v1 μ
def g_M_judged_47 (E : Nat → List zv → List zv → Mu → mR) (v1 : Int) (v3 : Int) (μ : Mu) : mR := E 47 [(2, 86), (0, v1), (9, 0), (0, v3)] [] μ
noncomputable def f_M_judged_47 (z : zZ) (d : Nat) (v1 : Int) (v3 : Int) (μ : Mu) : mR := g_M_judged_47 (fun pc ls st μ => mE z d q_M_judged pc ls st μ) v1 v3 μ
def g_M_judged_71 (E : Nat → List zv → List zv → Mu → mR) (v3 : Int) (μ : Mu) : mR := E 71 [(2, 86), (9, 0), (9, 0), (0, v3)] [] μ
noncomputable def f_M_judged_71 (z : zZ) (d : Nat) (v3 : Int) (μ : Mu) : mR := g_M_judged_71 (fun pc ls st μ => mE z d q_M_judged pc ls st μ) v3 μ
theorem k_M_judged : zprK q_M_judged.2.2.2 = true ∧ zinc q_M_judged.2.2.2 = true := by decide +kernel
set_option maxRecDepth 100000 in
theorem c_M_judged (z : zZ) (d : Nat) (v1 : Int) (v2 : Int) (μ : Mu) : mC z (d + 1) 251 [(2, 86), (0, v1), (0, v2)] μ = (mC z d 185 [(0, v1)] μ).bind fun q1 => (bif decide (q1.1 = 0) then (f_M_judged_26 z d q1.2) else ((mC z d 183 [(0, v2), (0, 1), (0, 160)] q1.2).bind fun q2 => (bif decide (q2.1 = 0) then (f_M_judged_26 z d q2.2) else (bif decide (v2 ≤ q2.2 86 9) then ((mC z d 228 [(2, 86), (0, v2)] q2.2).bind fun q3 => (bif !decide (q3.1 = 0) then (f_M_judged_41 z d v1 q3.2) else (some (q3.2 86 12, q3.2)))) else (f_M_judged_26 z d q2.2))))) := by
  rw [mC_succ q_M_judged rfl rfl rfl]
  rw [mE_bk (M := q_M_judged) k_M_judged.1 k_M_judged.2 [26, 41, 47, 71] 400]
  have key : ∀ (C : Nat → List zv → Mu → mR) (E : Nat → List zv → List zv → Mu → mR), mbk C E q_M_judged.1 q_M_judged.2.1 z q_M_judged.2.2.2 [26, 41, 47, 71] 400 (zfind q_M_judged.2.2.2 0) (zentry q_M_judged.2.2.1 [(2, 86), (0, v1), (0, v2)]) [] μ = (C 185 [(0, v1)] μ).bind fun q1 => (bif decide (q1.1 = 0) then (g_M_judged_26 E q1.2) else ((C 183 [(0, v2), (0, 1), (0, 160)] q1.2).bind fun q2 => (bif decide (q2.1 = 0) then (g_M_judged_26 E q2.2) else (bif decide (v2 ≤ q2.2 86 9) then ((C 228 [(2, 86), (0, v2)] q2.2).bind fun q3 => (bif !decide (q3.1 = 0) then (g_M_judged_41 E v1 q3.2) else (some (q3.2 86 12, q3.2)))) else (g_M_judged_26 E q2.2))))) := by
    intro C E
    rfl
  exact key _ _
set_option maxRecDepth 100000 in
theorem e_M_judged_26 (z : zZ) (d : Nat) (μ : Mu) : f_M_judged_26 z d μ = some ((-1), μ) := by
  show mE z d q_M_judged 26 [(9, 0), (9, 0), (9, 0), (9, 0)] [] μ = _
  rw [mE_bk (M := q_M_judged) k_M_judged.1 k_M_judged.2 [26, 41, 47, 71] 400]
  have key : ∀ (C : Nat → List zv → Mu → mR) (E : Nat → List zv → List zv → Mu → mR), mbk C E q_M_judged.1 q_M_judged.2.1 z q_M_judged.2.2.2 [26, 41, 47, 71] 400 (zfind q_M_judged.2.2.2 26) [(9, 0), (9, 0), (9, 0), (9, 0)] [] μ = some ((-1), μ) := by
    intro C E
    rfl
  exact key _ _
set_option maxRecDepth 100000 in
theorem e_M_judged_41 (z : zZ) (d : Nat) (v1 : Int) (μ : Mu) : f_M_judged_41 z d v1 μ = (mC z d 252 [(2, 86)] μ).bind fun q1 => (f_M_judged_47 z d v1 0 q1.2) := by
  show mE z d q_M_judged 41 [(2, 86), (0, v1), (9, 0), (9, 0)] [] μ = _
  rw [mE_bk (M := q_M_judged) k_M_judged.1 k_M_judged.2 [26, 41, 47, 71] 400]
  have key : ∀ (C : Nat → List zv → Mu → mR) (E : Nat → List zv → List zv → Mu → mR), mbk C E q_M_judged.1 q_M_judged.2.1 z q_M_judged.2.2.2 [26, 41, 47, 71] 400 (zfind q_M_judged.2.2.2 41) [(2, 86), (0, v1), (9, 0), (9, 0)] [] μ = (C 252 [(2, 86)] μ).bind fun q1 => (g_M_judged_47 E v1 0 q1.2) := by
    intro C E
    rfl
  exact key _ _
set_option maxRecDepth 100000 in
theorem e_M_judged_47 (z : zZ) (d : Nat) (v1 : Int) (v3 : Int) (μ : Mu) : f_M_judged_47 z d v1 v3 μ = bif decide (μ 86 48 ≤ v3) then (f_M_judged_71 z d v3 μ) else ((mC z d 233 [(2, 86), (0, v1), (0, v3)] μ).bind fun q1 => (bif decide (q1.1 = 0) then (f_M_judged_71 z d v3 q1.2) else (f_M_judged_47 z d v1 (zw (v3 + 1)) q1.2))) := by
  show mE z d q_M_judged 47 [(2, 86), (0, v1), (9, 0), (0, v3)] [] μ = _
  rw [mE_bk (M := q_M_judged) k_M_judged.1 k_M_judged.2 [26, 41, 47, 71] 400]
  have key : ∀ (C : Nat → List zv → Mu → mR) (E : Nat → List zv → List zv → Mu → mR), mbk C E q_M_judged.1 q_M_judged.2.1 z q_M_judged.2.2.2 [26, 41, 47, 71] 400 (zfind q_M_judged.2.2.2 47) [(2, 86), (0, v1), (9, 0), (0, v3)] [] μ = bif decide (μ 86 48 ≤ v3) then (g_M_judged_71 E v3 μ) else ((C 233 [(2, 86), (0, v1), (0, v3)] μ).bind fun q1 => (bif decide (q1.1 = 0) then (g_M_judged_71 E v3 q1.2) else (g_M_judged_47 E v1 (zw (v3 + 1)) q1.2))) := by
    intro C E
    rfl
  exact key _ _
set_option maxRecDepth 100000 in
theorem e_M_judged_71 (z : zZ) (d : Nat) (v3 : Int) (μ : Mu) : f_M_judged_71 z d v3 μ = (mC z d 254 [(2, 86)] μ).bind fun q1 => (some (v3, q1.2)) := by
  show mE z d q_M_judged 71 [(2, 86), (9, 0), (9, 0), (0, v3)] [] μ = _
  rw [mE_bk (M := q_M_judged) k_M_judged.1 k_M_judged.2 [26, 41, 47, 71] 400]
  have key : ∀ (C : Nat → List zv → Mu → mR) (E : Nat → List zv → List zv → Mu → mR), mbk C E q_M_judged.1 q_M_judged.2.1 z q_M_judged.2.2.2 [26, 41, 47, 71] 400 (zfind q_M_judged.2.2.2 71) [(2, 86), (9, 0), (9, 0), (0, v3)] [] μ = (C 254 [(2, 86)] μ).bind fun q1 => (some (v3, q1.2)) := by
    intro C E
    rfl
  exact key _ _
theorem k_M_begins : zprK q_M_begins.2.2.2 = true ∧ zinc q_M_begins.2.2.2 = true := by decide +kernel
set_option maxRecDepth 100000 in
theorem c_M_begins (z : zZ) (d : Nat) (μ : Mu) : mC z (d + 1) 252 [(2, 86)] μ = (mC z d 253 [(2, 90), (2, 119), (0, 24)] (zup (zup (zup μ 86 53 (μ 86 0)) 86 54 (μ 86 16)) 86 55 (μ 86 17))).bind fun q1 => ((mC z d 253 [(2, 91), (2, 120), (0, 24)] q1.2).bind fun q2 => ((mC z d 253 [(2, 92), (2, 121), (0, 24)] q2.2).bind fun q3 => (some (0, q3.2)))) := by
  rw [mC_succ q_M_begins rfl rfl rfl]
  rw [mE_bk (M := q_M_begins) k_M_begins.1 k_M_begins.2 [] 400]
  have key : ∀ (C : Nat → List zv → Mu → mR) (E : Nat → List zv → List zv → Mu → mR), mbk C E q_M_begins.1 q_M_begins.2.1 z q_M_begins.2.2.2 [] 400 (zfind q_M_begins.2.2.2 0) (zentry q_M_begins.2.2.1 [(2, 86)]) [] μ = (C 253 [(2, 90), (2, 119), (0, 24)] (zup (zup (zup μ 86 53 (μ 86 0)) 86 54 (μ 86 16)) 86 55 (μ 86 17))).bind fun q1 => ((C 253 [(2, 91), (2, 120), (0, 24)] q1.2).bind fun q2 => ((C 253 [(2, 92), (2, 121), (0, 24)] q2.2).bind fun q3 => (some (0, q3.2)))) := by
    intro C E
    rfl
  exact key _ _
def g_M_copies_2 (E : Nat → List zv → List zv → Mu → mR) (v0 : Int) (v1 : Int) (v2 : Int) (v3 : Int) (μ : Mu) : mR := E 2 [(2, v0), (2, v1), (0, v2), (0, v3)] [] μ
noncomputable def f_M_copies_2 (z : zZ) (d : Nat) (v0 : Int) (v1 : Int) (v2 : Int) (v3 : Int) (μ : Mu) : mR := g_M_copies_2 (fun pc ls st μ => mE z d q_M_copies pc ls st μ) v0 v1 v2 v3 μ
theorem k_M_copies : zprK q_M_copies.2.2.2 = true ∧ zinc q_M_copies.2.2.2 = true := by decide +kernel
set_option maxRecDepth 100000 in
theorem c_M_copies (z : zZ) (d : Nat) (v0 : Int) (v1 : Int) (v2 : Int) (μ : Mu) : mC z (d + 1) 253 [(2, v0), (2, v1), (0, v2)] μ = f_M_copies_2 z d v0 v1 v2 0 μ := by
  rw [mC_succ q_M_copies rfl rfl rfl]
  rw [mE_bk (M := q_M_copies) k_M_copies.1 k_M_copies.2 [2] 400]
  have key : ∀ (C : Nat → List zv → Mu → mR) (E : Nat → List zv → List zv → Mu → mR), mbk C E q_M_copies.1 q_M_copies.2.1 z q_M_copies.2.2.2 [2] 400 (zfind q_M_copies.2.2.2 0) (zentry q_M_copies.2.2.1 [(2, v0), (2, v1), (0, v2)]) [] μ = g_M_copies_2 E v0 v1 v2 0 μ := by
    intro C E
    rfl
  exact key _ _
set_option maxRecDepth 100000 in
theorem e_M_copies_2 (z : zZ) (d : Nat) (v0 : Int) (v1 : Int) (v2 : Int) (v3 : Int) (μ : Mu) : f_M_copies_2 z d v0 v1 v2 v3 μ = bif decide (v2 ≤ v3) then (some (0, μ)) else (gA v0 v3 (gA v1 v3 (f_M_copies_2 z d v0 v1 v2 (zw (v3 + 1)) (zup μ v1.toNat v3.toNat (μ v0.toNat v3.toNat))))) := by
  show mE z d q_M_copies 2 [(2, v0), (2, v1), (0, v2), (0, v3)] [] μ = _
  rw [mE_bk (M := q_M_copies) k_M_copies.1 k_M_copies.2 [2] 400]
  have key : ∀ (C : Nat → List zv → Mu → mR) (E : Nat → List zv → List zv → Mu → mR), mbk C E q_M_copies.1 q_M_copies.2.1 z q_M_copies.2.2.2 [2] 400 (zfind q_M_copies.2.2.2 2) [(2, v0), (2, v1), (0, v2), (0, v3)] [] μ = bif decide (v2 ≤ v3) then (some (0, μ)) else (gA v0 v3 (gA v1 v3 (g_M_copies_2 E v0 v1 v2 (zw (v3 + 1)) (zup μ v1.toNat v3.toNat (μ v0.toNat v3.toNat))))) := by
    intro C E
    rfl
  exact key _ _
theorem k_M_again : zprK q_M_again.2.2.2 = true ∧ zinc q_M_again.2.2.2 = true := by decide +kernel
set_option maxRecDepth 100000 in
theorem c_M_again (z : zZ) (d : Nat) (μ : Mu) : mC z (d + 1) 254 [(2, 86)] μ = (mC z d 253 [(2, 119), (2, 90), (0, 24)] (zup (zup (zup μ 86 0 (μ 86 53)) 86 16 (μ 86 54)) 86 17 (μ 86 55))).bind fun q1 => ((mC z d 253 [(2, 120), (2, 91), (0, 24)] q1.2).bind fun q2 => ((mC z d 253 [(2, 121), (2, 92), (0, 24)] q2.2).bind fun q3 => (some (0, q3.2)))) := by
  rw [mC_succ q_M_again rfl rfl rfl]
  rw [mE_bk (M := q_M_again) k_M_again.1 k_M_again.2 [] 400]
  have key : ∀ (C : Nat → List zv → Mu → mR) (E : Nat → List zv → List zv → Mu → mR), mbk C E q_M_again.1 q_M_again.2.1 z q_M_again.2.2.2 [] 400 (zfind q_M_again.2.2.2 0) (zentry q_M_again.2.2.1 [(2, 86)]) [] μ = (C 253 [(2, 119), (2, 90), (0, 24)] (zup (zup (zup μ 86 0 (μ 86 53)) 86 16 (μ 86 54)) 86 17 (μ 86 55))).bind fun q1 => ((C 253 [(2, 120), (2, 91), (0, 24)] q1.2).bind fun q2 => ((C 253 [(2, 121), (2, 92), (0, 24)] q2.2).bind fun q3 => (some (0, q3.2)))) := by
    intro C E
    rfl
  exact key _ _
def g_M_turn_4 (E : Nat → List zv → List zv → Mu → mR) (v1 : Int) (v2 : Int) (μ : Mu) : mR := E 4 [(2, 86), (0, v1), (0, v2), (9, 0), (9, 0)] [] μ
noncomputable def f_M_turn_4 (z : zZ) (d : Nat) (v1 : Int) (v2 : Int) (μ : Mu) : mR := g_M_turn_4 (fun pc ls st μ => mE z d q_M_turn pc ls st μ) v1 v2 μ
def g_M_turn_60 (E : Nat → List zv → List zv → Mu → mR) (v1 : Int) (v2 : Int) (v3 : Int) (v4 : Int) (v100 : Int) (v101 : Int) (μ : Mu) : mR := E 60 [(2, 86), (0, v1), (0, v2), (0, v3), (0, v4)] [(0, v101), (0, v100)] μ
noncomputable def f_M_turn_60 (z : zZ) (d : Nat) (v1 : Int) (v2 : Int) (v3 : Int) (v4 : Int) (v100 : Int) (v101 : Int) (μ : Mu) : mR := g_M_turn_60 (fun pc ls st μ => mE z d q_M_turn pc ls st μ) v1 v2 v3 v4 v100 v101 μ
def g_M_turn_112 (E : Nat → List zv → List zv → Mu → mR) (v1 : Int) (v2 : Int) (μ : Mu) : mR := E 112 [(2, 86), (0, v1), (0, v2), (9, 0), (9, 0)] [] μ
noncomputable def f_M_turn_112 (z : zZ) (d : Nat) (v1 : Int) (v2 : Int) (μ : Mu) : mR := g_M_turn_112 (fun pc ls st μ => mE z d q_M_turn pc ls st μ) v1 v2 μ
theorem k_M_turn : zprK q_M_turn.2.2.2 = true ∧ zinc q_M_turn.2.2.2 = true := by decide +kernel
set_option maxRecDepth 100000 in
theorem c_M_turn (z : zZ) (d : Nat) (μ : Mu) : mC z (d + 1) 255 [(2, 86)] μ = f_M_turn_4 z d 0 0 μ := by
  rw [mC_succ q_M_turn rfl rfl rfl]
  rw [mE_bk (M := q_M_turn) k_M_turn.1 k_M_turn.2 [4, 60, 112] 400]
  have key : ∀ (C : Nat → List zv → Mu → mR) (E : Nat → List zv → List zv → Mu → mR), mbk C E q_M_turn.1 q_M_turn.2.1 z q_M_turn.2.2.2 [4, 60, 112] 400 (zfind q_M_turn.2.2.2 0) (zentry q_M_turn.2.2.1 [(2, 86)]) [] μ = g_M_turn_4 E 0 0 μ := by
    intro C E
    rfl
  exact key _ _
set_option maxRecDepth 100000 in
theorem e_M_turn_4 (z : zZ) (d : Nat) (v1 : Int) (v2 : Int) (μ : Mu) : f_M_turn_4 z d v1 v2 μ = bif decide (24 ≤ v2) then (some (v1, zup μ 86 1 (zw ((μ 86 1) + 1)))) else ((mC z d 244 [(2, 86)] μ).bind fun q1 => ((mC z d 246 [(2, 86), (0, z_div v2 12)] q1.2).bind fun q2 => (gI v2 24 ((mC z d 248 [(2, 86), (0, 100), (0, 10)] (zup (zup q2.2 110 7 (z_rem v2 12)) 110 8 (q2.2 90 v2.toNat))).bind fun q3 => (f_M_turn_60 z d v1 v2 (z_div v2 12) q1.1 q1.1 q3.1 q3.2))))) := by
  show mE z d q_M_turn 4 [(2, 86), (0, v1), (0, v2), (9, 0), (9, 0)] [] μ = _
  rw [mE_bk (M := q_M_turn) k_M_turn.1 k_M_turn.2 [4, 60, 112] 400]
  have key : ∀ (C : Nat → List zv → Mu → mR) (E : Nat → List zv → List zv → Mu → mR), mbk C E q_M_turn.1 q_M_turn.2.1 z q_M_turn.2.2.2 [4, 60, 112] 400 (zfind q_M_turn.2.2.2 4) [(2, 86), (0, v1), (0, v2), (9, 0), (9, 0)] [] μ = bif decide (24 ≤ v2) then (some (v1, zup μ 86 1 (zw ((μ 86 1) + 1)))) else ((C 244 [(2, 86)] μ).bind fun q1 => ((C 246 [(2, 86), (0, z_div v2 12)] q1.2).bind fun q2 => (gI v2 24 ((C 248 [(2, 86), (0, 100), (0, 10)] (zup (zup q2.2 110 7 (z_rem v2 12)) 110 8 (q2.2 90 v2.toNat))).bind fun q3 => (g_M_turn_60 E v1 v2 (z_div v2 12) q1.1 q1.1 q3.1 q3.2))))) := by
    intro C E
    rfl
  exact key _ _
set_option maxRecDepth 100000 in
theorem e_M_turn_60 (z : zZ) (d : Nat) (v1 : Int) (v2 : Int) (v3 : Int) (v4 : Int) (v100 : Int) (v101 : Int) (μ : Mu) : f_M_turn_60 z d v1 v2 v3 v4 v100 v101 μ = bif decide (v101 ≤ v100) then (f_M_turn_112 z d v1 v2 μ) else (gI v2 24 (bif !decide (μ 90 v2.toNat = 0) then (gI v2 24 (gI v2 24 ((mC z d 204 [(2, 90), (0, zw ((zw (12 * (zw (1 - v3)))) + (z_rem v2 12))), (0, 1)] (zup μ 90 v2.toNat (zw ((μ 90 v2.toNat) - 1)))).bind fun q1 => (f_M_turn_112 z d (zw (v1 + 1)) v2 q1.2)))) else (f_M_turn_112 z d v1 v2 μ))) := by
  show mE z d q_M_turn 60 [(2, 86), (0, v1), (0, v2), (0, v3), (0, v4)] [(0, v101), (0, v100)] μ = _
  rw [mE_bk (M := q_M_turn) k_M_turn.1 k_M_turn.2 [4, 60, 112] 400]
  have key : ∀ (C : Nat → List zv → Mu → mR) (E : Nat → List zv → List zv → Mu → mR), mbk C E q_M_turn.1 q_M_turn.2.1 z q_M_turn.2.2.2 [4, 60, 112] 400 (zfind q_M_turn.2.2.2 60) [(2, 86), (0, v1), (0, v2), (0, v3), (0, v4)] [(0, v101), (0, v100)] μ = bif decide (v101 ≤ v100) then (g_M_turn_112 E v1 v2 μ) else (gI v2 24 (bif !decide (μ 90 v2.toNat = 0) then (gI v2 24 (gI v2 24 ((C 204 [(2, 90), (0, zw ((zw (12 * (zw (1 - v3)))) + (z_rem v2 12))), (0, 1)] (zup μ 90 v2.toNat (zw ((μ 90 v2.toNat) - 1)))).bind fun q1 => (g_M_turn_112 E (zw (v1 + 1)) v2 q1.2)))) else (g_M_turn_112 E v1 v2 μ))) := by
    intro C E
    rfl
  exact key _ _
set_option maxRecDepth 100000 in
theorem e_M_turn_112 (z : zZ) (d : Nat) (v1 : Int) (v2 : Int) (μ : Mu) : f_M_turn_112 z d v1 v2 μ = f_M_turn_4 z d v1 (zw (v2 + 1)) μ := by
  show mE z d q_M_turn 112 [(2, 86), (0, v1), (0, v2), (9, 0), (9, 0)] [] μ = _
  rw [mE_bk (M := q_M_turn) k_M_turn.1 k_M_turn.2 [4, 60, 112] 400]
  have key : ∀ (C : Nat → List zv → Mu → mR) (E : Nat → List zv → List zv → Mu → mR), mbk C E q_M_turn.1 q_M_turn.2.1 z q_M_turn.2.2.2 [4, 60, 112] 400 (zfind q_M_turn.2.2.2 112) [(2, 86), (0, v1), (0, v2), (9, 0), (9, 0)] [] μ = g_M_turn_4 E v1 (zw (v2 + 1)) μ := by
    intro C E
    rfl
  exact key _ _
