def g_Law_reckon_44 (E : Nat → List zv → List zv → Mu → mR) (v2 : Int) (v3 : Int) (μ : Mu) : mR := E 44 [(9, 0), (9, 0), (0, v2), (0, v3)] [] μ
noncomputable def f_Law_reckon_44 (z : zZ) (d : Nat) (v2 : Int) (v3 : Int) (μ : Mu) : mR := g_Law_reckon_44 (fun pc ls st μ => mE z d q_Law_reckon pc ls st μ) v2 v3 μ
def g_Law_reckon_48 (E : Nat → List zv → List zv → Mu → mR) (v2 : Int) (v3 : Int) (μ : Mu) : mR := E 48 [(9, 0), (9, 0), (0, v2), (0, v3)] [] μ
noncomputable def f_Law_reckon_48 (z : zZ) (d : Nat) (v2 : Int) (v3 : Int) (μ : Mu) : mR := g_Law_reckon_48 (fun pc ls st μ => mE z d q_Law_reckon pc ls st μ) v2 v3 μ
def g_Law_reckon_52 (E : Nat → List zv → List zv → Mu → mR) (v2 : Int) (v3 : Int) (μ : Mu) : mR := E 52 [(9, 0), (9, 0), (0, v2), (0, v3)] [] μ
noncomputable def f_Law_reckon_52 (z : zZ) (d : Nat) (v2 : Int) (v3 : Int) (μ : Mu) : mR := g_Law_reckon_52 (fun pc ls st μ => mE z d q_Law_reckon pc ls st μ) v2 v3 μ
def g_Law_reckon_56 (E : Nat → List zv → List zv → Mu → mR) (o0 : Nat) (v1 : Int) (v2 : Int) (v3 : Int) (μ : Mu) : mR := E 56 [(2, ((o0 : Nat) : Int)), (0, v1), (0, v2), (0, v3)] [] μ
noncomputable def f_Law_reckon_56 (z : zZ) (d : Nat) (o0 : Nat) (v1 : Int) (v2 : Int) (v3 : Int) (μ : Mu) : mR := g_Law_reckon_56 (fun pc ls st μ => mE z d q_Law_reckon pc ls st μ) o0 v1 v2 v3 μ
def g_Law_reckon_67 (E : Nat → List zv → List zv → Mu → mR) (v1 : Int) (v2 : Int) (v3 : Int) (μ : Mu) : mR := E 67 [(9, 0), (0, v1), (0, v2), (0, v3)] [] μ
noncomputable def f_Law_reckon_67 (z : zZ) (d : Nat) (v1 : Int) (v2 : Int) (v3 : Int) (μ : Mu) : mR := g_Law_reckon_67 (fun pc ls st μ => mE z d q_Law_reckon pc ls st μ) v1 v2 v3 μ
def g_Law_reckon_78 (E : Nat → List zv → List zv → Mu → mR) (v2 : Int) (v3 : Int) (μ : Mu) : mR := E 78 [(9, 0), (9, 0), (0, v2), (0, v3)] [] μ
noncomputable def f_Law_reckon_78 (z : zZ) (d : Nat) (v2 : Int) (v3 : Int) (μ : Mu) : mR := g_Law_reckon_78 (fun pc ls st μ => mE z d q_Law_reckon pc ls st μ) v2 v3 μ
def g_Law_reckon_81 (E : Nat → List zv → List zv → Mu → mR) (v100 : Int) (μ : Mu) : mR := E 81 [(9, 0), (9, 0), (9, 0), (9, 0)] [(0, v100)] μ
noncomputable def f_Law_reckon_81 (z : zZ) (d : Nat) (v100 : Int) (μ : Mu) : mR := g_Law_reckon_81 (fun pc ls st μ => mE z d q_Law_reckon pc ls st μ) v100 μ
def g_Law_reckon_82 (E : Nat → List zv → List zv → Mu → mR) (v2 : Int) (v3 : Int) (μ : Mu) : mR := E 82 [(9, 0), (9, 0), (0, v2), (0, v3)] [] μ
noncomputable def f_Law_reckon_82 (z : zZ) (d : Nat) (v2 : Int) (v3 : Int) (μ : Mu) : mR := g_Law_reckon_82 (fun pc ls st μ => mE z d q_Law_reckon pc ls st μ) v2 v3 μ
def g_Law_reckon_91 (E : Nat → List zv → List zv → Mu → mR) (μ : Mu) : mR := E 91 [(9, 0), (9, 0), (9, 0), (9, 0)] [] μ
noncomputable def f_Law_reckon_91 (z : zZ) (d : Nat) (μ : Mu) : mR := g_Law_reckon_91 (fun pc ls st μ => mE z d q_Law_reckon pc ls st μ) μ
def g_Law_reckon_92 (E : Nat → List zv → List zv → Mu → mR) (v100 : Int) (μ : Mu) : mR := E 92 [(9, 0), (9, 0), (9, 0), (9, 0)] [(0, v100)] μ
noncomputable def f_Law_reckon_92 (z : zZ) (d : Nat) (v100 : Int) (μ : Mu) : mR := g_Law_reckon_92 (fun pc ls st μ => mE z d q_Law_reckon pc ls st μ) v100 μ
def g_Law_reckon_93 (E : Nat → List zv → List zv → Mu → mR) (v2 : Int) (v3 : Int) (μ : Mu) : mR := E 93 [(9, 0), (9, 0), (0, v2), (0, v3)] [] μ
noncomputable def f_Law_reckon_93 (z : zZ) (d : Nat) (v2 : Int) (v3 : Int) (μ : Mu) : mR := g_Law_reckon_93 (fun pc ls st μ => mE z d q_Law_reckon pc ls st μ) v2 v3 μ
def g_Law_reckon_102 (E : Nat → List zv → List zv → Mu → mR) (μ : Mu) : mR := E 102 [(9, 0), (9, 0), (9, 0), (9, 0)] [] μ
noncomputable def f_Law_reckon_102 (z : zZ) (d : Nat) (μ : Mu) : mR := g_Law_reckon_102 (fun pc ls st μ => mE z d q_Law_reckon pc ls st μ) μ
def g_Law_reckon_103 (E : Nat → List zv → List zv → Mu → mR) (v100 : Int) (μ : Mu) : mR := E 103 [(9, 0), (9, 0), (9, 0), (9, 0)] [(0, v100)] μ
noncomputable def f_Law_reckon_103 (z : zZ) (d : Nat) (v100 : Int) (μ : Mu) : mR := g_Law_reckon_103 (fun pc ls st μ => mE z d q_Law_reckon pc ls st μ) v100 μ
def g_Law_reckon_104 (E : Nat → List zv → List zv → Mu → mR) (v2 : Int) (v3 : Int) (μ : Mu) : mR := E 104 [(9, 0), (9, 0), (0, v2), (0, v3)] [] μ
noncomputable def f_Law_reckon_104 (z : zZ) (d : Nat) (v2 : Int) (v3 : Int) (μ : Mu) : mR := g_Law_reckon_104 (fun pc ls st μ => mE z d q_Law_reckon pc ls st μ) v2 v3 μ
def g_Law_reckon_113 (E : Nat → List zv → List zv → Mu → mR) (μ : Mu) : mR := E 113 [(9, 0), (9, 0), (9, 0), (9, 0)] [] μ
noncomputable def f_Law_reckon_113 (z : zZ) (d : Nat) (μ : Mu) : mR := g_Law_reckon_113 (fun pc ls st μ => mE z d q_Law_reckon pc ls st μ) μ
def g_Law_reckon_114 (E : Nat → List zv → List zv → Mu → mR) (v100 : Int) (μ : Mu) : mR := E 114 [(9, 0), (9, 0), (9, 0), (9, 0)] [(0, v100)] μ
noncomputable def f_Law_reckon_114 (z : zZ) (d : Nat) (v100 : Int) (μ : Mu) : mR := g_Law_reckon_114 (fun pc ls st μ => mE z d q_Law_reckon pc ls st μ) v100 μ
theorem k_Law_reckon : zprK q_Law_reckon.2.2.2 = true ∧ zinc q_Law_reckon.2.2.2 = true := by decide +kernel
set_option maxRecDepth 100000 in
theorem c_Law_reckon (z : zZ) (d : Nat) (o0 : Nat) (v1 : Int) (v2 : Int) (v3 : Int) (μ : Mu) (ho0 : o0 = 41 ∨ o0 = 47) : mC z (d + 1) 91 [(2, ((o0 : Nat) : Int)), (0, v1), (0, v2), (0, v3)] μ = bif decide (v1 = 0) then (f_Law_reckon_44 z d v2 v3 μ) else bif decide (v1 = 1) then (f_Law_reckon_48 z d v2 v3 μ) else bif decide (v1 = 2) then (f_Law_reckon_52 z d v2 v3 μ) else bif decide (v1 = 3) then (f_Law_reckon_56 z d o0 v1 v2 v3 μ) else bif decide (v1 = 4) then (f_Law_reckon_56 z d o0 v1 v2 v3 μ) else bif decide (v1 = 5) then (f_Law_reckon_82 z d v2 v3 μ) else bif decide (v1 = 6) then (f_Law_reckon_93 z d v2 v3 μ) else (f_Law_reckon_104 z d v2 v3 μ) := by
  rw [mC_succ q_Law_reckon rfl rfl rfl]
  rw [mE_bk (M := q_Law_reckon) k_Law_reckon.1 k_Law_reckon.2 [44, 48, 52, 56, 67, 78, 81, 82, 91, 92, 93, 102, 103, 104, 113, 114] 400]
  have key : ∀ (C : Nat → List zv → Mu → mR) (E : Nat → List zv → List zv → Mu → mR), mbk C E q_Law_reckon.1 q_Law_reckon.2.1 z q_Law_reckon.2.2.2 [44, 48, 52, 56, 67, 78, 81, 82, 91, 92, 93, 102, 103, 104, 113, 114] 400 (zfind q_Law_reckon.2.2.2 0) (zentry q_Law_reckon.2.2.1 [(2, ((o0 : Nat) : Int)), (0, v1), (0, v2), (0, v3)]) [] μ = bif decide (v1 = 0) then (g_Law_reckon_44 E v2 v3 μ) else bif decide (v1 = 1) then (g_Law_reckon_48 E v2 v3 μ) else bif decide (v1 = 2) then (g_Law_reckon_52 E v2 v3 μ) else bif decide (v1 = 3) then (g_Law_reckon_56 E o0 v1 v2 v3 μ) else bif decide (v1 = 4) then (g_Law_reckon_56 E o0 v1 v2 v3 μ) else bif decide (v1 = 5) then (g_Law_reckon_82 E v2 v3 μ) else bif decide (v1 = 6) then (g_Law_reckon_93 E v2 v3 μ) else (g_Law_reckon_104 E v2 v3 μ) := by
    intro C E
    rcases ho0 with rfl | rfl <;> (rfl)
  exact key _ _
set_option maxRecDepth 100000 in
theorem e_Law_reckon_44 (z : zZ) (d : Nat) (v2 : Int) (v3 : Int) (μ : Mu) : f_Law_reckon_44 z d v2 v3 μ = some (zw (v2 + v3), μ) := by
  show mE z d q_Law_reckon 44 [(9, 0), (9, 0), (0, v2), (0, v3)] [] μ = _
  rw [mE_bk (M := q_Law_reckon) k_Law_reckon.1 k_Law_reckon.2 [44, 48, 52, 56, 67, 78, 81, 82, 91, 92, 93, 102, 103, 104, 113, 114] 400]
  have key : ∀ (C : Nat → List zv → Mu → mR) (E : Nat → List zv → List zv → Mu → mR), mbk C E q_Law_reckon.1 q_Law_reckon.2.1 z q_Law_reckon.2.2.2 [44, 48, 52, 56, 67, 78, 81, 82, 91, 92, 93, 102, 103, 104, 113, 114] 400 (zfind q_Law_reckon.2.2.2 44) [(9, 0), (9, 0), (0, v2), (0, v3)] [] μ = some (zw (v2 + v3), μ) := by
    intro C E
    rfl
  exact key _ _
set_option maxRecDepth 100000 in
theorem e_Law_reckon_48 (z : zZ) (d : Nat) (v2 : Int) (v3 : Int) (μ : Mu) : f_Law_reckon_48 z d v2 v3 μ = some (zw (v2 - v3), μ) := by
  show mE z d q_Law_reckon 48 [(9, 0), (9, 0), (0, v2), (0, v3)] [] μ = _
  rw [mE_bk (M := q_Law_reckon) k_Law_reckon.1 k_Law_reckon.2 [44, 48, 52, 56, 67, 78, 81, 82, 91, 92, 93, 102, 103, 104, 113, 114] 400]
  have key : ∀ (C : Nat → List zv → Mu → mR) (E : Nat → List zv → List zv → Mu → mR), mbk C E q_Law_reckon.1 q_Law_reckon.2.1 z q_Law_reckon.2.2.2 [44, 48, 52, 56, 67, 78, 81, 82, 91, 92, 93, 102, 103, 104, 113, 114] 400 (zfind q_Law_reckon.2.2.2 48) [(9, 0), (9, 0), (0, v2), (0, v3)] [] μ = some (zw (v2 - v3), μ) := by
    intro C E
    rfl
  exact key _ _
set_option maxRecDepth 100000 in
theorem e_Law_reckon_52 (z : zZ) (d : Nat) (v2 : Int) (v3 : Int) (μ : Mu) : f_Law_reckon_52 z d v2 v3 μ = some (zw (v2 * v3), μ) := by
  show mE z d q_Law_reckon 52 [(9, 0), (9, 0), (0, v2), (0, v3)] [] μ = _
  rw [mE_bk (M := q_Law_reckon) k_Law_reckon.1 k_Law_reckon.2 [44, 48, 52, 56, 67, 78, 81, 82, 91, 92, 93, 102, 103, 104, 113, 114] 400]
  have key : ∀ (C : Nat → List zv → Mu → mR) (E : Nat → List zv → List zv → Mu → mR), mbk C E q_Law_reckon.1 q_Law_reckon.2.1 z q_Law_reckon.2.2.2 [44, 48, 52, 56, 67, 78, 81, 82, 91, 92, 93, 102, 103, 104, 113, 114] 400 (zfind q_Law_reckon.2.2.2 52) [(9, 0), (9, 0), (0, v2), (0, v3)] [] μ = some (zw (v2 * v3), μ) := by
    intro C E
    rfl
  exact key _ _
set_option maxRecDepth 100000 in
theorem e_Law_reckon_56 (z : zZ) (d : Nat) (o0 : Nat) (v1 : Int) (v2 : Int) (v3 : Int) (μ : Mu) (ho0 : o0 = 41 ∨ o0 = 47) : f_Law_reckon_56 z d o0 v1 v2 v3 μ = bif !decide (v3 = 0) then (f_Law_reckon_67 z d v1 v2 v3 μ) else (some (0, zup μ o0 8 1)) := by
  show mE z d q_Law_reckon 56 [(2, ((o0 : Nat) : Int)), (0, v1), (0, v2), (0, v3)] [] μ = _
  rw [mE_bk (M := q_Law_reckon) k_Law_reckon.1 k_Law_reckon.2 [44, 48, 52, 56, 67, 78, 81, 82, 91, 92, 93, 102, 103, 104, 113, 114] 400]
  have key : ∀ (C : Nat → List zv → Mu → mR) (E : Nat → List zv → List zv → Mu → mR), mbk C E q_Law_reckon.1 q_Law_reckon.2.1 z q_Law_reckon.2.2.2 [44, 48, 52, 56, 67, 78, 81, 82, 91, 92, 93, 102, 103, 104, 113, 114] 400 (zfind q_Law_reckon.2.2.2 56) [(2, ((o0 : Nat) : Int)), (0, v1), (0, v2), (0, v3)] [] μ = bif !decide (v3 = 0) then (g_Law_reckon_67 E v1 v2 v3 μ) else (some (0, zup μ o0 8 1)) := by
    intro C E
    rcases ho0 with rfl | rfl <;> (rfl)
  exact key _ _
set_option maxRecDepth 100000 in
theorem e_Law_reckon_82 (z : zZ) (d : Nat) (v2 : Int) (v3 : Int) (μ : Mu) : f_Law_reckon_82 z d v2 v3 μ = bif decide (v3 ≤ v2) then (f_Law_reckon_91 z d μ) else (f_Law_reckon_92 z d 1 μ) := by
  show mE z d q_Law_reckon 82 [(9, 0), (9, 0), (0, v2), (0, v3)] [] μ = _
  rw [mE_bk (M := q_Law_reckon) k_Law_reckon.1 k_Law_reckon.2 [44, 48, 52, 56, 67, 78, 81, 82, 91, 92, 93, 102, 103, 104, 113, 114] 400]
  have key : ∀ (C : Nat → List zv → Mu → mR) (E : Nat → List zv → List zv → Mu → mR), mbk C E q_Law_reckon.1 q_Law_reckon.2.1 z q_Law_reckon.2.2.2 [44, 48, 52, 56, 67, 78, 81, 82, 91, 92, 93, 102, 103, 104, 113, 114] 400 (zfind q_Law_reckon.2.2.2 82) [(9, 0), (9, 0), (0, v2), (0, v3)] [] μ = bif decide (v3 ≤ v2) then (g_Law_reckon_91 E μ) else (g_Law_reckon_92 E 1 μ) := by
    intro C E
    rfl
  exact key _ _
set_option maxRecDepth 100000 in
theorem e_Law_reckon_93 (z : zZ) (d : Nat) (v2 : Int) (v3 : Int) (μ : Mu) : f_Law_reckon_93 z d v2 v3 μ = bif decide (v2 ≤ v3) then (f_Law_reckon_102 z d μ) else (f_Law_reckon_103 z d 1 μ) := by
  show mE z d q_Law_reckon 93 [(9, 0), (9, 0), (0, v2), (0, v3)] [] μ = _
  rw [mE_bk (M := q_Law_reckon) k_Law_reckon.1 k_Law_reckon.2 [44, 48, 52, 56, 67, 78, 81, 82, 91, 92, 93, 102, 103, 104, 113, 114] 400]
  have key : ∀ (C : Nat → List zv → Mu → mR) (E : Nat → List zv → List zv → Mu → mR), mbk C E q_Law_reckon.1 q_Law_reckon.2.1 z q_Law_reckon.2.2.2 [44, 48, 52, 56, 67, 78, 81, 82, 91, 92, 93, 102, 103, 104, 113, 114] 400 (zfind q_Law_reckon.2.2.2 93) [(9, 0), (9, 0), (0, v2), (0, v3)] [] μ = bif decide (v2 ≤ v3) then (g_Law_reckon_102 E μ) else (g_Law_reckon_103 E 1 μ) := by
    intro C E
    rfl
  exact key _ _
set_option maxRecDepth 100000 in
theorem e_Law_reckon_104 (z : zZ) (d : Nat) (v2 : Int) (v3 : Int) (μ : Mu) : f_Law_reckon_104 z d v2 v3 μ = bif !decide (v2 = v3) then (f_Law_reckon_113 z d μ) else (f_Law_reckon_114 z d 1 μ) := by
  show mE z d q_Law_reckon 104 [(9, 0), (9, 0), (0, v2), (0, v3)] [] μ = _
  rw [mE_bk (M := q_Law_reckon) k_Law_reckon.1 k_Law_reckon.2 [44, 48, 52, 56, 67, 78, 81, 82, 91, 92, 93, 102, 103, 104, 113, 114] 400]
  have key : ∀ (C : Nat → List zv → Mu → mR) (E : Nat → List zv → List zv → Mu → mR), mbk C E q_Law_reckon.1 q_Law_reckon.2.1 z q_Law_reckon.2.2.2 [44, 48, 52, 56, 67, 78, 81, 82, 91, 92, 93, 102, 103, 104, 113, 114] 400 (zfind q_Law_reckon.2.2.2 104) [(9, 0), (9, 0), (0, v2), (0, v3)] [] μ = bif !decide (v2 = v3) then (g_Law_reckon_113 E μ) else (g_Law_reckon_114 E 1 μ) := by
    intro C E
    rfl
  exact key _ _
set_option maxRecDepth 100000 in
theorem e_Law_reckon_67 (z : zZ) (d : Nat) (v1 : Int) (v2 : Int) (v3 : Int) (μ : Mu) : f_Law_reckon_67 z d v1 v2 v3 μ = bif !decide (v1 = 3) then (f_Law_reckon_78 z d v2 v3 μ) else (gN v3 (f_Law_reckon_81 z d (z_div v2 v3) μ)) := by
  show mE z d q_Law_reckon 67 [(9, 0), (0, v1), (0, v2), (0, v3)] [] μ = _
  rw [mE_bk (M := q_Law_reckon) k_Law_reckon.1 k_Law_reckon.2 [44, 48, 52, 56, 67, 78, 81, 82, 91, 92, 93, 102, 103, 104, 113, 114] 400]
  have key : ∀ (C : Nat → List zv → Mu → mR) (E : Nat → List zv → List zv → Mu → mR), mbk C E q_Law_reckon.1 q_Law_reckon.2.1 z q_Law_reckon.2.2.2 [44, 48, 52, 56, 67, 78, 81, 82, 91, 92, 93, 102, 103, 104, 113, 114] 400 (zfind q_Law_reckon.2.2.2 67) [(9, 0), (0, v1), (0, v2), (0, v3)] [] μ = bif !decide (v1 = 3) then (g_Law_reckon_78 E v2 v3 μ) else (gN v3 (g_Law_reckon_81 E (z_div v2 v3) μ)) := by
    intro C E
    rfl
  exact key _ _
set_option maxRecDepth 100000 in
theorem e_Law_reckon_91 (z : zZ) (d : Nat) (μ : Mu) : f_Law_reckon_91 z d μ = f_Law_reckon_92 z d 0 μ := by
  show mE z d q_Law_reckon 91 [(9, 0), (9, 0), (9, 0), (9, 0)] [] μ = _
  rw [mE_bk (M := q_Law_reckon) k_Law_reckon.1 k_Law_reckon.2 [44, 48, 52, 56, 67, 78, 81, 82, 91, 92, 93, 102, 103, 104, 113, 114] 400]
  have key : ∀ (C : Nat → List zv → Mu → mR) (E : Nat → List zv → List zv → Mu → mR), mbk C E q_Law_reckon.1 q_Law_reckon.2.1 z q_Law_reckon.2.2.2 [44, 48, 52, 56, 67, 78, 81, 82, 91, 92, 93, 102, 103, 104, 113, 114] 400 (zfind q_Law_reckon.2.2.2 91) [(9, 0), (9, 0), (9, 0), (9, 0)] [] μ = g_Law_reckon_92 E 0 μ := by
    intro C E
    rfl
  exact key _ _
set_option maxRecDepth 100000 in
theorem e_Law_reckon_92 (z : zZ) (d : Nat) (v100 : Int) (μ : Mu) : f_Law_reckon_92 z d v100 μ = some (v100, μ) := by
  show mE z d q_Law_reckon 92 [(9, 0), (9, 0), (9, 0), (9, 0)] [(0, v100)] μ = _
  rw [mE_bk (M := q_Law_reckon) k_Law_reckon.1 k_Law_reckon.2 [44, 48, 52, 56, 67, 78, 81, 82, 91, 92, 93, 102, 103, 104, 113, 114] 400]
  have key : ∀ (C : Nat → List zv → Mu → mR) (E : Nat → List zv → List zv → Mu → mR), mbk C E q_Law_reckon.1 q_Law_reckon.2.1 z q_Law_reckon.2.2.2 [44, 48, 52, 56, 67, 78, 81, 82, 91, 92, 93, 102, 103, 104, 113, 114] 400 (zfind q_Law_reckon.2.2.2 92) [(9, 0), (9, 0), (9, 0), (9, 0)] [(0, v100)] μ = some (v100, μ) := by
    intro C E
    rfl
  exact key _ _
set_option maxRecDepth 100000 in
theorem e_Law_reckon_102 (z : zZ) (d : Nat) (μ : Mu) : f_Law_reckon_102 z d μ = f_Law_reckon_103 z d 0 μ := by
  show mE z d q_Law_reckon 102 [(9, 0), (9, 0), (9, 0), (9, 0)] [] μ = _
  rw [mE_bk (M := q_Law_reckon) k_Law_reckon.1 k_Law_reckon.2 [44, 48, 52, 56, 67, 78, 81, 82, 91, 92, 93, 102, 103, 104, 113, 114] 400]
  have key : ∀ (C : Nat → List zv → Mu → mR) (E : Nat → List zv → List zv → Mu → mR), mbk C E q_Law_reckon.1 q_Law_reckon.2.1 z q_Law_reckon.2.2.2 [44, 48, 52, 56, 67, 78, 81, 82, 91, 92, 93, 102, 103, 104, 113, 114] 400 (zfind q_Law_reckon.2.2.2 102) [(9, 0), (9, 0), (9, 0), (9, 0)] [] μ = g_Law_reckon_103 E 0 μ := by
    intro C E
    rfl
  exact key _ _
set_option maxRecDepth 100000 in
theorem e_Law_reckon_103 (z : zZ) (d : Nat) (v100 : Int) (μ : Mu) : f_Law_reckon_103 z d v100 μ = some (v100, μ) := by
  show mE z d q_Law_reckon 103 [(9, 0), (9, 0), (9, 0), (9, 0)] [(0, v100)] μ = _
  rw [mE_bk (M := q_Law_reckon) k_Law_reckon.1 k_Law_reckon.2 [44, 48, 52, 56, 67, 78, 81, 82, 91, 92, 93, 102, 103, 104, 113, 114] 400]
  have key : ∀ (C : Nat → List zv → Mu → mR) (E : Nat → List zv → List zv → Mu → mR), mbk C E q_Law_reckon.1 q_Law_reckon.2.1 z q_Law_reckon.2.2.2 [44, 48, 52, 56, 67, 78, 81, 82, 91, 92, 93, 102, 103, 104, 113, 114] 400 (zfind q_Law_reckon.2.2.2 103) [(9, 0), (9, 0), (9, 0), (9, 0)] [(0, v100)] μ = some (v100, μ) := by
    intro C E
    rfl
  exact key _ _
set_option maxRecDepth 100000 in
theorem e_Law_reckon_113 (z : zZ) (d : Nat) (μ : Mu) : f_Law_reckon_113 z d μ = f_Law_reckon_114 z d 0 μ := by
  show mE z d q_Law_reckon 113 [(9, 0), (9, 0), (9, 0), (9, 0)] [] μ = _
  rw [mE_bk (M := q_Law_reckon) k_Law_reckon.1 k_Law_reckon.2 [44, 48, 52, 56, 67, 78, 81, 82, 91, 92, 93, 102, 103, 104, 113, 114] 400]
  have key : ∀ (C : Nat → List zv → Mu → mR) (E : Nat → List zv → List zv → Mu → mR), mbk C E q_Law_reckon.1 q_Law_reckon.2.1 z q_Law_reckon.2.2.2 [44, 48, 52, 56, 67, 78, 81, 82, 91, 92, 93, 102, 103, 104, 113, 114] 400 (zfind q_Law_reckon.2.2.2 113) [(9, 0), (9, 0), (9, 0), (9, 0)] [] μ = g_Law_reckon_114 E 0 μ := by
    intro C E
    rfl
  exact key _ _
set_option maxRecDepth 100000 in
theorem e_Law_reckon_114 (z : zZ) (d : Nat) (v100 : Int) (μ : Mu) : f_Law_reckon_114 z d v100 μ = some (v100, μ) := by
  show mE z d q_Law_reckon 114 [(9, 0), (9, 0), (9, 0), (9, 0)] [(0, v100)] μ = _
  rw [mE_bk (M := q_Law_reckon) k_Law_reckon.1 k_Law_reckon.2 [44, 48, 52, 56, 67, 78, 81, 82, 91, 92, 93, 102, 103, 104, 113, 114] 400]
  have key : ∀ (C : Nat → List zv → Mu → mR) (E : Nat → List zv → List zv → Mu → mR), mbk C E q_Law_reckon.1 q_Law_reckon.2.1 z q_Law_reckon.2.2.2 [44, 48, 52, 56, 67, 78, 81, 82, 91, 92, 93, 102, 103, 104, 113, 114] 400 (zfind q_Law_reckon.2.2.2 114) [(9, 0), (9, 0), (9, 0), (9, 0)] [(0, v100)] μ = some (v100, μ) := by
    intro C E
    rfl
  exact key _ _
set_option maxRecDepth 100000 in
theorem e_Law_reckon_78 (z : zZ) (d : Nat) (v2 : Int) (v3 : Int) (μ : Mu) : f_Law_reckon_78 z d v2 v3 μ = gN v3 (f_Law_reckon_81 z d (z_rem v2 v3) μ) := by
  show mE z d q_Law_reckon 78 [(9, 0), (9, 0), (0, v2), (0, v3)] [] μ = _
  rw [mE_bk (M := q_Law_reckon) k_Law_reckon.1 k_Law_reckon.2 [44, 48, 52, 56, 67, 78, 81, 82, 91, 92, 93, 102, 103, 104, 113, 114] 400]
  have key : ∀ (C : Nat → List zv → Mu → mR) (E : Nat → List zv → List zv → Mu → mR), mbk C E q_Law_reckon.1 q_Law_reckon.2.1 z q_Law_reckon.2.2.2 [44, 48, 52, 56, 67, 78, 81, 82, 91, 92, 93, 102, 103, 104, 113, 114] 400 (zfind q_Law_reckon.2.2.2 78) [(9, 0), (9, 0), (0, v2), (0, v3)] [] μ = gN v3 (g_Law_reckon_81 E (z_rem v2 v3) μ) := by
    intro C E
    rfl
  exact key _ _
set_option maxRecDepth 100000 in
theorem e_Law_reckon_81 (z : zZ) (d : Nat) (v100 : Int) (μ : Mu) : f_Law_reckon_81 z d v100 μ = some (v100, μ) := by
  show mE z d q_Law_reckon 81 [(9, 0), (9, 0), (9, 0), (9, 0)] [(0, v100)] μ = _
  rw [mE_bk (M := q_Law_reckon) k_Law_reckon.1 k_Law_reckon.2 [44, 48, 52, 56, 67, 78, 81, 82, 91, 92, 93, 102, 103, 104, 113, 114] 400]
  have key : ∀ (C : Nat → List zv → Mu → mR) (E : Nat → List zv → List zv → Mu → mR), mbk C E q_Law_reckon.1 q_Law_reckon.2.1 z q_Law_reckon.2.2.2 [44, 48, 52, 56, 67, 78, 81, 82, 91, 92, 93, 102, 103, 104, 113, 114] 400 (zfind q_Law_reckon.2.2.2 81) [(9, 0), (9, 0), (9, 0), (9, 0)] [(0, v100)] μ = some (v100, μ) := by
    intro C E
    rfl
  exact key _ _
def g_Law_mostOf_36 (E : Nat → List zv → List zv → Mu → mR) (μ : Mu) : mR := E 36 [(9, 0)] [] μ
noncomputable def f_Law_mostOf_36 (z : zZ) (d : Nat) (μ : Mu) : mR := g_Law_mostOf_36 (fun pc ls st μ => mE z d q_Law_mostOf pc ls st μ) μ
def g_Law_mostOf_40 (E : Nat → List zv → List zv → Mu → mR) (μ : Mu) : mR := E 40 [(9, 0)] [] μ
noncomputable def f_Law_mostOf_40 (z : zZ) (d : Nat) (μ : Mu) : mR := g_Law_mostOf_40 (fun pc ls st μ => mE z d q_Law_mostOf pc ls st μ) μ
def g_Law_mostOf_43 (E : Nat → List zv → List zv → Mu → mR) (μ : Mu) : mR := E 43 [(9, 0)] [] μ
noncomputable def f_Law_mostOf_43 (z : zZ) (d : Nat) (μ : Mu) : mR := g_Law_mostOf_43 (fun pc ls st μ => mE z d q_Law_mostOf pc ls st μ) μ
def g_Law_mostOf_47 (E : Nat → List zv → List zv → Mu → mR) (μ : Mu) : mR := E 47 [(9, 0)] [] μ
noncomputable def f_Law_mostOf_47 (z : zZ) (d : Nat) (μ : Mu) : mR := g_Law_mostOf_47 (fun pc ls st μ => mE z d q_Law_mostOf pc ls st μ) μ
theorem k_Law_mostOf : zprK q_Law_mostOf.2.2.2 = true ∧ zinc q_Law_mostOf.2.2.2 = true := by decide +kernel
set_option maxRecDepth 100000 in
theorem c_Law_mostOf (z : zZ) (d : Nat) (v0 : Int) (μ : Mu) : mC z (d + 1) 92 [(0, v0)] μ = bif decide (v0 = 100) then (f_Law_mostOf_40 z d μ) else bif decide (v0 = 118) then (f_Law_mostOf_36 z d μ) else bif decide (v0 = 119) then (f_Law_mostOf_43 z d μ) else (f_Law_mostOf_47 z d μ) := by
  rw [mC_succ q_Law_mostOf rfl rfl rfl]
  rw [mE_bk (M := q_Law_mostOf) k_Law_mostOf.1 k_Law_mostOf.2 [36, 40, 43, 47] 400]
  have key : ∀ (C : Nat → List zv → Mu → mR) (E : Nat → List zv → List zv → Mu → mR), mbk C E q_Law_mostOf.1 q_Law_mostOf.2.1 z q_Law_mostOf.2.2.2 [36, 40, 43, 47] 400 (zfind q_Law_mostOf.2.2.2 0) (zentry q_Law_mostOf.2.2.1 [(0, v0)]) [] μ = bif decide (v0 = 100) then (g_Law_mostOf_40 E μ) else bif decide (v0 = 118) then (g_Law_mostOf_36 E μ) else bif decide (v0 = 119) then (g_Law_mostOf_43 E μ) else (g_Law_mostOf_47 E μ) := by
    intro C E
    rfl
  exact key _ _
set_option maxRecDepth 100000 in
theorem e_Law_mostOf_40 (z : zZ) (d : Nat) (μ : Mu) : f_Law_mostOf_40 z d μ = some (10, μ) := by
  show mE z d q_Law_mostOf 40 [(9, 0)] [] μ = _
  rw [mE_bk (M := q_Law_mostOf) k_Law_mostOf.1 k_Law_mostOf.2 [36, 40, 43, 47] 400]
  have key : ∀ (C : Nat → List zv → Mu → mR) (E : Nat → List zv → List zv → Mu → mR), mbk C E q_Law_mostOf.1 q_Law_mostOf.2.1 z q_Law_mostOf.2.2.2 [36, 40, 43, 47] 400 (zfind q_Law_mostOf.2.2.2 40) [(9, 0)] [] μ = some (10, μ) := by
    intro C E
    rfl
  exact key _ _
set_option maxRecDepth 100000 in
theorem e_Law_mostOf_36 (z : zZ) (d : Nat) (μ : Mu) : f_Law_mostOf_36 z d μ = some (9999, μ) := by
  show mE z d q_Law_mostOf 36 [(9, 0)] [] μ = _
  rw [mE_bk (M := q_Law_mostOf) k_Law_mostOf.1 k_Law_mostOf.2 [36, 40, 43, 47] 400]
  have key : ∀ (C : Nat → List zv → Mu → mR) (E : Nat → List zv → List zv → Mu → mR), mbk C E q_Law_mostOf.1 q_Law_mostOf.2.1 z q_Law_mostOf.2.2.2 [36, 40, 43, 47] 400 (zfind q_Law_mostOf.2.2.2 36) [(9, 0)] [] μ = some (9999, μ) := by
    intro C E
    rfl
  exact key _ _
set_option maxRecDepth 100000 in
theorem e_Law_mostOf_43 (z : zZ) (d : Nat) (μ : Mu) : f_Law_mostOf_43 z d μ = some (999, μ) := by
  show mE z d q_Law_mostOf 43 [(9, 0)] [] μ = _
  rw [mE_bk (M := q_Law_mostOf) k_Law_mostOf.1 k_Law_mostOf.2 [36, 40, 43, 47] 400]
  have key : ∀ (C : Nat → List zv → Mu → mR) (E : Nat → List zv → List zv → Mu → mR), mbk C E q_Law_mostOf.1 q_Law_mostOf.2.1 z q_Law_mostOf.2.2.2 [36, 40, 43, 47] 400 (zfind q_Law_mostOf.2.2.2 43) [(9, 0)] [] μ = some (999, μ) := by
    intro C E
    rfl
  exact key _ _
set_option maxRecDepth 100000 in
theorem e_Law_mostOf_47 (z : zZ) (d : Nat) (μ : Mu) : f_Law_mostOf_47 z d μ = some (8, μ) := by
  show mE z d q_Law_mostOf 47 [(9, 0)] [] μ = _
  rw [mE_bk (M := q_Law_mostOf) k_Law_mostOf.1 k_Law_mostOf.2 [36, 40, 43, 47] 400]
  have key : ∀ (C : Nat → List zv → Mu → mR) (E : Nat → List zv → List zv → Mu → mR), mbk C E q_Law_mostOf.1 q_Law_mostOf.2.1 z q_Law_mostOf.2.2.2 [36, 40, 43, 47] 400 (zfind q_Law_mostOf.2.2.2 47) [(9, 0)] [] μ = some (8, μ) := by
    intro C E
    rfl
  exact key _ _
def g_Army_lose_15 (E : Nat → List zv → List zv → Mu → mR) (μ : Mu) : mR := E 15 [(9, 0), (9, 0), (9, 0), (9, 0), (9, 0), (9, 0), (9, 0), (9, 0), (9, 0), (9, 0)] [] μ
noncomputable def f_Army_lose_15 (z : zZ) (d : Nat) (μ : Mu) : mR := g_Army_lose_15 (fun pc ls st μ => mE z d q_Army_lose pc ls st μ) μ
def g_Army_lose_16 (E : Nat → List zv → List zv → Mu → mR) (o0 : Nat) (v1 : Int) (v2 : Int) (v3 : Int) (μ : Mu) : mR := E 16 [(2, ((o0 : Nat) : Int)), (0, v1), (0, v2), (0, v3), (9, 0), (9, 0), (9, 0), (9, 0), (9, 0), (9, 0)] [] μ
noncomputable def f_Army_lose_16 (z : zZ) (d : Nat) (o0 : Nat) (v1 : Int) (v2 : Int) (v3 : Int) (μ : Mu) : mR := g_Army_lose_16 (fun pc ls st μ => mE z d q_Army_lose pc ls st μ) o0 v1 v2 v3 μ
def g_Army_lose_55 (E : Nat → List zv → List zv → Mu → mR) (o0 : Nat) (v1 : Int) (v4 : Int) (v5 : Int) (v6 : Int) (v7 : Int) (v8 : Int) (μ : Mu) : mR := E 55 [(2, ((o0 : Nat) : Int)), (0, v1), (9, 0), (9, 0), (0, v4), (0, v5), (0, v6), (0, v7), (0, v8), (9, 0)] [] μ
noncomputable def f_Army_lose_55 (z : zZ) (d : Nat) (o0 : Nat) (v1 : Int) (v4 : Int) (v5 : Int) (v6 : Int) (v7 : Int) (v8 : Int) (μ : Mu) : mR := g_Army_lose_55 (fun pc ls st μ => mE z d q_Army_lose pc ls st μ) o0 v1 v4 v5 v6 v7 v8 μ
def g_Army_lose_75 (E : Nat → List zv → List zv → Mu → mR) (o0 : Nat) (v1 : Int) (v4 : Int) (v5 : Int) (v6 : Int) (v7 : Int) (v8 : Int) (o100 : Nat) (μ : Mu) : mR := E 75 [(2, ((o0 : Nat) : Int)), (0, v1), (9, 0), (9, 0), (0, v4), (0, v5), (0, v6), (0, v7), (0, v8), (9, 0)] [(2, ((o100 : Nat) : Int))] μ
noncomputable def f_Army_lose_75 (z : zZ) (d : Nat) (o0 : Nat) (v1 : Int) (v4 : Int) (v5 : Int) (v6 : Int) (v7 : Int) (v8 : Int) (o100 : Nat) (μ : Mu) : mR := g_Army_lose_75 (fun pc ls st μ => mE z d q_Army_lose pc ls st μ) o0 v1 v4 v5 v6 v7 v8 o100 μ
def g_Army_lose_77 (E : Nat → List zv → List zv → Mu → mR) (o0 : Nat) (v1 : Int) (v4 : Int) (v5 : Int) (v6 : Int) (v7 : Int) (v8 : Int) (o100 : Nat) (v101 : Int) (μ : Mu) : mR := E 77 [(2, ((o0 : Nat) : Int)), (0, v1), (9, 0), (9, 0), (0, v4), (0, v5), (0, v6), (0, v7), (0, v8), (9, 0)] [(0, v101), (2, ((o100 : Nat) : Int))] μ
noncomputable def f_Army_lose_77 (z : zZ) (d : Nat) (o0 : Nat) (v1 : Int) (v4 : Int) (v5 : Int) (v6 : Int) (v7 : Int) (v8 : Int) (o100 : Nat) (v101 : Int) (μ : Mu) : mR := g_Army_lose_77 (fun pc ls st μ => mE z d q_Army_lose pc ls st μ) o0 v1 v4 v5 v6 v7 v8 o100 v101 μ
def g_Army_lose_94 (E : Nat → List zv → List zv → Mu → mR) (o0 : Nat) (v1 : Int) (v4 : Int) (v7 : Int) (μ : Mu) : mR := E 94 [(2, ((o0 : Nat) : Int)), (0, v1), (9, 0), (9, 0), (0, v4), (9, 0), (9, 0), (0, v7), (9, 0), (9, 0)] [] μ
noncomputable def f_Army_lose_94 (z : zZ) (d : Nat) (o0 : Nat) (v1 : Int) (v4 : Int) (v7 : Int) (μ : Mu) : mR := g_Army_lose_94 (fun pc ls st μ => mE z d q_Army_lose pc ls st μ) o0 v1 v4 v7 μ
def g_Army_lose_156 (E : Nat → List zv → List zv → Mu → mR) (o0 : Nat) (v8 : Int) (μ : Mu) : mR := E 156 [(2, ((o0 : Nat) : Int)), (9, 0), (9, 0), (9, 0), (9, 0), (9, 0), (9, 0), (9, 0), (0, v8), (9, 0)] [] μ
noncomputable def f_Army_lose_156 (z : zZ) (d : Nat) (o0 : Nat) (v8 : Int) (μ : Mu) : mR := g_Army_lose_156 (fun pc ls st μ => mE z d q_Army_lose pc ls st μ) o0 v8 μ
def g_Army_lose_162 (E : Nat → List zv → List zv → Mu → mR) (μ : Mu) : mR := E 162 [(9, 0), (9, 0), (9, 0), (9, 0), (9, 0), (9, 0), (9, 0), (9, 0), (9, 0), (9, 0)] [] μ
noncomputable def f_Army_lose_162 (z : zZ) (d : Nat) (μ : Mu) : mR := g_Army_lose_162 (fun pc ls st μ => mE z d q_Army_lose pc ls st μ) μ
theorem k_Army_lose : zprK q_Army_lose.2.2.2 = true ∧ zinc q_Army_lose.2.2.2 = true := by decide +kernel
set_option maxRecDepth 100000 in
theorem c_Army_lose (z : zZ) (d : Nat) (o0 : Nat) (v1 : Int) (v2 : Int) (v3 : Int) (μ : Mu) (ho0 : o0 = 4 ∨ o0 = 13) : mC z (d + 1) 93 [(2, ((o0 : Nat) : Int)), (0, v1), (0, v2), (0, v3)] μ = (mC z d 36 [(2, ((o0 : Nat) : Int)), (0, v1)] μ).bind fun q1 => (bif decide (q1.1 = 0) then (f_Army_lose_15 z d q1.2) else (bif decide (1 ≤ zw (v2 + v3)) then (f_Army_lose_16 z d o0 v1 v2 v3 q1.2) else (f_Army_lose_15 z d q1.2))) := by
  rw [mC_succ q_Army_lose rfl rfl rfl]
  rw [mE_bk (M := q_Army_lose) k_Army_lose.1 k_Army_lose.2 [15, 16, 55, 75, 77, 94, 156, 162] 400]
  have key : ∀ (C : Nat → List zv → Mu → mR) (E : Nat → List zv → List zv → Mu → mR), mbk C E q_Army_lose.1 q_Army_lose.2.1 z q_Army_lose.2.2.2 [15, 16, 55, 75, 77, 94, 156, 162] 400 (zfind q_Army_lose.2.2.2 0) (zentry q_Army_lose.2.2.1 [(2, ((o0 : Nat) : Int)), (0, v1), (0, v2), (0, v3)]) [] μ = (C 36 [(2, ((o0 : Nat) : Int)), (0, v1)] μ).bind fun q1 => (bif decide (q1.1 = 0) then (g_Army_lose_15 E q1.2) else (bif decide (1 ≤ zw (v2 + v3)) then (g_Army_lose_16 E o0 v1 v2 v3 q1.2) else (g_Army_lose_15 E q1.2))) := by
    intro C E
    rcases ho0 with rfl | rfl <;> (rfl)
  exact key _ _
set_option maxRecDepth 100000 in
theorem e_Army_lose_15 (z : zZ) (d : Nat) (μ : Mu) : f_Army_lose_15 z d μ = some (0, μ) := by
  show mE z d q_Army_lose 15 [(9, 0), (9, 0), (9, 0), (9, 0), (9, 0), (9, 0), (9, 0), (9, 0), (9, 0), (9, 0)] [] μ = _
  rw [mE_bk (M := q_Army_lose) k_Army_lose.1 k_Army_lose.2 [15, 16, 55, 75, 77, 94, 156, 162] 400]
  have key : ∀ (C : Nat → List zv → Mu → mR) (E : Nat → List zv → List zv → Mu → mR), mbk C E q_Army_lose.1 q_Army_lose.2.1 z q_Army_lose.2.2.2 [15, 16, 55, 75, 77, 94, 156, 162] 400 (zfind q_Army_lose.2.2.2 15) [(9, 0), (9, 0), (9, 0), (9, 0), (9, 0), (9, 0), (9, 0), (9, 0), (9, 0), (9, 0)] [] μ = some (0, μ) := by
    intro C E
    rfl
  exact key _ _
set_option maxRecDepth 100000 in
theorem e_Army_lose_16 (z : zZ) (d : Nat) (o0 : Nat) (v1 : Int) (v2 : Int) (v3 : Int) (μ : Mu) (ho0 : o0 = 4 ∨ o0 = 13) : f_Army_lose_16 z d o0 v1 v2 v3 μ = gI v1 12 ((mC z d 68 [(0, μ (o0 + 4) v1.toNat)] μ).bind fun q1 => (f_Army_lose_55 z d o0 v1 (μ (o0 + 4) v1.toNat) q1.1 (if 0 < zw (q1.1 - v2) then zw (q1.1 - v2) else 0) (if 0 < zw ((if 0 < zw (q1.1 - v2) then zw (q1.1 - v2) else 0) - v3) then zw ((if 0 < zw (q1.1 - v2) then zw (q1.1 - v2) else 0) - v3) else 0) (if 0 < zw ((if 0 < zw (q1.1 - v2) then zw (q1.1 - v2) else 0) - v3) then zw ((if 0 < zw (q1.1 - v2) then zw (q1.1 - v2) else 0) - v3) else 0) q1.2)) := by
  show mE z d q_Army_lose 16 [(2, ((o0 : Nat) : Int)), (0, v1), (0, v2), (0, v3), (9, 0), (9, 0), (9, 0), (9, 0), (9, 0), (9, 0)] [] μ = _
  rw [mE_bk (M := q_Army_lose) k_Army_lose.1 k_Army_lose.2 [15, 16, 55, 75, 77, 94, 156, 162] 400]
  have key : ∀ (C : Nat → List zv → Mu → mR) (E : Nat → List zv → List zv → Mu → mR), mbk C E q_Army_lose.1 q_Army_lose.2.1 z q_Army_lose.2.2.2 [15, 16, 55, 75, 77, 94, 156, 162] 400 (zfind q_Army_lose.2.2.2 16) [(2, ((o0 : Nat) : Int)), (0, v1), (0, v2), (0, v3), (9, 0), (9, 0), (9, 0), (9, 0), (9, 0), (9, 0)] [] μ = gI v1 12 ((C 68 [(0, μ (o0 + 4) v1.toNat)] μ).bind fun q1 => (g_Army_lose_55 E o0 v1 (μ (o0 + 4) v1.toNat) q1.1 (if 0 < zw (q1.1 - v2) then zw (q1.1 - v2) else 0) (if 0 < zw ((if 0 < zw (q1.1 - v2) then zw (q1.1 - v2) else 0) - v3) then zw ((if 0 < zw (q1.1 - v2) then zw (q1.1 - v2) else 0) - v3) else 0) (if 0 < zw ((if 0 < zw (q1.1 - v2) then zw (q1.1 - v2) else 0) - v3) then zw ((if 0 < zw (q1.1 - v2) then zw (q1.1 - v2) else 0) - v3) else 0) q1.2)) := by
    intro C E
    rcases ho0 with rfl | rfl <;> (rfl)
  exact key _ _
set_option maxRecDepth 100000 in
theorem e_Army_lose_55 (z : zZ) (d : Nat) (o0 : Nat) (v1 : Int) (v4 : Int) (v5 : Int) (v6 : Int) (v7 : Int) (v8 : Int) (μ : Mu) (ho0 : o0 = 4 ∨ o0 = 13) : f_Army_lose_55 z d o0 v1 v4 v5 v6 v7 v8 μ = bif decide (v5 ≤ v8) then (f_Army_lose_94 z d o0 v1 v4 v7 μ) else (bif decide (v6 ≤ v8) then (f_Army_lose_75 z d o0 v1 v4 v5 v6 v7 v8 o0 μ) else (f_Army_lose_77 z d o0 v1 v4 v5 v6 v7 v8 o0 24 μ)) := by
  show mE z d q_Army_lose 55 [(2, ((o0 : Nat) : Int)), (0, v1), (9, 0), (9, 0), (0, v4), (0, v5), (0, v6), (0, v7), (0, v8), (9, 0)] [] μ = _
  rw [mE_bk (M := q_Army_lose) k_Army_lose.1 k_Army_lose.2 [15, 16, 55, 75, 77, 94, 156, 162] 400]
  have key : ∀ (C : Nat → List zv → Mu → mR) (E : Nat → List zv → List zv → Mu → mR), mbk C E q_Army_lose.1 q_Army_lose.2.1 z q_Army_lose.2.2.2 [15, 16, 55, 75, 77, 94, 156, 162] 400 (zfind q_Army_lose.2.2.2 55) [(2, ((o0 : Nat) : Int)), (0, v1), (9, 0), (9, 0), (0, v4), (0, v5), (0, v6), (0, v7), (0, v8), (9, 0)] [] μ = bif decide (v5 ≤ v8) then (g_Army_lose_94 E o0 v1 v4 v7 μ) else (bif decide (v6 ≤ v8) then (g_Army_lose_75 E o0 v1 v4 v5 v6 v7 v8 o0 μ) else (g_Army_lose_77 E o0 v1 v4 v5 v6 v7 v8 o0 24 μ)) := by
    intro C E
    rcases ho0 with rfl | rfl <;> (rfl)
  exact key _ _
set_option maxRecDepth 100000 in
theorem e_Army_lose_94 (z : zZ) (d : Nat) (o0 : Nat) (v1 : Int) (v4 : Int) (v7 : Int) (μ : Mu) (ho0 : o0 = 4 ∨ o0 = 13) : f_Army_lose_94 z d o0 v1 v4 v7 μ = (mC z d 94 [(0, v4), (0, v7)] (zup μ o0 7 (z_and (μ o0 7) (z_xor (z_shl 1 v1) ((-1)))))).bind fun q1 => ((mC z d 39 [(2, ((o0 : Nat) : Int)), (0, q1.1)] q1.2).bind fun q2 => (bif decide (q2.1 = (-1)) then (f_Army_lose_156 z d o0 q1.1 q2.2) else ((mC z d 36 [(2, ((o0 : Nat) : Int)), (0, q2.1)] q2.2).bind fun q3 => (bif !decide (q3.1 = 0) then (f_Army_lose_156 z d o0 q1.1 q3.2) else (f_Army_lose_162 z d (zup q3.2 o0 7 (z_or (q3.2 o0 7) (z_shl 1 q2.1)))))))) := by
  show mE z d q_Army_lose 94 [(2, ((o0 : Nat) : Int)), (0, v1), (9, 0), (9, 0), (0, v4), (9, 0), (9, 0), (0, v7), (9, 0), (9, 0)] [] μ = _
  rw [mE_bk (M := q_Army_lose) k_Army_lose.1 k_Army_lose.2 [15, 16, 55, 75, 77, 94, 156, 162] 400]
  have key : ∀ (C : Nat → List zv → Mu → mR) (E : Nat → List zv → List zv → Mu → mR), mbk C E q_Army_lose.1 q_Army_lose.2.1 z q_Army_lose.2.2.2 [15, 16, 55, 75, 77, 94, 156, 162] 400 (zfind q_Army_lose.2.2.2 94) [(2, ((o0 : Nat) : Int)), (0, v1), (9, 0), (9, 0), (0, v4), (9, 0), (9, 0), (0, v7), (9, 0), (9, 0)] [] μ = (C 94 [(0, v4), (0, v7)] (zup μ o0 7 (z_and (μ o0 7) (z_xor (z_shl 1 v1) ((-1)))))).bind fun q1 => ((C 39 [(2, ((o0 : Nat) : Int)), (0, q1.1)] q1.2).bind fun q2 => (bif decide (q2.1 = (-1)) then (g_Army_lose_156 E o0 q1.1 q2.2) else ((C 36 [(2, ((o0 : Nat) : Int)), (0, q2.1)] q2.2).bind fun q3 => (bif !decide (q3.1 = 0) then (g_Army_lose_156 E o0 q1.1 q3.2) else (g_Army_lose_162 E (zup q3.2 o0 7 (z_or (q3.2 o0 7) (z_shl 1 q2.1)))))))) := by
    intro C E
    rcases ho0 with rfl | rfl <;> (rfl)
  exact key _ _
set_option maxRecDepth 100000 in
theorem e_Army_lose_75 (z : zZ) (d : Nat) (o0 : Nat) (v1 : Int) (v4 : Int) (v5 : Int) (v6 : Int) (v7 : Int) (v8 : Int) (o100 : Nat) (μ : Mu) (ho0 : o0 = 4 ∨ o0 = 13) (ho100 : o100 = 4 ∨ o100 = 13) : f_Army_lose_75 z d o0 v1 v4 v5 v6 v7 v8 o100 μ = f_Army_lose_77 z d o0 v1 v4 v5 v6 v7 v8 o100 12 μ := by
  show mE z d q_Army_lose 75 [(2, ((o0 : Nat) : Int)), (0, v1), (9, 0), (9, 0), (0, v4), (0, v5), (0, v6), (0, v7), (0, v8), (9, 0)] [(2, ((o100 : Nat) : Int))] μ = _
  rw [mE_bk (M := q_Army_lose) k_Army_lose.1 k_Army_lose.2 [15, 16, 55, 75, 77, 94, 156, 162] 400]
  have key : ∀ (C : Nat → List zv → Mu → mR) (E : Nat → List zv → List zv → Mu → mR), mbk C E q_Army_lose.1 q_Army_lose.2.1 z q_Army_lose.2.2.2 [15, 16, 55, 75, 77, 94, 156, 162] 400 (zfind q_Army_lose.2.2.2 75) [(2, ((o0 : Nat) : Int)), (0, v1), (9, 0), (9, 0), (0, v4), (0, v5), (0, v6), (0, v7), (0, v8), (9, 0)] [(2, ((o100 : Nat) : Int))] μ = g_Army_lose_77 E o0 v1 v4 v5 v6 v7 v8 o100 12 μ := by
    intro C E
    rcases ho0 with rfl | rfl <;> rcases ho100 with rfl | rfl <;> (rfl)
  exact key _ _
set_option maxRecDepth 100000 in
theorem e_Army_lose_77 (z : zZ) (d : Nat) (o0 : Nat) (v1 : Int) (v4 : Int) (v5 : Int) (v6 : Int) (v7 : Int) (v8 : Int) (o100 : Nat) (v101 : Int) (μ : Mu) (ho0 : o0 = 4 ∨ o0 = 13) (ho100 : o100 = 4 ∨ o100 = 13) : f_Army_lose_77 z d o0 v1 v4 v5 v6 v7 v8 o100 v101 μ = (mC z d 41 [(0, v4), (0, v8)] μ).bind fun q1 => ((mC z d 42 [(2, ((o100 : Nat) : Int)), (0, v101), (0, q1.1), (0, 1)] q1.2).bind fun q2 => (f_Army_lose_55 z d o0 v1 v4 v5 v6 v7 (zw (v8 + 1)) q2.2)) := by
  show mE z d q_Army_lose 77 [(2, ((o0 : Nat) : Int)), (0, v1), (9, 0), (9, 0), (0, v4), (0, v5), (0, v6), (0, v7), (0, v8), (9, 0)] [(0, v101), (2, ((o100 : Nat) : Int))] μ = _
  rw [mE_bk (M := q_Army_lose) k_Army_lose.1 k_Army_lose.2 [15, 16, 55, 75, 77, 94, 156, 162] 400]
  have key : ∀ (C : Nat → List zv → Mu → mR) (E : Nat → List zv → List zv → Mu → mR), mbk C E q_Army_lose.1 q_Army_lose.2.1 z q_Army_lose.2.2.2 [15, 16, 55, 75, 77, 94, 156, 162] 400 (zfind q_Army_lose.2.2.2 77) [(2, ((o0 : Nat) : Int)), (0, v1), (9, 0), (9, 0), (0, v4), (0, v5), (0, v6), (0, v7), (0, v8), (9, 0)] [(0, v101), (2, ((o100 : Nat) : Int))] μ = (C 41 [(0, v4), (0, v8)] μ).bind fun q1 => ((C 42 [(2, ((o100 : Nat) : Int)), (0, v101), (0, q1.1), (0, 1)] q1.2).bind fun q2 => (g_Army_lose_55 E o0 v1 v4 v5 v6 v7 (zw (v8 + 1)) q2.2)) := by
    intro C E
    rcases ho0 with rfl | rfl <;> rcases ho100 with rfl | rfl <;> (rfl)
  exact key _ _
set_option maxRecDepth 100000 in
theorem e_Army_lose_156 (z : zZ) (d : Nat) (o0 : Nat) (v8 : Int) (μ : Mu) (ho0 : o0 = 4 ∨ o0 = 13) : f_Army_lose_156 z d o0 v8 μ = (mC z d 40 [(2, ((o0 : Nat) : Int)), (0, v8)] μ).bind fun q1 => (f_Army_lose_162 z d q1.2) := by
  show mE z d q_Army_lose 156 [(2, ((o0 : Nat) : Int)), (9, 0), (9, 0), (9, 0), (9, 0), (9, 0), (9, 0), (9, 0), (0, v8), (9, 0)] [] μ = _
  rw [mE_bk (M := q_Army_lose) k_Army_lose.1 k_Army_lose.2 [15, 16, 55, 75, 77, 94, 156, 162] 400]
  have key : ∀ (C : Nat → List zv → Mu → mR) (E : Nat → List zv → List zv → Mu → mR), mbk C E q_Army_lose.1 q_Army_lose.2.1 z q_Army_lose.2.2.2 [15, 16, 55, 75, 77, 94, 156, 162] 400 (zfind q_Army_lose.2.2.2 156) [(2, ((o0 : Nat) : Int)), (9, 0), (9, 0), (9, 0), (9, 0), (9, 0), (9, 0), (9, 0), (0, v8), (9, 0)] [] μ = (C 40 [(2, ((o0 : Nat) : Int)), (0, v8)] μ).bind fun q1 => (g_Army_lose_162 E q1.2) := by
    intro C E
    rcases ho0 with rfl | rfl <;> (rfl)
  exact key _ _
set_option maxRecDepth 100000 in
theorem e_Army_lose_162 (z : zZ) (d : Nat) (μ : Mu) : f_Army_lose_162 z d μ = some (0, μ) := by
  show mE z d q_Army_lose 162 [(9, 0), (9, 0), (9, 0), (9, 0), (9, 0), (9, 0), (9, 0), (9, 0), (9, 0), (9, 0)] [] μ = _
  rw [mE_bk (M := q_Army_lose) k_Army_lose.1 k_Army_lose.2 [15, 16, 55, 75, 77, 94, 156, 162] 400]
  have key : ∀ (C : Nat → List zv → Mu → mR) (E : Nat → List zv → List zv → Mu → mR), mbk C E q_Army_lose.1 q_Army_lose.2.1 z q_Army_lose.2.2.2 [15, 16, 55, 75, 77, 94, 156, 162] 400 (zfind q_Army_lose.2.2.2 162) [(9, 0), (9, 0), (9, 0), (9, 0), (9, 0), (9, 0), (9, 0), (9, 0), (9, 0), (9, 0)] [] μ = some (0, μ) := by
    intro C E
    rfl
  exact key _ _
