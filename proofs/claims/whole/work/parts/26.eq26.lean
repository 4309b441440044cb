def g_Law_run_15 (E : Nat → List zv → List zv → Mu → mR) (o0 : Nat) (v2 : Int) (v3 : Int) (v4 : Int) (μ : Mu) : mR := E 15 [(2, ((o0 : Nat) : Int)), (9, 0), (2, v2), (0, v3), (0, v4), (9, 0), (9, 0), (9, 0), (9, 0)] [] μ
noncomputable def f_Law_run_15 (z : zZ) (d : Nat) (o0 : Nat) (v2 : Int) (v3 : Int) (v4 : Int) (μ : Mu) : mR := g_Law_run_15 (fun pc ls st μ => mE z d q_Law_run pc ls st μ) o0 v2 v3 v4 μ
def g_Law_run_76 (E : Nat → List zv → List zv → Mu → mR) (o0 : Nat) (v2 : Int) (v3 : Int) (v4 : Int) (v5 : Int) (v6 : Int) (μ : Mu) : mR := E 76 [(2, ((o0 : Nat) : Int)), (9, 0), (2, v2), (0, v3), (0, v4), (0, v5), (0, v6), (9, 0), (9, 0)] [] μ
noncomputable def f_Law_run_76 (z : zZ) (d : Nat) (o0 : Nat) (v2 : Int) (v3 : Int) (v4 : Int) (v5 : Int) (v6 : Int) (μ : Mu) : mR := g_Law_run_76 (fun pc ls st μ => mE z d q_Law_run pc ls st μ) o0 v2 v3 v4 v5 v6 μ
def g_Law_run_88 (E : Nat → List zv → List zv → Mu → mR) (o0 : Nat) (v2 : Int) (v3 : Int) (v4 : Int) (v5 : Int) (v6 : Int) (μ : Mu) : mR := E 88 [(2, ((o0 : Nat) : Int)), (9, 0), (2, v2), (0, v3), (0, v4), (0, v5), (0, v6), (9, 0), (9, 0)] [] μ
noncomputable def f_Law_run_88 (z : zZ) (d : Nat) (o0 : Nat) (v2 : Int) (v3 : Int) (v4 : Int) (v5 : Int) (v6 : Int) (μ : Mu) : mR := g_Law_run_88 (fun pc ls st μ => mE z d q_Law_run pc ls st μ) o0 v2 v3 v4 v5 v6 μ
def g_Law_run_104 (E : Nat → List zv → List zv → Mu → mR) (o0 : Nat) (v2 : Int) (v3 : Int) (v4 : Int) (v5 : Int) (v6 : Int) (v7 : Int) (v100 : Int) (μ : Mu) : mR := E 104 [(2, ((o0 : Nat) : Int)), (9, 0), (2, v2), (0, v3), (0, v4), (0, v5), (0, v6), (0, v7), (9, 0)] [(0, v100)] μ
noncomputable def f_Law_run_104 (z : zZ) (d : Nat) (o0 : Nat) (v2 : Int) (v3 : Int) (v4 : Int) (v5 : Int) (v6 : Int) (v7 : Int) (v100 : Int) (μ : Mu) : mR := g_Law_run_104 (fun pc ls st μ => mE z d q_Law_run pc ls st μ) o0 v2 v3 v4 v5 v6 v7 v100 μ
def g_Law_run_115 (E : Nat → List zv → List zv → Mu → mR) (o0 : Nat) (v2 : Int) (v3 : Int) (v4 : Int) (v6 : Int) (v7 : Int) (v100 : Int) (v101 : Int) (μ : Mu) : mR := E 115 [(2, ((o0 : Nat) : Int)), (9, 0), (2, v2), (0, v3), (0, v4), (9, 0), (0, v6), (0, v7), (9, 0)] [(0, v101), (0, v100)] μ
noncomputable def f_Law_run_115 (z : zZ) (d : Nat) (o0 : Nat) (v2 : Int) (v3 : Int) (v4 : Int) (v6 : Int) (v7 : Int) (v100 : Int) (v101 : Int) (μ : Mu) : mR := g_Law_run_115 (fun pc ls st μ => mE z d q_Law_run pc ls st μ) o0 v2 v3 v4 v6 v7 v100 v101 μ
def g_Law_run_123 (E : Nat → List zv → List zv → Mu → mR) (o0 : Nat) (v2 : Int) (v3 : Int) (v4 : Int) (v6 : Int) (v7 : Int) (v100 : Int) (μ : Mu) : mR := E 123 [(2, ((o0 : Nat) : Int)), (9, 0), (2, v2), (0, v3), (0, v4), (9, 0), (0, v6), (0, v7), (9, 0)] [(0, v100)] μ
noncomputable def f_Law_run_123 (z : zZ) (d : Nat) (o0 : Nat) (v2 : Int) (v3 : Int) (v4 : Int) (v6 : Int) (v7 : Int) (v100 : Int) (μ : Mu) : mR := g_Law_run_123 (fun pc ls st μ => mE z d q_Law_run pc ls st μ) o0 v2 v3 v4 v6 v7 v100 μ
def g_Law_run_139 (E : Nat → List zv → List zv → Mu → mR) (o0 : Nat) (v2 : Int) (v3 : Int) (v4 : Int) (μ : Mu) : mR := E 139 [(2, ((o0 : Nat) : Int)), (9, 0), (2, v2), (0, v3), (0, v4), (9, 0), (9, 0), (9, 0), (9, 0)] [] μ
noncomputable def f_Law_run_139 (z : zZ) (d : Nat) (o0 : Nat) (v2 : Int) (v3 : Int) (v4 : Int) (μ : Mu) : mR := g_Law_run_139 (fun pc ls st μ => mE z d q_Law_run pc ls st μ) o0 v2 v3 v4 μ
def g_Law_run_151 (E : Nat → List zv → List zv → Mu → mR) (o0 : Nat) (v2 : Int) (v3 : Int) (v4 : Int) (μ : Mu) : mR := E 151 [(2, ((o0 : Nat) : Int)), (9, 0), (2, v2), (0, v3), (0, v4), (9, 0), (9, 0), (9, 0), (9, 0)] [] μ
noncomputable def f_Law_run_151 (z : zZ) (d : Nat) (o0 : Nat) (v2 : Int) (v3 : Int) (v4 : Int) (μ : Mu) : mR := g_Law_run_151 (fun pc ls st μ => mE z d q_Law_run pc ls st μ) o0 v2 v3 v4 μ
def g_Law_run_157 (E : Nat → List zv → List zv → Mu → mR) (μ : Mu) : mR := E 157 [(9, 0), (9, 0), (9, 0), (9, 0), (9, 0), (9, 0), (9, 0), (9, 0), (9, 0)] [] μ
noncomputable def f_Law_run_157 (z : zZ) (d : Nat) (μ : Mu) : mR := g_Law_run_157 (fun pc ls st μ => mE z d q_Law_run pc ls st μ) μ
theorem k_Law_run : zprK q_Law_run.2.2.2 = true ∧ zinc q_Law_run.2.2.2 = true := by decide +kernel
set_option maxRecDepth 100000 in
theorem c_Law_run (z : zZ) (d : Nat) (o0 : Nat) (v1 : Int) (v2 : Int) (μ : Mu) (ho0 : o0 = 41 ∨ o0 = 47) : mC z (d + 1) 87 [(2, ((o0 : Nat) : Int)), (0, v1), (2, v2)] μ = f_Law_run_15 z d o0 v2 v1 0 (zup (zup μ o0 7 0) o0 8 0) := by
  rw [mC_succ q_Law_run rfl rfl rfl]
  rw [mE_bk (M := q_Law_run) k_Law_run.1 k_Law_run.2 [15, 76, 88, 104, 115, 123, 139, 151, 157] 400]
  have key : ∀ (C : Nat → List zv → Mu → mR) (E : Nat → List zv → List zv → Mu → mR), mbk C E q_Law_run.1 q_Law_run.2.1 z q_Law_run.2.2.2 [15, 76, 88, 104, 115, 123, 139, 151, 157] 400 (zfind q_Law_run.2.2.2 0) (zentry q_Law_run.2.2.1 [(2, ((o0 : Nat) : Int)), (0, v1), (2, v2)]) [] μ = g_Law_run_15 E o0 v2 v1 0 (zup (zup μ o0 7 0) o0 8 0) := by
    intro C E
    rcases ho0 with rfl | rfl <;> (rfl)
  exact key _ _
set_option maxRecDepth 100000 in
theorem e_Law_run_15 (z : zZ) (d : Nat) (o0 : Nat) (v2 : Int) (v3 : Int) (v4 : Int) (μ : Mu) (ho0 : o0 = 41 ∨ o0 = 47) : f_Law_run_15 z d o0 v2 v3 v4 μ = bif decide (256 ≤ v4) then (f_Law_run_157 z d μ) else (bif decide (v3 < 0) then (f_Law_run_157 z d μ) else (bif decide (μ o0 5 ≤ v3) then (f_Law_run_157 z d μ) else (bif !decide (μ o0 8 = 0) then (f_Law_run_157 z d μ) else (gI v3 256 (gI v3 256 (bif !decide (z_and (μ (o0 + 4) v3.toNat) 15 = 0) then (f_Law_run_76 z d o0 v2 (zw (v3 + 1)) v4 (z_and (μ (o0 + 4) v3.toNat) 15) (z_ushr (μ (o0 + 4) v3.toNat) 4) μ) else ((mC z d 88 [(2, ((o0 : Nat) : Int))] μ).bind fun q1 => (some (q1.1, q1.2))))))))) := by
  show mE z d q_Law_run 15 [(2, ((o0 : Nat) : Int)), (9, 0), (2, v2), (0, v3), (0, v4), (9, 0), (9, 0), (9, 0), (9, 0)] [] μ = _
  rw [mE_bk (M := q_Law_run) k_Law_run.1 k_Law_run.2 [15, 76, 88, 104, 115, 123, 139, 151, 157] 400]
  have key : ∀ (C : Nat → List zv → Mu → mR) (E : Nat → List zv → List zv → Mu → mR), mbk C E q_Law_run.1 q_Law_run.2.1 z q_Law_run.2.2.2 [15, 76, 88, 104, 115, 123, 139, 151, 157] 400 (zfind q_Law_run.2.2.2 15) [(2, ((o0 : Nat) : Int)), (9, 0), (2, v2), (0, v3), (0, v4), (9, 0), (9, 0), (9, 0), (9, 0)] [] μ = bif decide (256 ≤ v4) then (g_Law_run_157 E μ) else (bif decide (v3 < 0) then (g_Law_run_157 E μ) else (bif decide (μ o0 5 ≤ v3) then (g_Law_run_157 E μ) else (bif !decide (μ o0 8 = 0) then (g_Law_run_157 E μ) else (gI v3 256 (gI v3 256 (bif !decide (z_and (μ (o0 + 4) v3.toNat) 15 = 0) then (g_Law_run_76 E o0 v2 (zw (v3 + 1)) v4 (z_and (μ (o0 + 4) v3.toNat) 15) (z_ushr (μ (o0 + 4) v3.toNat) 4) μ) else ((C 88 [(2, ((o0 : Nat) : Int))] μ).bind fun q1 => (some (q1.1, q1.2))))))))) := by
    intro C E
    rcases ho0 with rfl | rfl <;> (rfl)
  exact key _ _
set_option maxRecDepth 100000 in
theorem e_Law_run_157 (z : zZ) (d : Nat) (μ : Mu) : f_Law_run_157 z d μ = some (0, μ) := by
  show mE z d q_Law_run 157 [(9, 0), (9, 0), (9, 0), (9, 0), (9, 0), (9, 0), (9, 0), (9, 0), (9, 0)] [] μ = _
  rw [mE_bk (M := q_Law_run) k_Law_run.1 k_Law_run.2 [15, 76, 88, 104, 115, 123, 139, 151, 157] 400]
  have key : ∀ (C : Nat → List zv → Mu → mR) (E : Nat → List zv → List zv → Mu → mR), mbk C E q_Law_run.1 q_Law_run.2.1 z q_Law_run.2.2.2 [15, 76, 88, 104, 115, 123, 139, 151, 157] 400 (zfind q_Law_run.2.2.2 157) [(9, 0), (9, 0), (9, 0), (9, 0), (9, 0), (9, 0), (9, 0), (9, 0), (9, 0)] [] μ = some (0, μ) := by
    intro C E
    rfl
  exact key _ _
set_option maxRecDepth 100000 in
theorem e_Law_run_76 (z : zZ) (d : Nat) (o0 : Nat) (v2 : Int) (v3 : Int) (v4 : Int) (v5 : Int) (v6 : Int) (μ : Mu) (ho0 : o0 = 41 ∨ o0 = 47) : f_Law_run_76 z d o0 v2 v3 v4 v5 v6 μ = bif decide (v5 = 4) then (f_Law_run_88 z d o0 v2 v3 v4 v5 v6 μ) else (bif !decide (v5 = 5) then ((mC z d 90 [(2, ((o0 : Nat) : Int)), (0, v5), (0, v6), (2, v2)] μ).bind fun q1 => (f_Law_run_151 z d o0 v2 v3 v4 q1.2)) else (f_Law_run_88 z d o0 v2 v3 v4 v5 v6 μ)) := by
  show mE z d q_Law_run 76 [(2, ((o0 : Nat) : Int)), (9, 0), (2, v2), (0, v3), (0, v4), (0, v5), (0, v6), (9, 0), (9, 0)] [] μ = _
  rw [mE_bk (M := q_Law_run) k_Law_run.1 k_Law_run.2 [15, 76, 88, 104, 115, 123, 139, 151, 157] 400]
  have key : ∀ (C : Nat → List zv → Mu → mR) (E : Nat → List zv → List zv → Mu → mR), mbk C E q_Law_run.1 q_Law_run.2.1 z q_Law_run.2.2.2 [15, 76, 88, 104, 115, 123, 139, 151, 157] 400 (zfind q_Law_run.2.2.2 76) [(2, ((o0 : Nat) : Int)), (9, 0), (2, v2), (0, v3), (0, v4), (0, v5), (0, v6), (9, 0), (9, 0)] [] μ = bif decide (v5 = 4) then (g_Law_run_88 E o0 v2 v3 v4 v5 v6 μ) else (bif !decide (v5 = 5) then ((C 90 [(2, ((o0 : Nat) : Int)), (0, v5), (0, v6), (2, v2)] μ).bind fun q1 => (g_Law_run_151 E o0 v2 v3 v4 q1.2)) else (g_Law_run_88 E o0 v2 v3 v4 v5 v6 μ)) := by
    intro C E
    rcases ho0 with rfl | rfl <;> (rfl)
  exact key _ _
set_option maxRecDepth 100000 in
theorem e_Law_run_88 (z : zZ) (d : Nat) (o0 : Nat) (v2 : Int) (v3 : Int) (v4 : Int) (v5 : Int) (v6 : Int) (μ : Mu) (ho0 : o0 = 41 ∨ o0 = 47) : f_Law_run_88 z d o0 v2 v3 v4 v5 v6 μ = (mC z d 88 [(2, ((o0 : Nat) : Int))] μ).bind fun q1 => (bif decide (q1.1 = 0) then (f_Law_run_104 z d o0 v2 v3 v4 v5 v6 q1.1 0 q1.2) else (f_Law_run_104 z d o0 v2 v3 v4 v5 v6 q1.1 1 q1.2)) := by
  show mE z d q_Law_run 88 [(2, ((o0 : Nat) : Int)), (9, 0), (2, v2), (0, v3), (0, v4), (0, v5), (0, v6), (9, 0), (9, 0)] [] μ = _
  rw [mE_bk (M := q_Law_run) k_Law_run.1 k_Law_run.2 [15, 76, 88, 104, 115, 123, 139, 151, 157] 400]
  have key : ∀ (C : Nat → List zv → Mu → mR) (E : Nat → List zv → List zv → Mu → mR), mbk C E q_Law_run.1 q_Law_run.2.1 z q_Law_run.2.2.2 [15, 76, 88, 104, 115, 123, 139, 151, 157] 400 (zfind q_Law_run.2.2.2 88) [(2, ((o0 : Nat) : Int)), (9, 0), (2, v2), (0, v3), (0, v4), (0, v5), (0, v6), (9, 0), (9, 0)] [] μ = (C 88 [(2, ((o0 : Nat) : Int))] μ).bind fun q1 => (bif decide (q1.1 = 0) then (g_Law_run_104 E o0 v2 v3 v4 v5 v6 q1.1 0 q1.2) else (g_Law_run_104 E o0 v2 v3 v4 v5 v6 q1.1 1 q1.2)) := by
    intro C E
    rcases ho0 with rfl | rfl <;> (rfl)
  exact key _ _
set_option maxRecDepth 100000 in
theorem e_Law_run_151 (z : zZ) (d : Nat) (o0 : Nat) (v2 : Int) (v3 : Int) (v4 : Int) (μ : Mu) (ho0 : o0 = 41 ∨ o0 = 47) : f_Law_run_151 z d o0 v2 v3 v4 μ = f_Law_run_15 z d o0 v2 v3 (zw (v4 + 1)) μ := by
  show mE z d q_Law_run 151 [(2, ((o0 : Nat) : Int)), (9, 0), (2, v2), (0, v3), (0, v4), (9, 0), (9, 0), (9, 0), (9, 0)] [] μ = _
  rw [mE_bk (M := q_Law_run) k_Law_run.1 k_Law_run.2 [15, 76, 88, 104, 115, 123, 139, 151, 157] 400]
  have key : ∀ (C : Nat → List zv → Mu → mR) (E : Nat → List zv → List zv → Mu → mR), mbk C E q_Law_run.1 q_Law_run.2.1 z q_Law_run.2.2.2 [15, 76, 88, 104, 115, 123, 139, 151, 157] 400 (zfind q_Law_run.2.2.2 151) [(2, ((o0 : Nat) : Int)), (9, 0), (2, v2), (0, v3), (0, v4), (9, 0), (9, 0), (9, 0), (9, 0)] [] μ = g_Law_run_15 E o0 v2 v3 (zw (v4 + 1)) μ := by
    intro C E
    rcases ho0 with rfl | rfl <;> (rfl)
  exact key _ _
set_option maxRecDepth 100000 in
theorem e_Law_run_104 (z : zZ) (d : Nat) (o0 : Nat) (v2 : Int) (v3 : Int) (v4 : Int) (v5 : Int) (v6 : Int) (v7 : Int) (v100 : Int) (μ : Mu) (ho0 : o0 = 41 ∨ o0 = 47) : f_Law_run_104 z d o0 v2 v3 v4 v5 v6 v7 v100 μ = bif !decide (v5 = 4) then (f_Law_run_115 z d o0 v2 v3 v4 v6 v7 v100 0 μ) else (f_Law_run_115 z d o0 v2 v3 v4 v6 v7 v100 1 μ) := by
  show mE z d q_Law_run 104 [(2, ((o0 : Nat) : Int)), (9, 0), (2, v2), (0, v3), (0, v4), (0, v5), (0, v6), (0, v7), (9, 0)] [(0, v100)] μ = _
  rw [mE_bk (M := q_Law_run) k_Law_run.1 k_Law_run.2 [15, 76, 88, 104, 115, 123, 139, 151, 157] 400]
  have key : ∀ (C : Nat → List zv → Mu → mR) (E : Nat → List zv → List zv → Mu → mR), mbk C E q_Law_run.1 q_Law_run.2.1 z q_Law_run.2.2.2 [15, 76, 88, 104, 115, 123, 139, 151, 157] 400 (zfind q_Law_run.2.2.2 104) [(2, ((o0 : Nat) : Int)), (9, 0), (2, v2), (0, v3), (0, v4), (0, v5), (0, v6), (0, v7), (9, 0)] [(0, v100)] μ = bif !decide (v5 = 4) then (g_Law_run_115 E o0 v2 v3 v4 v6 v7 v100 0 μ) else (g_Law_run_115 E o0 v2 v3 v4 v6 v7 v100 1 μ) := by
    intro C E
    rcases ho0 with rfl | rfl <;> (rfl)
  exact key _ _
set_option maxRecDepth 100000 in
theorem e_Law_run_115 (z : zZ) (d : Nat) (o0 : Nat) (v2 : Int) (v3 : Int) (v4 : Int) (v6 : Int) (v7 : Int) (v100 : Int) (v101 : Int) (μ : Mu) (ho0 : o0 = 41 ∨ o0 = 47) : f_Law_run_115 z d o0 v2 v3 v4 v6 v7 v100 v101 μ = bif !decide (v100 = v101) then (f_Law_run_123 z d o0 v2 v3 v4 v6 v7 0 μ) else (f_Law_run_123 z d o0 v2 v3 v4 v6 v7 1 μ) := by
  show mE z d q_Law_run 115 [(2, ((o0 : Nat) : Int)), (9, 0), (2, v2), (0, v3), (0, v4), (9, 0), (0, v6), (0, v7), (9, 0)] [(0, v101), (0, v100)] μ = _
  rw [mE_bk (M := q_Law_run) k_Law_run.1 k_Law_run.2 [15, 76, 88, 104, 115, 123, 139, 151, 157] 400]
  have key : ∀ (C : Nat → List zv → Mu → mR) (E : Nat → List zv → List zv → Mu → mR), mbk C E q_Law_run.1 q_Law_run.2.1 z q_Law_run.2.2.2 [15, 76, 88, 104, 115, 123, 139, 151, 157] 400 (zfind q_Law_run.2.2.2 115) [(2, ((o0 : Nat) : Int)), (9, 0), (2, v2), (0, v3), (0, v4), (9, 0), (0, v6), (0, v7), (9, 0)] [(0, v101), (0, v100)] μ = bif !decide (v100 = v101) then (g_Law_run_123 E o0 v2 v3 v4 v6 v7 0 μ) else (g_Law_run_123 E o0 v2 v3 v4 v6 v7 1 μ) := by
    intro C E
    rcases ho0 with rfl | rfl <;> (rfl)
  exact key _ _
set_option maxRecDepth 100000 in
theorem e_Law_run_123 (z : zZ) (d : Nat) (o0 : Nat) (v2 : Int) (v3 : Int) (v4 : Int) (v6 : Int) (v7 : Int) (v100 : Int) (μ : Mu) (ho0 : o0 = 41 ∨ o0 = 47) : f_Law_run_123 z d o0 v2 v3 v4 v6 v7 v100 μ = bif decide (v100 = 0) then (f_Law_run_139 z d o0 v2 v3 v4 μ) else ((mC z d 89 [(2, ((o0 : Nat) : Int)), (0, v7)] μ).bind fun q1 => (f_Law_run_139 z d o0 v2 v6 v4 q1.2)) := by
  show mE z d q_Law_run 123 [(2, ((o0 : Nat) : Int)), (9, 0), (2, v2), (0, v3), (0, v4), (9, 0), (0, v6), (0, v7), (9, 0)] [(0, v100)] μ = _
  rw [mE_bk (M := q_Law_run) k_Law_run.1 k_Law_run.2 [15, 76, 88, 104, 115, 123, 139, 151, 157] 400]
  have key : ∀ (C : Nat → List zv → Mu → mR) (E : Nat → List zv → List zv → Mu → mR), mbk C E q_Law_run.1 q_Law_run.2.1 z q_Law_run.2.2.2 [15, 76, 88, 104, 115, 123, 139, 151, 157] 400 (zfind q_Law_run.2.2.2 123) [(2, ((o0 : Nat) : Int)), (9, 0), (2, v2), (0, v3), (0, v4), (9, 0), (0, v6), (0, v7), (9, 0)] [(0, v100)] μ = bif decide (v100 = 0) then (g_Law_run_139 E o0 v2 v3 v4 μ) else ((C 89 [(2, ((o0 : Nat) : Int)), (0, v7)] μ).bind fun q1 => (g_Law_run_139 E o0 v2 v6 v4 q1.2)) := by
    intro C E
    rcases ho0 with rfl | rfl <;> (rfl)
  exact key _ _
set_option maxRecDepth 100000 in
theorem e_Law_run_139 (z : zZ) (d : Nat) (o0 : Nat) (v2 : Int) (v3 : Int) (v4 : Int) (μ : Mu) (ho0 : o0 = 41 ∨ o0 = 47) : f_Law_run_139 z d o0 v2 v3 v4 μ = f_Law_run_151 z d o0 v2 v3 v4 μ := by
  show mE z d q_Law_run 139 [(2, ((o0 : Nat) : Int)), (9, 0), (2, v2), (0, v3), (0, v4), (9, 0), (9, 0), (9, 0), (9, 0)] [] μ = _
  rw [mE_bk (M := q_Law_run) k_Law_run.1 k_Law_run.2 [15, 76, 88, 104, 115, 123, 139, 151, 157] 400]
  have key : ∀ (C : Nat → List zv → Mu → mR) (E : Nat → List zv → List zv → Mu → mR), mbk C E q_Law_run.1 q_Law_run.2.1 z q_Law_run.2.2.2 [15, 76, 88, 104, 115, 123, 139, 151, 157] 400 (zfind q_Law_run.2.2.2 139) [(2, ((o0 : Nat) : Int)), (9, 0), (2, v2), (0, v3), (0, v4), (9, 0), (9, 0), (9, 0), (9, 0)] [] μ = g_Law_run_151 E o0 v2 v3 v4 μ := by
    intro C E
    rcases ho0 with rfl | rfl <;> (rfl)
  exact key _ _
def g_Law_pop_20 (E : Nat → List zv → List zv → Mu → mR) (μ : Mu) : mR := E 20 [(9, 0)] [] μ
noncomputable def f_Law_pop_20 (z : zZ) (d : Nat) (μ : Mu) : mR := g_Law_pop_20 (fun pc ls st μ => mE z d q_Law_pop pc ls st μ) μ
theorem k_Law_pop : zprK q_Law_pop.2.2.2 = true ∧ zinc q_Law_pop.2.2.2 = true := by decide +kernel
set_option maxRecDepth 100000 in
theorem c_Law_pop (z : zZ) (d : Nat) (o0 : Nat) (μ : Mu) (ho0 : o0 = 41 ∨ o0 = 47) : mC z (d + 1) 88 [(2, ((o0 : Nat) : Int))] μ = bif decide (μ o0 7 < 1) then (f_Law_pop_20 z d μ) else (bif decide (μ o0 7 ≤ 64) then (gI (zw ((μ o0 7) - 1)) 64 (some (μ (o0 + 5) ((zw ((μ o0 7) - 1)).toNat), zup μ o0 7 (zw ((μ o0 7) - 1))))) else (f_Law_pop_20 z d μ)) := by
  rw [mC_succ q_Law_pop rfl rfl rfl]
  rw [mE_bk (M := q_Law_pop) k_Law_pop.1 k_Law_pop.2 [20] 400]
  have key : ∀ (C : Nat → List zv → Mu → mR) (E : Nat → List zv → List zv → Mu → mR), mbk C E q_Law_pop.1 q_Law_pop.2.1 z q_Law_pop.2.2.2 [20] 400 (zfind q_Law_pop.2.2.2 0) (zentry q_Law_pop.2.2.1 [(2, ((o0 : Nat) : Int))]) [] μ = bif decide (μ o0 7 < 1) then (g_Law_pop_20 E μ) else (bif decide (μ o0 7 ≤ 64) then (gI (zw ((μ o0 7) - 1)) 64 (some (μ (o0 + 5) ((zw ((μ o0 7) - 1)).toNat), zup μ o0 7 (zw ((μ o0 7) - 1))))) else (g_Law_pop_20 E μ)) := by
    intro C E
    rcases ho0 with rfl | rfl <;> (rfl)
  exact key _ _
set_option maxRecDepth 100000 in
theorem e_Law_pop_20 (z : zZ) (d : Nat) (μ : Mu) : f_Law_pop_20 z d μ = some (0, μ) := by
  show mE z d q_Law_pop 20 [(9, 0)] [] μ = _
  rw [mE_bk (M := q_Law_pop) k_Law_pop.1 k_Law_pop.2 [20] 400]
  have key : ∀ (C : Nat → List zv → Mu → mR) (E : Nat → List zv → List zv → Mu → mR), mbk C E q_Law_pop.1 q_Law_pop.2.1 z q_Law_pop.2.2.2 [20] 400 (zfind q_Law_pop.2.2.2 20) [(9, 0)] [] μ = some (0, μ) := by
    intro C E
    rfl
  exact key _ _
def g_Law_push_39 (E : Nat → List zv → List zv → Mu → mR) (μ : Mu) : mR := E 39 [(9, 0), (9, 0)] [] μ
noncomputable def f_Law_push_39 (z : zZ) (d : Nat) (μ : Mu) : mR := g_Law_push_39 (fun pc ls st μ => mE z d q_Law_push pc ls st μ) μ
theorem k_Law_push : zprK q_Law_push.2.2.2 = true ∧ zinc q_Law_push.2.2.2 = true := by decide +kernel
set_option maxRecDepth 100000 in
theorem c_Law_push (z : zZ) (d : Nat) (o0 : Nat) (v1 : Int) (μ : Mu) (ho0 : o0 = 41 ∨ o0 = 47) : mC z (d + 1) 89 [(2, ((o0 : Nat) : Int)), (0, v1)] μ = bif decide (μ o0 7 < 0) then (f_Law_push_39 z d μ) else (bif decide (64 ≤ μ o0 7) then (f_Law_push_39 z d μ) else (gI (μ o0 7) 64 (f_Law_push_39 z d (zup (zup μ (o0 + 5) ((μ o0 7).toNat) v1) o0 7 (zw ((μ o0 7) + 1)))))) := by
  rw [mC_succ q_Law_push rfl rfl rfl]
  rw [mE_bk (M := q_Law_push) k_Law_push.1 k_Law_push.2 [39] 400]
  have key : ∀ (C : Nat → List zv → Mu → mR) (E : Nat → List zv → List zv → Mu → mR), mbk C E q_Law_push.1 q_Law_push.2.1 z q_Law_push.2.2.2 [39] 400 (zfind q_Law_push.2.2.2 0) (zentry q_Law_push.2.2.1 [(2, ((o0 : Nat) : Int)), (0, v1)]) [] μ = bif decide (μ o0 7 < 0) then (g_Law_push_39 E μ) else (bif decide (64 ≤ μ o0 7) then (g_Law_push_39 E μ) else (gI (μ o0 7) 64 (g_Law_push_39 E (zup (zup μ (o0 + 5) ((μ o0 7).toNat) v1) o0 7 (zw ((μ o0 7) + 1)))))) := by
    intro C E
    rcases ho0 with rfl | rfl <;> (rfl)
  exact key _ _
set_option maxRecDepth 100000 in
theorem e_Law_push_39 (z : zZ) (d : Nat) (μ : Mu) : f_Law_push_39 z d μ = some (0, μ) := by
  show mE z d q_Law_push 39 [(9, 0), (9, 0)] [] μ = _
  rw [mE_bk (M := q_Law_push) k_Law_push.1 k_Law_push.2 [39] 400]
  have key : ∀ (C : Nat → List zv → Mu → mR) (E : Nat → List zv → List zv → Mu → mR), mbk C E q_Law_push.1 q_Law_push.2.1 z q_Law_push.2.2.2 [39] 400 (zfind q_Law_push.2.2.2 39) [(9, 0), (9, 0)] [] μ = some (0, μ) := by
    intro C E
    rfl
  exact key _ _
def g_Law_step_10 (E : Nat → List zv → List zv → Mu → mR) (o0 : Nat) (v1 : Int) (v2 : Int) (v3 : Int) (μ : Mu) : mR := E 10 [(2, ((o0 : Nat) : Int)), (0, v1), (0, v2), (2, v3), (9, 0), (9, 0)] [] μ
noncomputable def f_Law_step_10 (z : zZ) (d : Nat) (o0 : Nat) (v1 : Int) (v2 : Int) (v3 : Int) (μ : Mu) : mR := g_Law_step_10 (fun pc ls st μ => mE z d q_Law_step pc ls st μ) o0 v1 v2 v3 μ
def g_Law_step_31 (E : Nat → List zv → List zv → Mu → mR) (o100 : Nat) (μ : Mu) : mR := E 31 [(9, 0), (9, 0), (9, 0), (9, 0), (9, 0), (9, 0)] [(2, ((o100 : Nat) : Int))] μ
noncomputable def f_Law_step_31 (z : zZ) (d : Nat) (o100 : Nat) (μ : Mu) : mR := g_Law_step_31 (fun pc ls st μ => mE z d q_Law_step pc ls st μ) o100 μ
def g_Law_step_32 (E : Nat → List zv → List zv → Mu → mR) (o100 : Nat) (v101 : Int) (μ : Mu) : mR := E 32 [(9, 0), (9, 0), (9, 0), (9, 0), (9, 0), (9, 0)] [(0, v101), (2, ((o100 : Nat) : Int))] μ
noncomputable def f_Law_step_32 (z : zZ) (d : Nat) (o100 : Nat) (v101 : Int) (μ : Mu) : mR := g_Law_step_32 (fun pc ls st μ => mE z d q_Law_step pc ls st μ) o100 v101 μ
def g_Law_step_84 (E : Nat → List zv → List zv → Mu → mR) (μ : Mu) : mR := E 84 [(9, 0), (9, 0), (9, 0), (9, 0), (9, 0), (9, 0)] [] μ
noncomputable def f_Law_step_84 (z : zZ) (d : Nat) (μ : Mu) : mR := g_Law_step_84 (fun pc ls st μ => mE z d q_Law_step pc ls st μ) μ
theorem k_Law_step : zprK q_Law_step.2.2.2 = true ∧ zinc q_Law_step.2.2.2 = true := by decide +kernel
set_option maxRecDepth 100000 in
theorem c_Law_step (z : zZ) (d : Nat) (o0 : Nat) (v1 : Int) (v2 : Int) (v3 : Int) (μ : Mu) (ho0 : o0 = 41 ∨ o0 = 47) : mC z (d + 1) 90 [(2, ((o0 : Nat) : Int)), (0, v1), (0, v2), (2, v3)] μ = bif !decide (v1 = 1) then (bif !decide (v1 = 2) then (bif !decide (v1 = 3) then ((mC z d 88 [(2, ((o0 : Nat) : Int))] μ).bind fun q1 => ((mC z d 88 [(2, ((o0 : Nat) : Int))] q1.2).bind fun q2 => ((mC z d 91 [(2, ((o0 : Nat) : Int)), (0, zw (v1 - 6)), (0, q2.1), (0, q1.1)] q2.2).bind fun q3 => ((mC z d 89 [(2, ((o0 : Nat) : Int)), (0, q3.1)] q3.2).bind fun q4 => (f_Law_step_84 z d q4.2))))) else ((mC z d 88 [(2, ((o0 : Nat) : Int))] μ).bind fun q5 => ((mC z d 89 [(2, ((o0 : Nat) : Int)), (0, zw (1 - q5.1))] q5.2).bind fun q6 => (f_Law_step_84 z d q6.2)))) else (gK v3 (bif decide (zlen v3 ≤ v2) then (f_Law_step_31 z d o0 μ) else (gA v3 v2 (f_Law_step_32 z d o0 (μ v3.toNat v2.toNat) μ))))) else ((mC z d 89 [(2, ((o0 : Nat) : Int)), (0, v2)] μ).bind fun q7 => (f_Law_step_10 z d o0 v1 v2 v3 q7.2)) := by
  rw [mC_succ q_Law_step rfl rfl rfl]
  rw [mE_bk (M := q_Law_step) k_Law_step.1 k_Law_step.2 [10, 31, 32, 84] 400]
  have key : ∀ (C : Nat → List zv → Mu → mR) (E : Nat → List zv → List zv → Mu → mR), mbk C E q_Law_step.1 q_Law_step.2.1 z q_Law_step.2.2.2 [10, 31, 32, 84] 400 (zfind q_Law_step.2.2.2 0) (zentry q_Law_step.2.2.1 [(2, ((o0 : Nat) : Int)), (0, v1), (0, v2), (2, v3)]) [] μ = bif !decide (v1 = 1) then (bif !decide (v1 = 2) then (bif !decide (v1 = 3) then ((C 88 [(2, ((o0 : Nat) : Int))] μ).bind fun q1 => ((C 88 [(2, ((o0 : Nat) : Int))] q1.2).bind fun q2 => ((C 91 [(2, ((o0 : Nat) : Int)), (0, zw (v1 - 6)), (0, q2.1), (0, q1.1)] q2.2).bind fun q3 => ((C 89 [(2, ((o0 : Nat) : Int)), (0, q3.1)] q3.2).bind fun q4 => (g_Law_step_84 E q4.2))))) else ((C 88 [(2, ((o0 : Nat) : Int))] μ).bind fun q5 => ((C 89 [(2, ((o0 : Nat) : Int)), (0, zw (1 - q5.1))] q5.2).bind fun q6 => (g_Law_step_84 E q6.2)))) else (gK v3 (bif decide (zlen v3 ≤ v2) then (g_Law_step_31 E o0 μ) else (gA v3 v2 (g_Law_step_32 E o0 (μ v3.toNat v2.toNat) μ))))) else ((C 89 [(2, ((o0 : Nat) : Int)), (0, v2)] μ).bind fun q7 => (g_Law_step_10 E o0 v1 v2 v3 q7.2)) := by
    intro C E
    rcases ho0 with rfl | rfl <;> (rfl)
  exact key _ _
set_option maxRecDepth 100000 in
theorem e_Law_step_84 (z : zZ) (d : Nat) (μ : Mu) : f_Law_step_84 z d μ = some (0, μ) := by
  show mE z d q_Law_step 84 [(9, 0), (9, 0), (9, 0), (9, 0), (9, 0), (9, 0)] [] μ = _
  rw [mE_bk (M := q_Law_step) k_Law_step.1 k_Law_step.2 [10, 31, 32, 84] 400]
  have key : ∀ (C : Nat → List zv → Mu → mR) (E : Nat → List zv → List zv → Mu → mR), mbk C E q_Law_step.1 q_Law_step.2.1 z q_Law_step.2.2.2 [10, 31, 32, 84] 400 (zfind q_Law_step.2.2.2 84) [(9, 0), (9, 0), (9, 0), (9, 0), (9, 0), (9, 0)] [] μ = some (0, μ) := by
    intro C E
    rfl
  exact key _ _
set_option maxRecDepth 100000 in
theorem e_Law_step_31 (z : zZ) (d : Nat) (o100 : Nat) (μ : Mu) (ho100 : o100 = 41 ∨ o100 = 47) : f_Law_step_31 z d o100 μ = f_Law_step_32 z d o100 0 μ := by
  show mE z d q_Law_step 31 [(9, 0), (9, 0), (9, 0), (9, 0), (9, 0), (9, 0)] [(2, ((o100 : Nat) : Int))] μ = _
  rw [mE_bk (M := q_Law_step) k_Law_step.1 k_Law_step.2 [10, 31, 32, 84] 400]
  have key : ∀ (C : Nat → List zv → Mu → mR) (E : Nat → List zv → List zv → Mu → mR), mbk C E q_Law_step.1 q_Law_step.2.1 z q_Law_step.2.2.2 [10, 31, 32, 84] 400 (zfind q_Law_step.2.2.2 31) [(9, 0), (9, 0), (9, 0), (9, 0), (9, 0), (9, 0)] [(2, ((o100 : Nat) : Int))] μ = g_Law_step_32 E o100 0 μ := by
    intro C E
    rcases ho100 with rfl | rfl <;> (rfl)
  exact key _ _
set_option maxRecDepth 100000 in
theorem e_Law_step_32 (z : zZ) (d : Nat) (o100 : Nat) (v101 : Int) (μ : Mu) (ho100 : o100 = 41 ∨ o100 = 47) : f_Law_step_32 z d o100 v101 μ = (mC z d 89 [(2, ((o100 : Nat) : Int)), (0, v101)] μ).bind fun q1 => (f_Law_step_84 z d q1.2) := by
  show mE z d q_Law_step 32 [(9, 0), (9, 0), (9, 0), (9, 0), (9, 0), (9, 0)] [(0, v101), (2, ((o100 : Nat) : Int))] μ = _
  rw [mE_bk (M := q_Law_step) k_Law_step.1 k_Law_step.2 [10, 31, 32, 84] 400]
  have key : ∀ (C : Nat → List zv → Mu → mR) (E : Nat → List zv → List zv → Mu → mR), mbk C E q_Law_step.1 q_Law_step.2.1 z q_Law_step.2.2.2 [10, 31, 32, 84] 400 (zfind q_Law_step.2.2.2 32) [(9, 0), (9, 0), (9, 0), (9, 0), (9, 0), (9, 0)] [(0, v101), (2, ((o100 : Nat) : Int))] μ = (C 89 [(2, ((o100 : Nat) : Int)), (0, v101)] μ).bind fun q1 => (g_Law_step_84 E q1.2) := by
    intro C E
    rcases ho100 with rfl | rfl <;> (rfl)
  exact key _ _
set_option maxRecDepth 100000 in
theorem e_Law_step_10 (z : zZ) (d : Nat) (o0 : Nat) (v1 : Int) (v2 : Int) (v3 : Int) (μ : Mu) (ho0 : o0 = 41 ∨ o0 = 47) : f_Law_step_10 z d o0 v1 v2 v3 μ = f_Law_step_84 z d μ := by
  show mE z d q_Law_step 10 [(2, ((o0 : Nat) : Int)), (0, v1), (0, v2), (2, v3), (9, 0), (9, 0)] [] μ = _
  rw [mE_bk (M := q_Law_step) k_Law_step.1 k_Law_step.2 [10, 31, 32, 84] 400]
  have key : ∀ (C : Nat → List zv → Mu → mR) (E : Nat → List zv → List zv → Mu → mR), mbk C E q_Law_step.1 q_Law_step.2.1 z q_Law_step.2.2.2 [10, 31, 32, 84] 400 (zfind q_Law_step.2.2.2 10) [(2, ((o0 : Nat) : Int)), (0, v1), (0, v2), (2, v3), (9, 0), (9, 0)] [] μ = g_Law_step_84 E μ := by
    intro C E
    rcases ho0 with rfl | rfl <;> (rfl)
  exact key _ _
def g_Law_reckon_44 (E : Nat → List zv → List zv → Mu → mR) (v2 : Int) (v3 : Int) (μ : Mu) : mR := E 44 [(9, 0), (9, 0), (0, v2), (0, v3)] [] μ
noncomputable def f_Law_reckon_44 (z : zZ) (d : Nat) (v2 : Int) (v3 : Int) (μ : Mu) : mR := g_Law_reckon_44 (fun pc ls st μ => mE z d q_Law_reckon pc ls st μ) v2 v3 μ
def g_Law_reckon_48 (E : Nat → List zv → List zv → Mu → mR) (v2 : Int) (v3 : Int) (μ : Mu) : mR := E 48 [(9, 0), (9, 0), (0, v2), (0, v3)] [] μ
noncomputable def f_Law_reckon_48 (z : zZ) (d : Nat) (v2 : Int) (v3 : Int) (μ : Mu) : mR := g_Law_reckon_48 (fun pc ls st μ => mE z d q_Law_reckon pc ls st μ) v2 v3 μ
def g_Law_reckon_52 (E : Nat → List zv → List zv → Mu → mR) (v2 : Int) (v3 : Int) (μ : Mu) : mR := E 52 [(9, 0), (9, 0), (0, v2), (0, v3)] [] μ
noncomputable def f_Law_reckon_52 (z : zZ) (d : Nat) (v2 : Int) (v3 : Int) (μ : Mu) : mR := g_Law_reckon_52 (fun pc ls st μ => mE z d q_Law_reckon pc ls st μ) v2 v3 μ
def g_Law_reckon_56 (E : Nat → List zv → List zv → Mu → mR) (o0 : Nat) (v1 : Int) (v2 : Int) (v3 : Int) (μ : Mu) : mR := E 56 [(2, ((o0 : Nat) : Int)), (0, v1), (0, v2), (0, v3)] [] μ
noncomputable def f_Law_reckon_56 (z : zZ) (d : Nat) (o0 : Nat) (v1 : Int) (v2 : Int) (v3 : Int) (μ : Mu) : mR := g_Law_reckon_56 (fun pc ls st μ => mE z d q_Law_reckon pc ls st μ) o0 v1 v2 v3 μ
def g_Law_reckon_81 (E : Nat → List zv → List zv → Mu → mR) (v100 : Int) (μ : Mu) : mR := E 81 [(9, 0), (9, 0), (9, 0), (9, 0)] [(0, v100)] μ
noncomputable def f_Law_reckon_81 (z : zZ) (d : Nat) (v100 : Int) (μ : Mu) : mR := g_Law_reckon_81 (fun pc ls st μ => mE z d q_Law_reckon pc ls st μ) v100 μ
def g_Law_reckon_82 (E : Nat → List zv → List zv → Mu → mR) (v2 : Int) (v3 : Int) (μ : Mu) : mR := E 82 [(9, 0), (9, 0), (0, v2), (0, v3)] [] μ
noncomputable def f_Law_reckon_82 (z : zZ) (d : Nat) (v2 : Int) (v3 : Int) (μ : Mu) : mR := g_Law_reckon_82 (fun pc ls st μ => mE z d q_Law_reckon pc ls st μ) v2 v3 μ
def g_Law_reckon_92 (E : Nat → List zv → List zv → Mu → mR) (v100 : Int) (μ : Mu) : mR := E 92 [(9, 0), (9, 0), (9, 0), (9, 0)] [(0, v100)] μ
noncomputable def f_Law_reckon_92 (z : zZ) (d : Nat) (v100 : Int) (μ : Mu) : mR := g_Law_reckon_92 (fun pc ls st μ => mE z d q_Law_reckon pc ls st μ) v100 μ
def g_Law_reckon_93 (E : Nat → List zv → List zv → Mu → mR) (v2 : Int) (v3 : Int) (μ : Mu) : mR := E 93 [(9, 0), (9, 0), (0, v2), (0, v3)] [] μ
noncomputable def f_Law_reckon_93 (z : zZ) (d : Nat) (v2 : Int) (v3 : Int) (μ : Mu) : mR := g_Law_reckon_93 (fun pc ls st μ => mE z d q_Law_reckon pc ls st μ) v2 v3 μ
def g_Law_reckon_103 (E : Nat → List zv → List zv → Mu → mR) (v100 : Int) (μ : Mu) : mR := E 103 [(9, 0), (9, 0), (9, 0), (9, 0)] [(0, v100)] μ
noncomputable def f_Law_reckon_103 (z : zZ) (d : Nat) (v100 : Int) (μ : Mu) : mR := g_Law_reckon_103 (fun pc ls st μ => mE z d q_Law_reckon pc ls st μ) v100 μ
def g_Law_reckon_104 (E : Nat → List zv → List zv → Mu → mR) (v2 : Int) (v3 : Int) (μ : Mu) : mR := E 104 [(9, 0), (9, 0), (0, v2), (0, v3)] [] μ
noncomputable def f_Law_reckon_104 (z : zZ) (d : Nat) (v2 : Int) (v3 : Int) (μ : Mu) : mR := g_Law_reckon_104 (fun pc ls st μ => mE z d q_Law_reckon pc ls st μ) v2 v3 μ
def g_Law_reckon_114 (E : Nat → List zv → List zv → Mu → mR) (v100 : Int) (μ : Mu) : mR := E 114 [(9, 0), (9, 0), (9, 0), (9, 0)] [(0, v100)] μ
noncomputable def f_Law_reckon_114 (z : zZ) (d : Nat) (v100 : Int) (μ : Mu) : mR := g_Law_reckon_114 (fun pc ls st μ => mE z d q_Law_reckon pc ls st μ) v100 μ
theorem k_Law_reckon : zprK q_Law_reckon.2.2.2 = true ∧ zinc q_Law_reckon.2.2.2 = true := by decide +kernel
set_option maxRecDepth 100000 in
theorem c_Law_reckon (z : zZ) (d : Nat) (o0 : Nat) (v1 : Int) (v2 : Int) (v3 : Int) (μ : Mu) (ho0 : o0 = 41 ∨ o0 = 47) : mC z (d + 1) 91 [(2, ((o0 : Nat) : Int)), (0, v1), (0, v2), (0, v3)] μ = bif decide (v1 = 0) then (f_Law_reckon_44 z d v2 v3 μ) else bif decide (v1 = 1) then (f_Law_reckon_48 z d v2 v3 μ) else bif decide (v1 = 2) then (f_Law_reckon_52 z d v2 v3 μ) else bif decide (v1 = 3) then (f_Law_reckon_56 z d o0 v1 v2 v3 μ) else bif decide (v1 = 4) then (f_Law_reckon_56 z d o0 v1 v2 v3 μ) else bif decide (v1 = 5) then (f_Law_reckon_82 z d v2 v3 μ) else bif decide (v1 = 6) then (f_Law_reckon_93 z d v2 v3 μ) else (f_Law_reckon_104 z d v2 v3 μ) := by
  rw [mC_succ q_Law_reckon rfl rfl rfl]
  rw [mE_bk (M := q_Law_reckon) k_Law_reckon.1 k_Law_reckon.2 [44, 48, 52, 56, 81, 82, 92, 93, 103, 104, 114] 400]
  have key : ∀ (C : Nat → List zv → Mu → mR) (E : Nat → List zv → List zv → Mu → mR), mbk C E q_Law_reckon.1 q_Law_reckon.2.1 z q_Law_reckon.2.2.2 [44, 48, 52, 56, 81, 82, 92, 93, 103, 104, 114] 400 (zfind q_Law_reckon.2.2.2 0) (zentry q_Law_reckon.2.2.1 [(2, ((o0 : Nat) : Int)), (0, v1), (0, v2), (0, v3)]) [] μ = bif decide (v1 = 0) then (g_Law_reckon_44 E v2 v3 μ) else bif decide (v1 = 1) then (g_Law_reckon_48 E v2 v3 μ) else bif decide (v1 = 2) then (g_Law_reckon_52 E v2 v3 μ) else bif decide (v1 = 3) then (g_Law_reckon_56 E o0 v1 v2 v3 μ) else bif decide (v1 = 4) then (g_Law_reckon_56 E o0 v1 v2 v3 μ) else bif decide (v1 = 5) then (g_Law_reckon_82 E v2 v3 μ) else bif decide (v1 = 6) then (g_Law_reckon_93 E v2 v3 μ) else (g_Law_reckon_104 E v2 v3 μ) := by
    intro C E
    rcases ho0 with rfl | rfl <;> (rfl)
  exact key _ _
set_option maxRecDepth 100000 in
theorem e_Law_reckon_44 (z : zZ) (d : Nat) (v2 : Int) (v3 : Int) (μ : Mu) : f_Law_reckon_44 z d v2 v3 μ = some (zw (v2 + v3), μ) := by
  show mE z d q_Law_reckon 44 [(9, 0), (9, 0), (0, v2), (0, v3)] [] μ = _
  rw [mE_bk (M := q_Law_reckon) k_Law_reckon.1 k_Law_reckon.2 [44, 48, 52, 56, 81, 82, 92, 93, 103, 104, 114] 400]
  have key : ∀ (C : Nat → List zv → Mu → mR) (E : Nat → List zv → List zv → Mu → mR), mbk C E q_Law_reckon.1 q_Law_reckon.2.1 z q_Law_reckon.2.2.2 [44, 48, 52, 56, 81, 82, 92, 93, 103, 104, 114] 400 (zfind q_Law_reckon.2.2.2 44) [(9, 0), (9, 0), (0, v2), (0, v3)] [] μ = some (zw (v2 + v3), μ) := by
    intro C E
    rfl
  exact key _ _
set_option maxRecDepth 100000 in
theorem e_Law_reckon_48 (z : zZ) (d : Nat) (v2 : Int) (v3 : Int) (μ : Mu) : f_Law_reckon_48 z d v2 v3 μ = some (zw (v2 - v3), μ) := by
  show mE z d q_Law_reckon 48 [(9, 0), (9, 0), (0, v2), (0, v3)] [] μ = _
  rw [mE_bk (M := q_Law_reckon) k_Law_reckon.1 k_Law_reckon.2 [44, 48, 52, 56, 81, 82, 92, 93, 103, 104, 114] 400]
  have key : ∀ (C : Nat → List zv → Mu → mR) (E : Nat → List zv → List zv → Mu → mR), mbk C E q_Law_reckon.1 q_Law_reckon.2.1 z q_Law_reckon.2.2.2 [44, 48, 52, 56, 81, 82, 92, 93, 103, 104, 114] 400 (zfind q_Law_reckon.2.2.2 48) [(9, 0), (9, 0), (0, v2), (0, v3)] [] μ = some (zw (v2 - v3), μ) := by
    intro C E
    rfl
  exact key _ _
set_option maxRecDepth 100000 in
theorem e_Law_reckon_52 (z : zZ) (d : Nat) (v2 : Int) (v3 : Int) (μ : Mu) : f_Law_reckon_52 z d v2 v3 μ = some (zw (v2 * v3), μ) := by
  show mE z d q_Law_reckon 52 [(9, 0), (9, 0), (0, v2), (0, v3)] [] μ = _
  rw [mE_bk (M := q_Law_reckon) k_Law_reckon.1 k_Law_reckon.2 [44, 48, 52, 56, 81, 82, 92, 93, 103, 104, 114] 400]
  have key : ∀ (C : Nat → List zv → Mu → mR) (E : Nat → List zv → List zv → Mu → mR), mbk C E q_Law_reckon.1 q_Law_reckon.2.1 z q_Law_reckon.2.2.2 [44, 48, 52, 56, 81, 82, 92, 93, 103, 104, 114] 400 (zfind q_Law_reckon.2.2.2 52) [(9, 0), (9, 0), (0, v2), (0, v3)] [] μ = some (zw (v2 * v3), μ) := by
    intro C E
    rfl
  exact key _ _
set_option maxRecDepth 100000 in
theorem e_Law_reckon_56 (z : zZ) (d : Nat) (o0 : Nat) (v1 : Int) (v2 : Int) (v3 : Int) (μ : Mu) (ho0 : o0 = 41 ∨ o0 = 47) : f_Law_reckon_56 z d o0 v1 v2 v3 μ = bif !decide (v3 = 0) then (bif !decide (v1 = 3) then (gN v3 (f_Law_reckon_81 z d (z_rem v2 v3) μ)) else (gN v3 (f_Law_reckon_81 z d (z_div v2 v3) μ))) else (some (0, zup μ o0 8 1)) := by
  show mE z d q_Law_reckon 56 [(2, ((o0 : Nat) : Int)), (0, v1), (0, v2), (0, v3)] [] μ = _
  rw [mE_bk (M := q_Law_reckon) k_Law_reckon.1 k_Law_reckon.2 [44, 48, 52, 56, 81, 82, 92, 93, 103, 104, 114] 400]
  have key : ∀ (C : Nat → List zv → Mu → mR) (E : Nat → List zv → List zv → Mu → mR), mbk C E q_Law_reckon.1 q_Law_reckon.2.1 z q_Law_reckon.2.2.2 [44, 48, 52, 56, 81, 82, 92, 93, 103, 104, 114] 400 (zfind q_Law_reckon.2.2.2 56) [(2, ((o0 : Nat) : Int)), (0, v1), (0, v2), (0, v3)] [] μ = bif !decide (v3 = 0) then (bif !decide (v1 = 3) then (gN v3 (g_Law_reckon_81 E (z_rem v2 v3) μ)) else (gN v3 (g_Law_reckon_81 E (z_div v2 v3) μ))) else (some (0, zup μ o0 8 1)) := by
    intro C E
    rcases ho0 with rfl | rfl <;> (rfl)
  exact key _ _
set_option maxRecDepth 100000 in
theorem e_Law_reckon_82 (z : zZ) (d : Nat) (v2 : Int) (v3 : Int) (μ : Mu) : f_Law_reckon_82 z d v2 v3 μ = bif decide (v3 ≤ v2) then (f_Law_reckon_92 z d 0 μ) else (f_Law_reckon_92 z d 1 μ) := by
  show mE z d q_Law_reckon 82 [(9, 0), (9, 0), (0, v2), (0, v3)] [] μ = _
  rw [mE_bk (M := q_Law_reckon) k_Law_reckon.1 k_Law_reckon.2 [44, 48, 52, 56, 81, 82, 92, 93, 103, 104, 114] 400]
  have key : ∀ (C : Nat → List zv → Mu → mR) (E : Nat → List zv → List zv → Mu → mR), mbk C E q_Law_reckon.1 q_Law_reckon.2.1 z q_Law_reckon.2.2.2 [44, 48, 52, 56, 81, 82, 92, 93, 103, 104, 114] 400 (zfind q_Law_reckon.2.2.2 82) [(9, 0), (9, 0), (0, v2), (0, v3)] [] μ = bif decide (v3 ≤ v2) then (g_Law_reckon_92 E 0 μ) else (g_Law_reckon_92 E 1 μ) := by
    intro C E
    rfl
  exact key _ _
set_option maxRecDepth 100000 in
theorem e_Law_reckon_93 (z : zZ) (d : Nat) (v2 : Int) (v3 : Int) (μ : Mu) : f_Law_reckon_93 z d v2 v3 μ = bif decide (v2 ≤ v3) then (f_Law_reckon_103 z d 0 μ) else (f_Law_reckon_103 z d 1 μ) := by
  show mE z d q_Law_reckon 93 [(9, 0), (9, 0), (0, v2), (0, v3)] [] μ = _
  rw [mE_bk (M := q_Law_reckon) k_Law_reckon.1 k_Law_reckon.2 [44, 48, 52, 56, 81, 82, 92, 93, 103, 104, 114] 400]
  have key : ∀ (C : Nat → List zv → Mu → mR) (E : Nat → List zv → List zv → Mu → mR), mbk C E q_Law_reckon.1 q_Law_reckon.2.1 z q_Law_reckon.2.2.2 [44, 48, 52, 56, 81, 82, 92, 93, 103, 104, 114] 400 (zfind q_Law_reckon.2.2.2 93) [(9, 0), (9, 0), (0, v2), (0, v3)] [] μ = bif decide (v2 ≤ v3) then (g_Law_reckon_103 E 0 μ) else (g_Law_reckon_103 E 1 μ) := by
    intro C E
    rfl
  exact key _ _
set_option maxRecDepth 100000 in
theorem e_Law_reckon_104 (z : zZ) (d : Nat) (v2 : Int) (v3 : Int) (μ : Mu) : f_Law_reckon_104 z d v2 v3 μ = bif !decide (v2 = v3) then (f_Law_reckon_114 z d 0 μ) else (f_Law_reckon_114 z d 1 μ) := by
  show mE z d q_Law_reckon 104 [(9, 0), (9, 0), (0, v2), (0, v3)] [] μ = _
  rw [mE_bk (M := q_Law_reckon) k_Law_reckon.1 k_Law_reckon.2 [44, 48, 52, 56, 81, 82, 92, 93, 103, 104, 114] 400]
  have key : ∀ (C : Nat → List zv → Mu → mR) (E : Nat → List zv → List zv → Mu → mR), mbk C E q_Law_reckon.1 q_Law_reckon.2.1 z q_Law_reckon.2.2.2 [44, 48, 52, 56, 81, 82, 92, 93, 103, 104, 114] 400 (zfind q_Law_reckon.2.2.2 104) [(9, 0), (9, 0), (0, v2), (0, v3)] [] μ = bif !decide (v2 = v3) then (g_Law_reckon_114 E 0 μ) else (g_Law_reckon_114 E 1 μ) := by
    intro C E
    rfl
  exact key _ _
set_option maxRecDepth 100000 in
theorem e_Law_reckon_81 (z : zZ) (d : Nat) (v100 : Int) (μ : Mu) : f_Law_reckon_81 z d v100 μ = some (v100, μ) := by
  show mE z d q_Law_reckon 81 [(9, 0), (9, 0), (9, 0), (9, 0)] [(0, v100)] μ = _
  rw [mE_bk (M := q_Law_reckon) k_Law_reckon.1 k_Law_reckon.2 [44, 48, 52, 56, 81, 82, 92, 93, 103, 104, 114] 400]
  have key : ∀ (C : Nat → List zv → Mu → mR) (E : Nat → List zv → List zv → Mu → mR), mbk C E q_Law_reckon.1 q_Law_reckon.2.1 z q_Law_reckon.2.2.2 [44, 48, 52, 56, 81, 82, 92, 93, 103, 104, 114] 400 (zfind q_Law_reckon.2.2.2 81) [(9, 0), (9, 0), (9, 0), (9, 0)] [(0, v100)] μ = some (v100, μ) := by
    intro C E
    rfl
  exact key _ _
set_option maxRecDepth 100000 in
theorem e_Law_reckon_92 (z : zZ) (d : Nat) (v100 : Int) (μ : Mu) : f_Law_reckon_92 z d v100 μ = some (v100, μ) := by
  show mE z d q_Law_reckon 92 [(9, 0), (9, 0), (9, 0), (9, 0)] [(0, v100)] μ = _
  rw [mE_bk (M := q_Law_reckon) k_Law_reckon.1 k_Law_reckon.2 [44, 48, 52, 56, 81, 82, 92, 93, 103, 104, 114] 400]
  have key : ∀ (C : Nat → List zv → Mu → mR) (E : Nat → List zv → List zv → Mu → mR), mbk C E q_Law_reckon.1 q_Law_reckon.2.1 z q_Law_reckon.2.2.2 [44, 48, 52, 56, 81, 82, 92, 93, 103, 104, 114] 400 (zfind q_Law_reckon.2.2.2 92) [(9, 0), (9, 0), (9, 0), (9, 0)] [(0, v100)] μ = some (v100, μ) := by
    intro C E
    rfl
  exact key _ _
set_option maxRecDepth 100000 in
theorem e_Law_reckon_103 (z : zZ) (d : Nat) (v100 : Int) (μ : Mu) : f_Law_reckon_103 z d v100 μ = some (v100, μ) := by
  show mE z d q_Law_reckon 103 [(9, 0), (9, 0), (9, 0), (9, 0)] [(0, v100)] μ = _
  rw [mE_bk (M := q_Law_reckon) k_Law_reckon.1 k_Law_reckon.2 [44, 48, 52, 56, 81, 82, 92, 93, 103, 104, 114] 400]
  have key : ∀ (C : Nat → List zv → Mu → mR) (E : Nat → List zv → List zv → Mu → mR), mbk C E q_Law_reckon.1 q_Law_reckon.2.1 z q_Law_reckon.2.2.2 [44, 48, 52, 56, 81, 82, 92, 93, 103, 104, 114] 400 (zfind q_Law_reckon.2.2.2 103) [(9, 0), (9, 0), (9, 0), (9, 0)] [(0, v100)] μ = some (v100, μ) := by
    intro C E
    rfl
  exact key _ _
set_option maxRecDepth 100000 in
theorem e_Law_reckon_114 (z : zZ) (d : Nat) (v100 : Int) (μ : Mu) : f_Law_reckon_114 z d v100 μ = some (v100, μ) := by
  show mE z d q_Law_reckon 114 [(9, 0), (9, 0), (9, 0), (9, 0)] [(0, v100)] μ = _
  rw [mE_bk (M := q_Law_reckon) k_Law_reckon.1 k_Law_reckon.2 [44, 48, 52, 56, 81, 82, 92, 93, 103, 104, 114] 400]
  have key : ∀ (C : Nat → List zv → Mu → mR) (E : Nat → List zv → List zv → Mu → mR), mbk C E q_Law_reckon.1 q_Law_reckon.2.1 z q_Law_reckon.2.2.2 [44, 48, 52, 56, 81, 82, 92, 93, 103, 104, 114] 400 (zfind q_Law_reckon.2.2.2 114) [(9, 0), (9, 0), (9, 0), (9, 0)] [(0, v100)] μ = some (v100, μ) := by
    intro C E
    rfl
  exact key _ _
