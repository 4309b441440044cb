def g_Sol_assemble_9 (E : Nat → List zv → List zv → Mu → mR) (v1 : Int) (v2 : Int) (v3 : Int) (v4 : Int) (v5 : Int) (μ : Mu) : mR := E 9 [(2, 65), (0, v1), (0, v2), (0, v3), (0, v4), (0, v5), (9, 0)] [] μ
noncomputable def f_Sol_assemble_9 (z : zZ) (d : Nat) (v1 : Int) (v2 : Int) (v3 : Int) (v4 : Int) (v5 : Int) (μ : Mu) : mR := g_Sol_assemble_9 (fun pc ls st μ => mE z d q_Sol_assemble pc ls st μ) v1 v2 v3 v4 v5 μ
def g_Sol_assemble_19 (E : Nat → List zv → List zv → Mu → mR) (v1 : Int) (v2 : Int) (v3 : Int) (v4 : Int) (v5 : Int) (v6 : Int) (μ : Mu) : mR := E 19 [(2, 65), (0, v1), (0, v2), (0, v3), (0, v4), (0, v5), (0, v6)] [] μ
noncomputable def f_Sol_assemble_19 (z : zZ) (d : Nat) (v1 : Int) (v2 : Int) (v3 : Int) (v4 : Int) (v5 : Int) (v6 : Int) (μ : Mu) : mR := g_Sol_assemble_19 (fun pc ls st μ => mE z d q_Sol_assemble pc ls st μ) v1 v2 v3 v4 v5 v6 μ
def g_Sol_assemble_73 (E : Nat → List zv → List zv → Mu → mR) (v4 : Int) (μ : Mu) : mR := E 73 [(2, 65), (9, 0), (9, 0), (9, 0), (0, v4), (9, 0), (9, 0)] [] μ
noncomputable def f_Sol_assemble_73 (z : zZ) (d : Nat) (v4 : Int) (μ : Mu) : mR := g_Sol_assemble_73 (fun pc ls st μ => mE z d q_Sol_assemble pc ls st μ) v4 μ
def g_Sol_assemble_107 (E : Nat → List zv → List zv → Mu → mR) (v4 : Int) (μ : Mu) : mR := E 107 [(2, 65), (9, 0), (9, 0), (9, 0), (0, v4), (9, 0), (9, 0)] [] μ
noncomputable def f_Sol_assemble_107 (z : zZ) (d : Nat) (v4 : Int) (μ : Mu) : mR := g_Sol_assemble_107 (fun pc ls st μ => mE z d q_Sol_assemble pc ls st μ) v4 μ
theorem k_Sol_assemble : zprK q_Sol_assemble.2.2.2 = true ∧ zinc q_Sol_assemble.2.2.2 = true := by decide +kernel
set_option maxRecDepth 100000 in
theorem c_Sol_assemble (z : zZ) (d : Nat) (v1 : Int) (v2 : Int) (v3 : Int) (μ : Mu) : mC z (d + 1) 158 [(2, 65), (0, v1), (0, v2), (0, v3)] μ = (mC z d 68 [(0, v1)] μ).bind fun q1 => (f_Sol_assemble_9 z d v1 v2 v3 q1.1 0 q1.2) := by
  rw [mC_succ q_Sol_assemble rfl rfl rfl]
  rw [mE_bk (M := q_Sol_assemble) k_Sol_assemble.1 k_Sol_assemble.2 [9, 19, 73, 107] 400]
  have key : ∀ (C : Nat → List zv → Mu → mR) (E : Nat → List zv → List zv → Mu → mR), mbk C E q_Sol_assemble.1 q_Sol_assemble.2.1 z q_Sol_assemble.2.2.2 [9, 19, 73, 107] 400 (zfind q_Sol_assemble.2.2.2 0) (zentry q_Sol_assemble.2.2.1 [(2, 65), (0, v1), (0, v2), (0, v3)]) [] μ = (C 68 [(0, v1)] μ).bind fun q1 => (g_Sol_assemble_9 E v1 v2 v3 q1.1 0 q1.2) := by
    intro C E
    rfl
  exact key _ _
set_option maxRecDepth 100000 in
theorem e_Sol_assemble_9 (z : zZ) (d : Nat) (v1 : Int) (v2 : Int) (v3 : Int) (v4 : Int) (v5 : Int) (μ : Mu) : f_Sol_assemble_9 z d v1 v2 v3 v4 v5 μ = bif decide (v4 ≤ v5) then (f_Sol_assemble_73 z d v4 (zup μ 65 0 0)) else (f_Sol_assemble_19 z d v1 v2 v3 v4 v5 0 μ) := by
  show mE z d q_Sol_assemble 9 [(2, 65), (0, v1), (0, v2), (0, v3), (0, v4), (0, v5), (9, 0)] [] μ = _
  rw [mE_bk (M := q_Sol_assemble) k_Sol_assemble.1 k_Sol_assemble.2 [9, 19, 73, 107] 400]
  have key : ∀ (C : Nat → List zv → Mu → mR) (E : Nat → List zv → List zv → Mu → mR), mbk C E q_Sol_assemble.1 q_Sol_assemble.2.1 z q_Sol_assemble.2.2.2 [9, 19, 73, 107] 400 (zfind q_Sol_assemble.2.2.2 9) [(2, 65), (0, v1), (0, v2), (0, v3), (0, v4), (0, v5), (9, 0)] [] μ = bif decide (v4 ≤ v5) then (g_Sol_assemble_73 E v4 (zup μ 65 0 0)) else (g_Sol_assemble_19 E v1 v2 v3 v4 v5 0 μ) := by
    intro C E
    rfl
  exact key _ _
set_option maxRecDepth 100000 in
theorem e_Sol_assemble_73 (z : zZ) (d : Nat) (v4 : Int) (μ : Mu) : f_Sol_assemble_73 z d v4 μ = bif decide (30 < μ 65 0) then (some (0, μ)) else ((mC z d 160 [(2, 65), (0, v4)] μ).bind fun q1 => ((mC z d 161 [(2, 65), (0, 0), (0, v4), (0, 0)] q1.2).bind fun q2 => (bif decide (q2.1 = 0) then (f_Sol_assemble_107 z d v4 q2.2) else ((mC z d 163 [(2, 65), (0, v4)] q2.2).bind fun q3 => (some (1, q3.2)))))) := by
  show mE z d q_Sol_assemble 73 [(2, 65), (9, 0), (9, 0), (9, 0), (0, v4), (9, 0), (9, 0)] [] μ = _
  rw [mE_bk (M := q_Sol_assemble) k_Sol_assemble.1 k_Sol_assemble.2 [9, 19, 73, 107] 400]
  have key : ∀ (C : Nat → List zv → Mu → mR) (E : Nat → List zv → List zv → Mu → mR), mbk C E q_Sol_assemble.1 q_Sol_assemble.2.1 z q_Sol_assemble.2.2.2 [9, 19, 73, 107] 400 (zfind q_Sol_assemble.2.2.2 73) [(2, 65), (9, 0), (9, 0), (9, 0), (0, v4), (9, 0), (9, 0)] [] μ = bif decide (30 < μ 65 0) then (some (0, μ)) else ((C 160 [(2, 65), (0, v4)] μ).bind fun q1 => ((C 161 [(2, 65), (0, 0), (0, v4), (0, 0)] q1.2).bind fun q2 => (bif decide (q2.1 = 0) then (g_Sol_assemble_107 E v4 q2.2) else ((C 163 [(2, 65), (0, v4)] q2.2).bind fun q3 => (some (1, q3.2)))))) := by
    intro C E
    rfl
  exact key _ _
set_option maxRecDepth 100000 in
theorem e_Sol_assemble_19 (z : zZ) (d : Nat) (v1 : Int) (v2 : Int) (v3 : Int) (v4 : Int) (v5 : Int) (v6 : Int) (μ : Mu) : f_Sol_assemble_19 z d v1 v2 v3 v4 v5 v6 μ = bif decide (24 ≤ v6) then (f_Sol_assemble_9 z d v1 v2 v3 v4 (zw (v5 + 1)) μ) else ((mC z d 41 [(0, v1), (0, v5)] μ).bind fun q1 => ((mC z d 159 [(2, 65), (0, v6), (0, q1.1), (0, zw (v2 + v5)), (0, v3)] q1.2).bind fun q2 => (gI (zw ((zw (v5 * 24)) + v6)) 192 (f_Sol_assemble_19 z d v1 v2 v3 v4 v5 (zw (v6 + 1)) (zup q2.2 69 ((zw ((zw (v5 * 24)) + v6)).toNat) q2.1))))) := by
  show mE z d q_Sol_assemble 19 [(2, 65), (0, v1), (0, v2), (0, v3), (0, v4), (0, v5), (0, v6)] [] μ = _
  rw [mE_bk (M := q_Sol_assemble) k_Sol_assemble.1 k_Sol_assemble.2 [9, 19, 73, 107] 400]
  have key : ∀ (C : Nat → List zv → Mu → mR) (E : Nat → List zv → List zv → Mu → mR), mbk C E q_Sol_assemble.1 q_Sol_assemble.2.1 z q_Sol_assemble.2.2.2 [9, 19, 73, 107] 400 (zfind q_Sol_assemble.2.2.2 19) [(2, 65), (0, v1), (0, v2), (0, v3), (0, v4), (0, v5), (0, v6)] [] μ = bif decide (24 ≤ v6) then (g_Sol_assemble_9 E v1 v2 v3 v4 (zw (v5 + 1)) μ) else ((C 41 [(0, v1), (0, v5)] μ).bind fun q1 => ((C 159 [(2, 65), (0, v6), (0, q1.1), (0, zw (v2 + v5)), (0, v3)] q1.2).bind fun q2 => (gI (zw ((zw (v5 * 24)) + v6)) 192 (g_Sol_assemble_19 E v1 v2 v3 v4 v5 (zw (v6 + 1)) (zup q2.2 69 ((zw ((zw (v5 * 24)) + v6)).toNat) q2.1))))) := by
    intro C E
    rfl
  exact key _ _
set_option maxRecDepth 100000 in
theorem e_Sol_assemble_107 (z : zZ) (d : Nat) (v4 : Int) (μ : Mu) : f_Sol_assemble_107 z d v4 μ = f_Sol_assemble_73 z d v4 (zup μ 65 0 (zw ((μ 65 0) + 1))) := by
  show mE z d q_Sol_assemble 107 [(2, 65), (9, 0), (9, 0), (9, 0), (0, v4), (9, 0), (9, 0)] [] μ = _
  rw [mE_bk (M := q_Sol_assemble) k_Sol_assemble.1 k_Sol_assemble.2 [9, 19, 73, 107] 400]
  have key : ∀ (C : Nat → List zv → Mu → mR) (E : Nat → List zv → List zv → Mu → mR), mbk C E q_Sol_assemble.1 q_Sol_assemble.2.1 z q_Sol_assemble.2.2.2 [9, 19, 73, 107] 400 (zfind q_Sol_assemble.2.2.2 107) [(2, 65), (9, 0), (9, 0), (9, 0), (0, v4), (9, 0), (9, 0)] [] μ = g_Sol_assemble_73 E v4 (zup μ 65 0 (zw ((μ 65 0) + 1))) := by
    intro C E
    rfl
  exact key _ _
def g_Sol_hoursTo_30 (E : Nat → List zv → List zv → Mu → mR) (μ : Mu) : mR := E 30 [(9, 0), (9, 0), (9, 0), (9, 0), (9, 0), (9, 0), (9, 0)] [] μ
noncomputable def f_Sol_hoursTo_30 (z : zZ) (d : Nat) (μ : Mu) : mR := g_Sol_hoursTo_30 (fun pc ls st μ => mE z d q_Sol_hoursTo pc ls st μ) μ
def g_Sol_hoursTo_33 (E : Nat → List zv → List zv → Mu → mR) (v1 : Int) (v3 : Int) (v4 : Int) (v5 : Int) (μ : Mu) : mR := E 33 [(2, 65), (0, v1), (9, 0), (0, v3), (0, v4), (0, v5), (9, 0)] [] μ
noncomputable def f_Sol_hoursTo_33 (z : zZ) (d : Nat) (v1 : Int) (v3 : Int) (v4 : Int) (v5 : Int) (μ : Mu) : mR := g_Sol_hoursTo_33 (fun pc ls st μ => mE z d q_Sol_hoursTo pc ls st μ) v1 v3 v4 v5 μ
theorem k_Sol_hoursTo : zprK q_Sol_hoursTo.2.2.2 = true ∧ zinc q_Sol_hoursTo.2.2.2 = true := by decide +kernel
set_option maxRecDepth 100000 in
theorem c_Sol_hoursTo (z : zZ) (d : Nat) (v1 : Int) (v2 : Int) (v3 : Int) (v4 : Int) (μ : Mu) : mC z (d + 1) 159 [(2, 65), (0, v1), (0, v2), (0, v3), (0, v4)] μ = gI (zw ((zw (4 * v1)) + 3)) 96 (bif decide (μ 67 ((zw ((zw (4 * v1)) + 3)).toNat) < 1) then (f_Sol_hoursTo_30 z d μ) else (gI (zw (4 * v1)) 96 (bif decide (μ 67 ((zw (4 * v1)).toNat) = v2) then (f_Sol_hoursTo_33 z d v1 v3 v4 (μ 67 ((zw ((zw (4 * v1)) + 3)).toNat)) μ) else (f_Sol_hoursTo_30 z d μ)))) := by
  rw [mC_succ q_Sol_hoursTo rfl rfl rfl]
  rw [mE_bk (M := q_Sol_hoursTo) k_Sol_hoursTo.1 k_Sol_hoursTo.2 [30, 33] 400]
  have key : ∀ (C : Nat → List zv → Mu → mR) (E : Nat → List zv → List zv → Mu → mR), mbk C E q_Sol_hoursTo.1 q_Sol_hoursTo.2.1 z q_Sol_hoursTo.2.2.2 [30, 33] 400 (zfind q_Sol_hoursTo.2.2.2 0) (zentry q_Sol_hoursTo.2.2.1 [(2, 65), (0, v1), (0, v2), (0, v3), (0, v4)]) [] μ = gI (zw ((zw (4 * v1)) + 3)) 96 (bif decide (μ 67 ((zw ((zw (4 * v1)) + 3)).toNat) < 1) then (g_Sol_hoursTo_30 E μ) else (gI (zw (4 * v1)) 96 (bif decide (μ 67 ((zw (4 * v1)).toNat) = v2) then (g_Sol_hoursTo_33 E v1 v3 v4 (μ 67 ((zw ((zw (4 * v1)) + 3)).toNat)) μ) else (g_Sol_hoursTo_30 E μ)))) := by
    intro C E
    rfl
  exact key _ _
set_option maxRecDepth 100000 in
theorem e_Sol_hoursTo_30 (z : zZ) (d : Nat) (μ : Mu) : f_Sol_hoursTo_30 z d μ = some (31, μ) := by
  show mE z d q_Sol_hoursTo 30 [(9, 0), (9, 0), (9, 0), (9, 0), (9, 0), (9, 0), (9, 0)] [] μ = _
  rw [mE_bk (M := q_Sol_hoursTo) k_Sol_hoursTo.1 k_Sol_hoursTo.2 [30, 33] 400]
  have key : ∀ (C : Nat → List zv → Mu → mR) (E : Nat → List zv → List zv → Mu → mR), mbk C E q_Sol_hoursTo.1 q_Sol_hoursTo.2.1 z q_Sol_hoursTo.2.2.2 [30, 33] 400 (zfind q_Sol_hoursTo.2.2.2 30) [(9, 0), (9, 0), (9, 0), (9, 0), (9, 0), (9, 0), (9, 0)] [] μ = some (31, μ) := by
    intro C E
    rfl
  exact key _ _
set_option maxRecDepth 100000 in
theorem e_Sol_hoursTo_33 (z : zZ) (d : Nat) (v1 : Int) (v3 : Int) (v4 : Int) (v5 : Int) (μ : Mu) : f_Sol_hoursTo_33 z d v1 v3 v4 v5 μ = gI (zw ((zw (4 * v1)) + 1)) 96 (gI (zw ((zw (4 * v1)) + 2)) 96 (gN v5 (some (z_div (zw ((zw ((zw ((if 0 ≤ zw ((μ 67 ((zw ((zw (4 * v1)) + 1)).toNat)) - v3) then zw ((μ 67 ((zw ((zw (4 * v1)) + 1)).toNat)) - v3) else zw (0 - (zw ((μ 67 ((zw ((zw (4 * v1)) + 1)).toNat)) - v3)))) + (if 0 ≤ zw ((μ 67 ((zw ((zw (4 * v1)) + 2)).toNat)) - v4) then zw ((μ 67 ((zw ((zw (4 * v1)) + 2)).toNat)) - v4) else zw (0 - (zw ((μ 67 ((zw ((zw (4 * v1)) + 2)).toNat)) - v4)))))) + v5)) - 1)) v5, μ)))) := by
  show mE z d q_Sol_hoursTo 33 [(2, 65), (0, v1), (9, 0), (0, v3), (0, v4), (0, v5), (9, 0)] [] μ = _
  rw [mE_bk (M := q_Sol_hoursTo) k_Sol_hoursTo.1 k_Sol_hoursTo.2 [30, 33] 400]
  have key : ∀ (C : Nat → List zv → Mu → mR) (E : Nat → List zv → List zv → Mu → mR), mbk C E q_Sol_hoursTo.1 q_Sol_hoursTo.2.1 z q_Sol_hoursTo.2.2.2 [30, 33] 400 (zfind q_Sol_hoursTo.2.2.2 33) [(2, 65), (0, v1), (9, 0), (0, v3), (0, v4), (0, v5), (9, 0)] [] μ = gI (zw ((zw (4 * v1)) + 1)) 96 (gI (zw ((zw (4 * v1)) + 2)) 96 (gN v5 (some (z_div (zw ((zw ((zw ((if 0 ≤ zw ((μ 67 ((zw ((zw (4 * v1)) + 1)).toNat)) - v3) then zw ((μ 67 ((zw ((zw (4 * v1)) + 1)).toNat)) - v3) else zw (0 - (zw ((μ 67 ((zw ((zw (4 * v1)) + 1)).toNat)) - v3)))) + (if 0 ≤ zw ((μ 67 ((zw ((zw (4 * v1)) + 2)).toNat)) - v4) then zw ((μ 67 ((zw ((zw (4 * v1)) + 2)).toNat)) - v4) else zw (0 - (zw ((μ 67 ((zw ((zw (4 * v1)) + 2)).toNat)) - v4)))))) + v5)) - 1)) v5, μ)))) := by
    intro C E
    rfl
  exact key _ _
def g_Sol_fillReach_2 (E : Nat → List zv → List zv → Mu → mR) (v1 : Int) (v2 : Int) (μ : Mu) : mR := E 2 [(2, 65), (0, v1), (0, v2), (9, 0)] [] μ
noncomputable def f_Sol_fillReach_2 (z : zZ) (d : Nat) (v1 : Int) (v2 : Int) (μ : Mu) : mR := g_Sol_fillReach_2 (fun pc ls st μ => mE z d q_Sol_fillReach pc ls st μ) v1 v2 μ
def g_Sol_fillReach_16 (E : Nat → List zv → List zv → Mu → mR) (v1 : Int) (v2 : Int) (v3 : Int) (μ : Mu) : mR := E 16 [(2, 65), (0, v1), (0, v2), (0, v3)] [] μ
noncomputable def f_Sol_fillReach_16 (z : zZ) (d : Nat) (v1 : Int) (v2 : Int) (v3 : Int) (μ : Mu) : mR := g_Sol_fillReach_16 (fun pc ls st μ => mE z d q_Sol_fillReach pc ls st μ) v1 v2 v3 μ
def g_Sol_fillReach_52 (E : Nat → List zv → List zv → Mu → mR) (v1 : Int) (v2 : Int) (v3 : Int) (μ : Mu) : mR := E 52 [(2, 65), (0, v1), (0, v2), (0, v3)] [] μ
noncomputable def f_Sol_fillReach_52 (z : zZ) (d : Nat) (v1 : Int) (v2 : Int) (v3 : Int) (μ : Mu) : mR := g_Sol_fillReach_52 (fun pc ls st μ => mE z d q_Sol_fillReach pc ls st μ) v1 v2 v3 μ
theorem k_Sol_fillReach : zprK q_Sol_fillReach.2.2.2 = true ∧ zinc q_Sol_fillReach.2.2.2 = true := by decide +kernel
set_option maxRecDepth 100000 in
theorem c_Sol_fillReach (z : zZ) (d : Nat) (v1 : Int) (μ : Mu) : mC z (d + 1) 160 [(2, 65), (0, v1)] μ = f_Sol_fillReach_2 z d v1 0 μ := by
  rw [mC_succ q_Sol_fillReach rfl rfl rfl]
  rw [mE_bk (M := q_Sol_fillReach) k_Sol_fillReach.1 k_Sol_fillReach.2 [2, 16, 52] 400]
  have key : ∀ (C : Nat → List zv → Mu → mR) (E : Nat → List zv → List zv → Mu → mR), mbk C E q_Sol_fillReach.1 q_Sol_fillReach.2.1 z q_Sol_fillReach.2.2.2 [2, 16, 52] 400 (zfind q_Sol_fillReach.2.2.2 0) (zentry q_Sol_fillReach.2.2.1 [(2, 65), (0, v1)]) [] μ = g_Sol_fillReach_2 E v1 0 μ := by
    intro C E
    rfl
  exact key _ _
set_option maxRecDepth 100000 in
theorem e_Sol_fillReach_2 (z : zZ) (d : Nat) (v1 : Int) (v2 : Int) (μ : Mu) : f_Sol_fillReach_2 z d v1 v2 μ = bif decide (v1 ≤ v2) then (some (0, μ)) else (gI v2 8 (f_Sol_fillReach_16 z d v1 v2 0 (zup μ 70 v2.toNat 0))) := by
  show mE z d q_Sol_fillReach 2 [(2, 65), (0, v1), (0, v2), (9, 0)] [] μ = _
  rw [mE_bk (M := q_Sol_fillReach) k_Sol_fillReach.1 k_Sol_fillReach.2 [2, 16, 52] 400]
  have key : ∀ (C : Nat → List zv → Mu → mR) (E : Nat → List zv → List zv → Mu → mR), mbk C E q_Sol_fillReach.1 q_Sol_fillReach.2.1 z q_Sol_fillReach.2.2.2 [2, 16, 52] 400 (zfind q_Sol_fillReach.2.2.2 2) [(2, 65), (0, v1), (0, v2), (9, 0)] [] μ = bif decide (v1 ≤ v2) then (some (0, μ)) else (gI v2 8 (g_Sol_fillReach_16 E v1 v2 0 (zup μ 70 v2.toNat 0))) := by
    intro C E
    rfl
  exact key _ _
set_option maxRecDepth 100000 in
theorem e_Sol_fillReach_16 (z : zZ) (d : Nat) (v1 : Int) (v2 : Int) (v3 : Int) (μ : Mu) : f_Sol_fillReach_16 z d v1 v2 v3 μ = bif decide (24 ≤ v3) then (f_Sol_fillReach_2 z d v1 (zw (v2 + 1)) μ) else (gI (zw ((zw (v2 * 24)) + v3)) 192 (bif decide (μ 65 0 < μ 69 ((zw ((zw (v2 * 24)) + v3)).toNat)) then (f_Sol_fillReach_52 z d v1 v2 v3 μ) else (gI v2 8 (gI v2 8 (f_Sol_fillReach_52 z d v1 v2 v3 (zup μ 70 v2.toNat (z_or (μ 70 v2.toNat) (z_shl 1 v3)))))))) := by
  show mE z d q_Sol_fillReach 16 [(2, 65), (0, v1), (0, v2), (0, v3)] [] μ = _
  rw [mE_bk (M := q_Sol_fillReach) k_Sol_fillReach.1 k_Sol_fillReach.2 [2, 16, 52] 400]
  have key : ∀ (C : Nat → List zv → Mu → mR) (E : Nat → List zv → List zv → Mu → mR), mbk C E q_Sol_fillReach.1 q_Sol_fillReach.2.1 z q_Sol_fillReach.2.2.2 [2, 16, 52] 400 (zfind q_Sol_fillReach.2.2.2 16) [(2, 65), (0, v1), (0, v2), (0, v3)] [] μ = bif decide (24 ≤ v3) then (g_Sol_fillReach_2 E v1 (zw (v2 + 1)) μ) else (gI (zw ((zw (v2 * 24)) + v3)) 192 (bif decide (μ 65 0 < μ 69 ((zw ((zw (v2 * 24)) + v3)).toNat)) then (g_Sol_fillReach_52 E v1 v2 v3 μ) else (gI v2 8 (gI v2 8 (g_Sol_fillReach_52 E v1 v2 v3 (zup μ 70 v2.toNat (z_or (μ 70 v2.toNat) (z_shl 1 v3)))))))) := by
    intro C E
    rfl
  exact key _ _
set_option maxRecDepth 100000 in
theorem e_Sol_fillReach_52 (z : zZ) (d : Nat) (v1 : Int) (v2 : Int) (v3 : Int) (μ : Mu) : f_Sol_fillReach_52 z d v1 v2 v3 μ = f_Sol_fillReach_16 z d v1 v2 (zw (v3 + 1)) μ := by
  show mE z d q_Sol_fillReach 52 [(2, 65), (0, v1), (0, v2), (0, v3)] [] μ = _
  rw [mE_bk (M := q_Sol_fillReach) k_Sol_fillReach.1 k_Sol_fillReach.2 [2, 16, 52] 400]
  have key : ∀ (C : Nat → List zv → Mu → mR) (E : Nat → List zv → List zv → Mu → mR), mbk C E q_Sol_fillReach.1 q_Sol_fillReach.2.1 z q_Sol_fillReach.2.2.2 [2, 16, 52] 400 (zfind q_Sol_fillReach.2.2.2 52) [(2, 65), (0, v1), (0, v2), (0, v3)] [] μ = g_Sol_fillReach_16 E v1 v2 (zw (v3 + 1)) μ := by
    intro C E
    rfl
  exact key _ _
def g_Sol_canFill_11 (E : Nat → List zv → List zv → Mu → mR) (v2 : Int) (v3 : Int) (v4 : Int) (μ : Mu) : mR := E 11 [(2, 65), (9, 0), (0, v2), (0, v3), (0, v4)] [] μ
noncomputable def f_Sol_canFill_11 (z : zZ) (d : Nat) (v2 : Int) (v3 : Int) (v4 : Int) (μ : Mu) : mR := g_Sol_canFill_11 (fun pc ls st μ => mE z d q_Sol_canFill pc ls st μ) v2 v3 v4 μ
theorem k_Sol_canFill : zprK q_Sol_canFill.2.2.2 = true ∧ zinc q_Sol_canFill.2.2.2 = true := by decide +kernel
set_option maxRecDepth 100000 in
theorem c_Sol_canFill (z : zZ) (d : Nat) (v1 : Int) (v2 : Int) (v3 : Int) (μ : Mu) : mC z (d + 1) 161 [(2, 65), (0, v1), (0, v2), (0, v3)] μ = (mC z d 5 [(2, 71), (0, (-1))] μ).bind fun q1 => (f_Sol_canFill_11 z d v2 v3 v1 q1.2) := by
  rw [mC_succ q_Sol_canFill rfl rfl rfl]
  rw [mE_bk (M := q_Sol_canFill) k_Sol_canFill.1 k_Sol_canFill.2 [11] 400]
  have key : ∀ (C : Nat → List zv → Mu → mR) (E : Nat → List zv → List zv → Mu → mR), mbk C E q_Sol_canFill.1 q_Sol_canFill.2.1 z q_Sol_canFill.2.2.2 [11] 400 (zfind q_Sol_canFill.2.2.2 0) (zentry q_Sol_canFill.2.2.1 [(2, 65), (0, v1), (0, v2), (0, v3)]) [] μ = (C 5 [(2, 71), (0, (-1))] μ).bind fun q1 => (g_Sol_canFill_11 E v2 v3 v1 q1.2) := by
    intro C E
    rfl
  exact key _ _
set_option maxRecDepth 100000 in
theorem e_Sol_canFill_11 (z : zZ) (d : Nat) (v2 : Int) (v3 : Int) (v4 : Int) (μ : Mu) : f_Sol_canFill_11 z d v2 v3 v4 μ = bif decide (v2 ≤ v4) then (some (1, μ)) else ((mC z d 162 [(2, 65), (0, v4), (0, 0)] (zup μ 65 7 v3)).bind fun q1 => (bif !decide (q1.1 = 0) then (f_Sol_canFill_11 z d v2 v3 (zw (v4 + 1)) q1.2) else (some (0, q1.2)))) := by
  show mE z d q_Sol_canFill 11 [(2, 65), (9, 0), (0, v2), (0, v3), (0, v4)] [] μ = _
  rw [mE_bk (M := q_Sol_canFill) k_Sol_canFill.1 k_Sol_canFill.2 [11] 400]
  have key : ∀ (C : Nat → List zv → Mu → mR) (E : Nat → List zv → List zv → Mu → mR), mbk C E q_Sol_canFill.1 q_Sol_canFill.2.1 z q_Sol_canFill.2.2.2 [11] 400 (zfind q_Sol_canFill.2.2.2 11) [(2, 65), (9, 0), (0, v2), (0, v3), (0, v4)] [] μ = bif decide (v2 ≤ v4) then (some (1, μ)) else ((C 162 [(2, 65), (0, v4), (0, 0)] (zup μ 65 7 v3)).bind fun q1 => (bif !decide (q1.1 = 0) then (g_Sol_canFill_11 E v2 v3 (zw (v4 + 1)) q1.2) else (some (0, q1.2)))) := by
    intro C E
    rfl
  exact key _ _
def g_Sol_settle_16 (E : Nat → List zv → List zv → Mu → mR) (μ : Mu) : mR := E 16 [(9, 0), (9, 0), (9, 0), (9, 0)] [] μ
noncomputable def f_Sol_settle_16 (z : zZ) (d : Nat) (μ : Mu) : mR := g_Sol_settle_16 (fun pc ls st μ => mE z d q_Sol_settle pc ls st μ) μ
def g_Sol_settle_20 (E : Nat → List zv → List zv → Mu → mR) (v1 : Int) (v2 : Int) (v3 : Int) (μ : Mu) : mR := E 20 [(2, 65), (0, v1), (0, v2), (0, v3)] [] μ
noncomputable def f_Sol_settle_20 (z : zZ) (d : Nat) (v1 : Int) (v2 : Int) (v3 : Int) (μ : Mu) : mR := g_Sol_settle_20 (fun pc ls st μ => mE z d q_Sol_settle pc ls st μ) v1 v2 v3 μ
def g_Sol_settle_84 (E : Nat → List zv → List zv → Mu → mR) (v1 : Int) (v3 : Int) (μ : Mu) : mR := E 84 [(2, 65), (0, v1), (9, 0), (0, v3)] [] μ
noncomputable def f_Sol_settle_84 (z : zZ) (d : Nat) (v1 : Int) (v3 : Int) (μ : Mu) : mR := g_Sol_settle_84 (fun pc ls st μ => mE z d q_Sol_settle pc ls st μ) v1 v3 μ
def g_Sol_settle_93 (E : Nat → List zv → List zv → Mu → mR) (v1 : Int) (v2 : Int) (v3 : Int) (μ : Mu) : mR := E 93 [(2, 65), (0, v1), (0, v2), (0, v3)] [] μ
noncomputable def f_Sol_settle_93 (z : zZ) (d : Nat) (v1 : Int) (v2 : Int) (v3 : Int) (μ : Mu) : mR := g_Sol_settle_93 (fun pc ls st μ => mE z d q_Sol_settle pc ls st μ) v1 v2 v3 μ
theorem k_Sol_settle : zprK q_Sol_settle.2.2.2 = true ∧ zinc q_Sol_settle.2.2.2 = true := by decide +kernel
set_option maxRecDepth 100000 in
theorem c_Sol_settle (z : zZ) (d : Nat) (v1 : Int) (v2 : Int) (μ : Mu) : mC z (d + 1) 162 [(2, 65), (0, v1), (0, v2)] μ = bif decide (v1 < 0) then (f_Sol_settle_16 z d μ) else (bif decide (8 ≤ v1) then (f_Sol_settle_16 z d μ) else (bif decide (v2 ≤ 8) then (f_Sol_settle_20 z d v1 v2 0 μ) else (f_Sol_settle_16 z d μ))) := by
  rw [mC_succ q_Sol_settle rfl rfl rfl]
  rw [mE_bk (M := q_Sol_settle) k_Sol_settle.1 k_Sol_settle.2 [16, 20, 84, 93] 400]
  have key : ∀ (C : Nat → List zv → Mu → mR) (E : Nat → List zv → List zv → Mu → mR), mbk C E q_Sol_settle.1 q_Sol_settle.2.1 z q_Sol_settle.2.2.2 [16, 20, 84, 93] 400 (zfind q_Sol_settle.2.2.2 0) (zentry q_Sol_settle.2.2.1 [(2, 65), (0, v1), (0, v2)]) [] μ = bif decide (v1 < 0) then (g_Sol_settle_16 E μ) else (bif decide (8 ≤ v1) then (g_Sol_settle_16 E μ) else (bif decide (v2 ≤ 8) then (g_Sol_settle_20 E v1 v2 0 μ) else (g_Sol_settle_16 E μ))) := by
    intro C E
    rfl
  exact key _ _
set_option maxRecDepth 100000 in
theorem e_Sol_settle_16 (z : zZ) (d : Nat) (μ : Mu) : f_Sol_settle_16 z d μ = some (0, μ) := by
  show mE z d q_Sol_settle 16 [(9, 0), (9, 0), (9, 0), (9, 0)] [] μ = _
  rw [mE_bk (M := q_Sol_settle) k_Sol_settle.1 k_Sol_settle.2 [16, 20, 84, 93] 400]
  have key : ∀ (C : Nat → List zv → Mu → mR) (E : Nat → List zv → List zv → Mu → mR), mbk C E q_Sol_settle.1 q_Sol_settle.2.1 z q_Sol_settle.2.2.2 [16, 20, 84, 93] 400 (zfind q_Sol_settle.2.2.2 16) [(9, 0), (9, 0), (9, 0), (9, 0)] [] μ = some (0, μ) := by
    intro C E
    rfl
  exact key _ _
set_option maxRecDepth 100000 in
theorem e_Sol_settle_20 (z : zZ) (d : Nat) (v1 : Int) (v2 : Int) (v3 : Int) (μ : Mu) : f_Sol_settle_20 z d v1 v2 v3 μ = bif decide (24 ≤ v3) then (some (0, μ)) else (gI v1 8 ((mC z d 23 [(0, z_and (μ 70 v1.toNat) (z_xor (μ 65 7) ((-1)))), (0, v3)] μ).bind fun q1 => (bif decide (q1.1 = 0) then (f_Sol_settle_93 z d v1 v2 v3 q1.2) else (gI v3 24 (bif decide (q1.2 71 v3.toNat = (-1)) then (f_Sol_settle_84 z d v1 v3 (zup q1.2 65 7 (z_or (q1.2 65 7) (z_shl 1 v3)))) else (gI v3 24 ((mC z d 162 [(2, 65), (0, q1.2 71 v3.toNat), (0, zw (v2 + 1))] (zup q1.2 65 7 (z_or (q1.2 65 7) (z_shl 1 v3)))).bind fun q2 => (bif decide (q2.1 = 0) then (f_Sol_settle_93 z d v1 v2 v3 q2.2) else (f_Sol_settle_84 z d v1 v3 q2.2))))))))) := by
  show mE z d q_Sol_settle 20 [(2, 65), (0, v1), (0, v2), (0, v3)] [] μ = _
  rw [mE_bk (M := q_Sol_settle) k_Sol_settle.1 k_Sol_settle.2 [16, 20, 84, 93] 400]
  have key : ∀ (C : Nat → List zv → Mu → mR) (E : Nat → List zv → List zv → Mu → mR), mbk C E q_Sol_settle.1 q_Sol_settle.2.1 z q_Sol_settle.2.2.2 [16, 20, 84, 93] 400 (zfind q_Sol_settle.2.2.2 20) [(2, 65), (0, v1), (0, v2), (0, v3)] [] μ = bif decide (24 ≤ v3) then (some (0, μ)) else (gI v1 8 ((C 23 [(0, z_and (μ 70 v1.toNat) (z_xor (μ 65 7) ((-1)))), (0, v3)] μ).bind fun q1 => (bif decide (q1.1 = 0) then (g_Sol_settle_93 E v1 v2 v3 q1.2) else (gI v3 24 (bif decide (q1.2 71 v3.toNat = (-1)) then (g_Sol_settle_84 E v1 v3 (zup q1.2 65 7 (z_or (q1.2 65 7) (z_shl 1 v3)))) else (gI v3 24 ((C 162 [(2, 65), (0, q1.2 71 v3.toNat), (0, zw (v2 + 1))] (zup q1.2 65 7 (z_or (q1.2 65 7) (z_shl 1 v3)))).bind fun q2 => (bif decide (q2.1 = 0) then (g_Sol_settle_93 E v1 v2 v3 q2.2) else (g_Sol_settle_84 E v1 v3 q2.2))))))))) := by
    intro C E
    rfl
  exact key _ _
set_option maxRecDepth 100000 in
theorem e_Sol_settle_93 (z : zZ) (d : Nat) (v1 : Int) (v2 : Int) (v3 : Int) (μ : Mu) : f_Sol_settle_93 z d v1 v2 v3 μ = f_Sol_settle_20 z d v1 v2 (zw (v3 + 1)) μ := by
  show mE z d q_Sol_settle 93 [(2, 65), (0, v1), (0, v2), (0, v3)] [] μ = _
  rw [mE_bk (M := q_Sol_settle) k_Sol_settle.1 k_Sol_settle.2 [16, 20, 84, 93] 400]
  have key : ∀ (C : Nat → List zv → Mu → mR) (E : Nat → List zv → List zv → Mu → mR), mbk C E q_Sol_settle.1 q_Sol_settle.2.1 z q_Sol_settle.2.2.2 [16, 20, 84, 93] 400 (zfind q_Sol_settle.2.2.2 93) [(2, 65), (0, v1), (0, v2), (0, v3)] [] μ = g_Sol_settle_20 E v1 v2 (zw (v3 + 1)) μ := by
    intro C E
    rfl
  exact key _ _
set_option maxRecDepth 100000 in
theorem e_Sol_settle_84 (z : zZ) (d : Nat) (v1 : Int) (v3 : Int) (μ : Mu) : f_Sol_settle_84 z d v1 v3 μ = gI v3 24 (some (1, zup μ 71 v3.toNat v1)) := by
  show mE z d q_Sol_settle 84 [(2, 65), (0, v1), (9, 0), (0, v3)] [] μ = _
  rw [mE_bk (M := q_Sol_settle) k_Sol_settle.1 k_Sol_settle.2 [16, 20, 84, 93] 400]
  have key : ∀ (C : Nat → List zv → Mu → mR) (E : Nat → List zv → List zv → Mu → mR), mbk C E q_Sol_settle.1 q_Sol_settle.2.1 z q_Sol_settle.2.2.2 [16, 20, 84, 93] 400 (zfind q_Sol_settle.2.2.2 84) [(2, 65), (0, v1), (9, 0), (0, v3)] [] μ = gI v3 24 (some (1, zup μ 71 v3.toNat v1)) := by
    intro C E
    rfl
  exact key _ _
def g_Sol_chooseWho_4 (E : Nat → List zv → List zv → Mu → mR) (v1 : Int) (v2 : Int) (v3 : Int) (μ : Mu) : mR := E 4 [(2, 65), (0, v1), (0, v2), (0, v3), (9, 0), (9, 0)] [] μ
noncomputable def f_Sol_chooseWho_4 (z : zZ) (d : Nat) (v1 : Int) (v2 : Int) (v3 : Int) (μ : Mu) : mR := g_Sol_chooseWho_4 (fun pc ls st μ => mE z d q_Sol_chooseWho pc ls st μ) v1 v2 v3 μ
def g_Sol_chooseWho_15 (E : Nat → List zv → List zv → Mu → mR) (v1 : Int) (v2 : Int) (v3 : Int) (v4 : Int) (v5 : Int) (μ : Mu) : mR := E 15 [(2, 65), (0, v1), (0, v2), (0, v3), (0, v4), (0, v5)] [] μ
noncomputable def f_Sol_chooseWho_15 (z : zZ) (d : Nat) (v1 : Int) (v2 : Int) (v3 : Int) (v4 : Int) (v5 : Int) (μ : Mu) : mR := g_Sol_chooseWho_15 (fun pc ls st μ => mE z d q_Sol_chooseWho pc ls st μ) v1 v2 v3 v4 v5 μ
def g_Sol_chooseWho_67 (E : Nat → List zv → List zv → Mu → mR) (v1 : Int) (v2 : Int) (v3 : Int) (v4 : Int) (v5 : Int) (μ : Mu) : mR := E 67 [(2, 65), (0, v1), (0, v2), (0, v3), (0, v4), (0, v5)] [] μ
noncomputable def f_Sol_chooseWho_67 (z : zZ) (d : Nat) (v1 : Int) (v2 : Int) (v3 : Int) (v4 : Int) (v5 : Int) (μ : Mu) : mR := g_Sol_chooseWho_67 (fun pc ls st μ => mE z d q_Sol_chooseWho pc ls st μ) v1 v2 v3 v4 v5 μ
def g_Sol_chooseWho_73 (E : Nat → List zv → List zv → Mu → mR) (v1 : Int) (v2 : Int) (v3 : Int) (v4 : Int) (μ : Mu) : mR := E 73 [(2, 65), (0, v1), (0, v2), (0, v3), (0, v4), (9, 0)] [] μ
noncomputable def f_Sol_chooseWho_73 (z : zZ) (d : Nat) (v1 : Int) (v2 : Int) (v3 : Int) (v4 : Int) (μ : Mu) : mR := g_Sol_chooseWho_73 (fun pc ls st μ => mE z d q_Sol_chooseWho pc ls st μ) v1 v2 v3 v4 μ
def g_Sol_chooseWho_94 (E : Nat → List zv → List zv → Mu → mR) (v1 : Int) (v2 : Int) (v3 : Int) (μ : Mu) : mR := E 94 [(2, 65), (0, v1), (0, v2), (0, v3), (9, 0), (9, 0)] [] μ
noncomputable def f_Sol_chooseWho_94 (z : zZ) (d : Nat) (v1 : Int) (v2 : Int) (v3 : Int) (μ : Mu) : mR := g_Sol_chooseWho_94 (fun pc ls st μ => mE z d q_Sol_chooseWho pc ls st μ) v1 v2 v3 μ
theorem k_Sol_chooseWho : zprK q_Sol_chooseWho.2.2.2 = true ∧ zinc q_Sol_chooseWho.2.2.2 = true := by decide +kernel
set_option maxRecDepth 100000 in
theorem c_Sol_chooseWho (z : zZ) (d : Nat) (v1 : Int) (μ : Mu) : mC z (d + 1) 163 [(2, 65), (0, v1)] μ = f_Sol_chooseWho_4 z d v1 0 0 μ := by
  rw [mC_succ q_Sol_chooseWho rfl rfl rfl]
  rw [mE_bk (M := q_Sol_chooseWho) k_Sol_chooseWho.1 k_Sol_chooseWho.2 [4, 15, 67, 73, 94] 400]
  have key : ∀ (C : Nat → List zv → Mu → mR) (E : Nat → List zv → List zv → Mu → mR), mbk C E q_Sol_chooseWho.1 q_Sol_chooseWho.2.1 z q_Sol_chooseWho.2.2.2 [4, 15, 67, 73, 94] 400 (zfind q_Sol_chooseWho.2.2.2 0) (zentry q_Sol_chooseWho.2.2.1 [(2, 65), (0, v1)]) [] μ = g_Sol_chooseWho_4 E v1 0 0 μ := by
    intro C E
    rfl
  exact key _ _
set_option maxRecDepth 100000 in
theorem e_Sol_chooseWho_4 (z : zZ) (d : Nat) (v1 : Int) (v2 : Int) (v3 : Int) (μ : Mu) : f_Sol_chooseWho_4 z d v1 v2 v3 μ = bif decide (v1 ≤ v3) then (some (0, μ)) else (f_Sol_chooseWho_15 z d v1 v2 v3 ((-1)) 0 μ) := by
  show mE z d q_Sol_chooseWho 4 [(2, 65), (0, v1), (0, v2), (0, v3), (9, 0), (9, 0)] [] μ = _
  rw [mE_bk (M := q_Sol_chooseWho) k_Sol_chooseWho.1 k_Sol_chooseWho.2 [4, 15, 67, 73, 94] 400]
  have key : ∀ (C : Nat → List zv → Mu → mR) (E : Nat → List zv → List zv → Mu → mR), mbk C E q_Sol_chooseWho.1 q_Sol_chooseWho.2.1 z q_Sol_chooseWho.2.2.2 [4, 15, 67, 73, 94] 400 (zfind q_Sol_chooseWho.2.2.2 4) [(2, 65), (0, v1), (0, v2), (0, v3), (9, 0), (9, 0)] [] μ = bif decide (v1 ≤ v3) then (some (0, μ)) else (g_Sol_chooseWho_15 E v1 v2 v3 ((-1)) 0 μ) := by
    intro C E
    rfl
  exact key _ _
set_option maxRecDepth 100000 in
theorem e_Sol_chooseWho_15 (z : zZ) (d : Nat) (v1 : Int) (v2 : Int) (v3 : Int) (v4 : Int) (v5 : Int) (μ : Mu) : f_Sol_chooseWho_15 z d v1 v2 v3 v4 v5 μ = bif decide (24 ≤ v5) then (f_Sol_chooseWho_73 z d v1 v2 v3 v4 μ) else (bif !decide (v4 = (-1)) then (f_Sol_chooseWho_73 z d v1 v2 v3 v4 μ) else (gI v3 8 ((mC z d 23 [(0, z_and (μ 70 v3.toNat) (z_xor v2 ((-1)))), (0, v5)] μ).bind fun q1 => (bif decide (q1.1 = 0) then (f_Sol_chooseWho_67 z d v1 v2 v3 v4 v5 q1.2) else ((mC z d 161 [(2, 65), (0, zw (v3 + 1)), (0, v1), (0, z_or v2 (z_shl 1 v5))] q1.2).bind fun q2 => (bif decide (q2.1 = 0) then (f_Sol_chooseWho_67 z d v1 v2 v3 v4 v5 q2.2) else (f_Sol_chooseWho_67 z d v1 v2 v3 v5 v5 q2.2))))))) := by
  show mE z d q_Sol_chooseWho 15 [(2, 65), (0, v1), (0, v2), (0, v3), (0, v4), (0, v5)] [] μ = _
  rw [mE_bk (M := q_Sol_chooseWho) k_Sol_chooseWho.1 k_Sol_chooseWho.2 [4, 15, 67, 73, 94] 400]
  have key : ∀ (C : Nat → List zv → Mu → mR) (E : Nat → List zv → List zv → Mu → mR), mbk C E q_Sol_chooseWho.1 q_Sol_chooseWho.2.1 z q_Sol_chooseWho.2.2.2 [4, 15, 67, 73, 94] 400 (zfind q_Sol_chooseWho.2.2.2 15) [(2, 65), (0, v1), (0, v2), (0, v3), (0, v4), (0, v5)] [] μ = bif decide (24 ≤ v5) then (g_Sol_chooseWho_73 E v1 v2 v3 v4 μ) else (bif !decide (v4 = (-1)) then (g_Sol_chooseWho_73 E v1 v2 v3 v4 μ) else (gI v3 8 ((C 23 [(0, z_and (μ 70 v3.toNat) (z_xor v2 ((-1)))), (0, v5)] μ).bind fun q1 => (bif decide (q1.1 = 0) then (g_Sol_chooseWho_67 E v1 v2 v3 v4 v5 q1.2) else ((C 161 [(2, 65), (0, zw (v3 + 1)), (0, v1), (0, z_or v2 (z_shl 1 v5))] q1.2).bind fun q2 => (bif decide (q2.1 = 0) then (g_Sol_chooseWho_67 E v1 v2 v3 v4 v5 q2.2) else (g_Sol_chooseWho_67 E v1 v2 v3 v5 v5 q2.2))))))) := by
    intro C E
    rfl
  exact key _ _
set_option maxRecDepth 100000 in
theorem e_Sol_chooseWho_73 (z : zZ) (d : Nat) (v1 : Int) (v2 : Int) (v3 : Int) (v4 : Int) (μ : Mu) : f_Sol_chooseWho_73 z d v1 v2 v3 v4 μ = gI v3 8 (bif decide (v4 = (-1)) then (f_Sol_chooseWho_94 z d v1 v2 v3 (zup μ 66 v3.toNat v4)) else (f_Sol_chooseWho_94 z d v1 (z_or v2 (z_shl 1 v4)) v3 (zup μ 66 v3.toNat v4))) := by
  show mE z d q_Sol_chooseWho 73 [(2, 65), (0, v1), (0, v2), (0, v3), (0, v4), (9, 0)] [] μ = _
  rw [mE_bk (M := q_Sol_chooseWho) k_Sol_chooseWho.1 k_Sol_chooseWho.2 [4, 15, 67, 73, 94] 400]
  have key : ∀ (C : Nat → List zv → Mu → mR) (E : Nat → List zv → List zv → Mu → mR), mbk C E q_Sol_chooseWho.1 q_Sol_chooseWho.2.1 z q_Sol_chooseWho.2.2.2 [4, 15, 67, 73, 94] 400 (zfind q_Sol_chooseWho.2.2.2 73) [(2, 65), (0, v1), (0, v2), (0, v3), (0, v4), (9, 0)] [] μ = gI v3 8 (bif decide (v4 = (-1)) then (g_Sol_chooseWho_94 E v1 v2 v3 (zup μ 66 v3.toNat v4)) else (g_Sol_chooseWho_94 E v1 (z_or v2 (z_shl 1 v4)) v3 (zup μ 66 v3.toNat v4))) := by
    intro C E
    rfl
  exact key _ _
set_option maxRecDepth 100000 in
theorem e_Sol_chooseWho_67 (z : zZ) (d : Nat) (v1 : Int) (v2 : Int) (v3 : Int) (v4 : Int) (v5 : Int) (μ : Mu) : f_Sol_chooseWho_67 z d v1 v2 v3 v4 v5 μ = f_Sol_chooseWho_15 z d v1 v2 v3 v4 (zw (v5 + 1)) μ := by
  show mE z d q_Sol_chooseWho 67 [(2, 65), (0, v1), (0, v2), (0, v3), (0, v4), (0, v5)] [] μ = _
  rw [mE_bk (M := q_Sol_chooseWho) k_Sol_chooseWho.1 k_Sol_chooseWho.2 [4, 15, 67, 73, 94] 400]
  have key : ∀ (C : Nat → List zv → Mu → mR) (E : Nat → List zv → List zv → Mu → mR), mbk C E q_Sol_chooseWho.1 q_Sol_chooseWho.2.1 z q_Sol_chooseWho.2.2.2 [4, 15, 67, 73, 94] 400 (zfind q_Sol_chooseWho.2.2.2 67) [(2, 65), (0, v1), (0, v2), (0, v3), (0, v4), (0, v5)] [] μ = g_Sol_chooseWho_15 E v1 v2 v3 v4 (zw (v5 + 1)) μ := by
    intro C E
    rfl
  exact key _ _
set_option maxRecDepth 100000 in
theorem e_Sol_chooseWho_94 (z : zZ) (d : Nat) (v1 : Int) (v2 : Int) (v3 : Int) (μ : Mu) : f_Sol_chooseWho_94 z d v1 v2 v3 μ = f_Sol_chooseWho_4 z d v1 v2 (zw (v3 + 1)) μ := by
  show mE z d q_Sol_chooseWho 94 [(2, 65), (0, v1), (0, v2), (0, v3), (9, 0), (9, 0)] [] μ = _
  rw [mE_bk (M := q_Sol_chooseWho) k_Sol_chooseWho.1 k_Sol_chooseWho.2 [4, 15, 67, 73, 94] 400]
  have key : ∀ (C : Nat → List zv → Mu → mR) (E : Nat → List zv → List zv → Mu → mR), mbk C E q_Sol_chooseWho.1 q_Sol_chooseWho.2.1 z q_Sol_chooseWho.2.2.2 [4, 15, 67, 73, 94] 400 (zfind q_Sol_chooseWho.2.2.2 94) [(2, 65), (0, v1), (0, v2), (0, v3), (9, 0), (9, 0)] [] μ = g_Sol_chooseWho_4 E v1 v2 (zw (v3 + 1)) μ := by
    intro C E
    rfl
  exact key _ _
def g_W_dead_13 (E : Nat → List zv → List zv → Mu → mR) (μ : Mu) : mR := E 13 [(9, 0), (9, 0), (9, 0), (9, 0), (9, 0)] [] μ
noncomputable def f_W_dead_13 (z : zZ) (d : Nat) (μ : Mu) : mR := g_W_dead_13 (fun pc ls st μ => mE z d q_W_dead pc ls st μ) μ
def g_W_dead_16 (E : Nat → List zv → List zv → Mu → mR) (v1 : Int) (v2 : Int) (μ : Mu) : mR := E 16 [(2, 0), (0, v1), (0, v2), (9, 0), (9, 0)] [] μ
noncomputable def f_W_dead_16 (z : zZ) (d : Nat) (v1 : Int) (v2 : Int) (μ : Mu) : mR := g_W_dead_16 (fun pc ls st μ => mE z d q_W_dead pc ls st μ) v1 v2 μ
def g_W_dead_68 (E : Nat → List zv → List zv → Mu → mR) (v4 : Int) (μ : Mu) : mR := E 68 [(9, 0), (9, 0), (9, 0), (9, 0), (0, v4)] [] μ
noncomputable def f_W_dead_68 (z : zZ) (d : Nat) (v4 : Int) (μ : Mu) : mR := g_W_dead_68 (fun pc ls st μ => mE z d q_W_dead pc ls st μ) v4 μ
def g_W_dead_70 (E : Nat → List zv → List zv → Mu → mR) (v100 : Int) (μ : Mu) : mR := E 70 [(9, 0), (9, 0), (9, 0), (9, 0), (9, 0)] [(0, v100)] μ
noncomputable def f_W_dead_70 (z : zZ) (d : Nat) (v100 : Int) (μ : Mu) : mR := g_W_dead_70 (fun pc ls st μ => mE z d q_W_dead pc ls st μ) v100 μ
theorem k_W_dead : zprK q_W_dead.2.2.2 = true ∧ zinc q_W_dead.2.2.2 = true := by decide +kernel
set_option maxRecDepth 100000 in
theorem c_W_dead (z : zZ) (d : Nat) (v1 : Int) (v2 : Int) (μ : Mu) : mC z (d + 1) 164 [(2, 0), (0, v1), (0, v2)] μ = (mC z d 15 [(0, v1)] μ).bind fun q1 => (bif decide (q1.1 = 0) then (f_W_dead_13 z d q1.2) else (bif decide ((-2) ≤ v2) then (f_W_dead_16 z d v1 v2 q1.2) else (f_W_dead_13 z d q1.2))) := by
  rw [mC_succ q_W_dead rfl rfl rfl]
  rw [mE_bk (M := q_W_dead) k_W_dead.1 k_W_dead.2 [13, 16, 68, 70] 400]
  have key : ∀ (C : Nat → List zv → Mu → mR) (E : Nat → List zv → List zv → Mu → mR), mbk C E q_W_dead.1 q_W_dead.2.1 z q_W_dead.2.2.2 [13, 16, 68, 70] 400 (zfind q_W_dead.2.2.2 0) (zentry q_W_dead.2.2.1 [(2, 0), (0, v1), (0, v2)]) [] μ = (C 15 [(0, v1)] μ).bind fun q1 => (bif decide (q1.1 = 0) then (g_W_dead_13 E q1.2) else (bif decide ((-2) ≤ v2) then (g_W_dead_16 E v1 v2 q1.2) else (g_W_dead_13 E q1.2))) := by
    intro C E
    rfl
  exact key _ _
set_option maxRecDepth 100000 in
theorem e_W_dead_13 (z : zZ) (d : Nat) (μ : Mu) : f_W_dead_13 z d μ = some ((-3), μ) := by
  show mE z d q_W_dead 13 [(9, 0), (9, 0), (9, 0), (9, 0), (9, 0)] [] μ = _
  rw [mE_bk (M := q_W_dead) k_W_dead.1 k_W_dead.2 [13, 16, 68, 70] 400]
  have key : ∀ (C : Nat → List zv → Mu → mR) (E : Nat → List zv → List zv → Mu → mR), mbk C E q_W_dead.1 q_W_dead.2.1 z q_W_dead.2.2.2 [13, 16, 68, 70] 400 (zfind q_W_dead.2.2.2 13) [(9, 0), (9, 0), (9, 0), (9, 0), (9, 0)] [] μ = some ((-3), μ) := by
    intro C E
    rfl
  exact key _ _
set_option maxRecDepth 100000 in
theorem e_W_dead_16 (z : zZ) (d : Nat) (v1 : Int) (v2 : Int) (μ : Mu) (hv1 : v1 = 0 ∨ v1 = 1) : f_W_dead_16 z d v1 v2 μ = bif !decide (v2 = (-1)) then (bif !decide (v2 = (-2)) then ((mC z d 167 [(2, (((4 + 9 * v1.toNat) : Nat) : Int)), (0, 12), (0, v2)] μ).bind fun q1 => (bif !decide (q1.1 = (-1)) then (f_W_dead_68 z d q1.1 q1.2) else (f_W_dead_70 z d ((-3)) q1.2))) else ((mC z d 166 [(2, (((4 + 9 * v1.toNat) : Nat) : Int)), (0, 12)] μ).bind fun q2 => (some (q2.1, q2.2)))) else ((mC z d 165 [(2, (((4 + 9 * v1.toNat) : Nat) : Int)), (0, 12)] μ).bind fun q3 => (some (q3.1, q3.2))) := by
  show mE z d q_W_dead 16 [(2, 0), (0, v1), (0, v2), (9, 0), (9, 0)] [] μ = _
  rw [mE_bk (M := q_W_dead) k_W_dead.1 k_W_dead.2 [13, 16, 68, 70] 400]
  have key : ∀ (C : Nat → List zv → Mu → mR) (E : Nat → List zv → List zv → Mu → mR), mbk C E q_W_dead.1 q_W_dead.2.1 z q_W_dead.2.2.2 [13, 16, 68, 70] 400 (zfind q_W_dead.2.2.2 16) [(2, 0), (0, v1), (0, v2), (9, 0), (9, 0)] [] μ = bif !decide (v2 = (-1)) then (bif !decide (v2 = (-2)) then ((C 167 [(2, (((4 + 9 * v1.toNat) : Nat) : Int)), (0, 12), (0, v2)] μ).bind fun q1 => (bif !decide (q1.1 = (-1)) then (g_W_dead_68 E q1.1 q1.2) else (g_W_dead_70 E ((-3)) q1.2))) else ((C 166 [(2, (((4 + 9 * v1.toNat) : Nat) : Int)), (0, 12)] μ).bind fun q2 => (some (q2.1, q2.2)))) else ((C 165 [(2, (((4 + 9 * v1.toNat) : Nat) : Int)), (0, 12)] μ).bind fun q3 => (some (q3.1, q3.2))) := by
    intro C E
    rcases hv1 with rfl | rfl <;> (rfl)
  exact key _ _
set_option maxRecDepth 100000 in
theorem e_W_dead_68 (z : zZ) (d : Nat) (v4 : Int) (μ : Mu) : f_W_dead_68 z d v4 μ = f_W_dead_70 z d v4 μ := by
  show mE z d q_W_dead 68 [(9, 0), (9, 0), (9, 0), (9, 0), (0, v4)] [] μ = _
  rw [mE_bk (M := q_W_dead) k_W_dead.1 k_W_dead.2 [13, 16, 68, 70] 400]
  have key : ∀ (C : Nat → List zv → Mu → mR) (E : Nat → List zv → List zv → Mu → mR), mbk C E q_W_dead.1 q_W_dead.2.1 z q_W_dead.2.2.2 [13, 16, 68, 70] 400 (zfind q_W_dead.2.2.2 68) [(9, 0), (9, 0), (9, 0), (9, 0), (0, v4)] [] μ = g_W_dead_70 E v4 μ := by
    intro C E
    rfl
  exact key _ _
set_option maxRecDepth 100000 in
theorem e_W_dead_70 (z : zZ) (d : Nat) (v100 : Int) (μ : Mu) : f_W_dead_70 z d v100 μ = some (v100, μ) := by
  show mE z d q_W_dead 70 [(9, 0), (9, 0), (9, 0), (9, 0), (9, 0)] [(0, v100)] μ = _
  rw [mE_bk (M := q_W_dead) k_W_dead.1 k_W_dead.2 [13, 16, 68, 70] 400]
  have key : ∀ (C : Nat → List zv → Mu → mR) (E : Nat → List zv → List zv → Mu → mR), mbk C E q_W_dead.1 q_W_dead.2.1 z q_W_dead.2.2.2 [13, 16, 68, 70] 400 (zfind q_W_dead.2.2.2 70) [(9, 0), (9, 0), (9, 0), (9, 0), (9, 0)] [(0, v100)] μ = some (v100, μ) := by
    intro C E
    rfl
  exact key _ _
def g_Army_total_4 (E : Nat → List zv → List zv → Mu → mR) (o0 : Nat) (v1 : Int) (v2 : Int) (v3 : Int) (μ : Mu) : mR := E 4 [(2, ((o0 : Nat) : Int)), (0, v1), (0, v2), (0, v3)] [] μ
noncomputable def f_Army_total_4 (z : zZ) (d : Nat) (o0 : Nat) (v1 : Int) (v2 : Int) (v3 : Int) (μ : Mu) : mR := g_Army_total_4 (fun pc ls st μ => mE z d q_Army_total pc ls st μ) o0 v1 v2 v3 μ
theorem k_Army_total : zprK q_Army_total.2.2.2 = true ∧ zinc q_Army_total.2.2.2 = true := by decide +kernel
set_option maxRecDepth 100000 in
theorem c_Army_total (z : zZ) (d : Nat) (o0 : Nat) (v1 : Int) (μ : Mu) (ho0 : o0 = 4 ∨ o0 = 13) : mC z (d + 1) 165 [(2, ((o0 : Nat) : Int)), (0, v1)] μ = f_Army_total_4 z d o0 v1 0 0 μ := by
  rw [mC_succ q_Army_total rfl rfl rfl]
  rw [mE_bk (M := q_Army_total) k_Army_total.1 k_Army_total.2 [4] 400]
  have key : ∀ (C : Nat → List zv → Mu → mR) (E : Nat → List zv → List zv → Mu → mR), mbk C E q_Army_total.1 q_Army_total.2.1 z q_Army_total.2.2.2 [4] 400 (zfind q_Army_total.2.2.2 0) (zentry q_Army_total.2.2.1 [(2, ((o0 : Nat) : Int)), (0, v1)]) [] μ = g_Army_total_4 E o0 v1 0 0 μ := by
    intro C E
    rcases ho0 with rfl | rfl <;> (rfl)
  exact key _ _
set_option maxRecDepth 100000 in
theorem e_Army_total_4 (z : zZ) (d : Nat) (o0 : Nat) (v1 : Int) (v2 : Int) (v3 : Int) (μ : Mu) (ho0 : o0 = 4 ∨ o0 = 13) : f_Army_total_4 z d o0 v1 v2 v3 μ = bif decide (12 ≤ v3) then (some (v2, μ)) else (gI (zw (v1 + v3)) 36 (f_Army_total_4 z d o0 v1 (zw (v2 + (μ (o0 + 3) ((zw (v1 + v3)).toNat)))) (zw (v3 + 1)) μ)) := by
  show mE z d q_Army_total 4 [(2, ((o0 : Nat) : Int)), (0, v1), (0, v2), (0, v3)] [] μ = _
  rw [mE_bk (M := q_Army_total) k_Army_total.1 k_Army_total.2 [4] 400]
  have key : ∀ (C : Nat → List zv → Mu → mR) (E : Nat → List zv → List zv → Mu → mR), mbk C E q_Army_total.1 q_Army_total.2.1 z q_Army_total.2.2.2 [4] 400 (zfind q_Army_total.2.2.2 4) [(2, ((o0 : Nat) : Int)), (0, v1), (0, v2), (0, v3)] [] μ = bif decide (12 ≤ v3) then (some (v2, μ)) else (gI (zw (v1 + v3)) 36 (g_Army_total_4 E o0 v1 (zw (v2 + (μ (o0 + 3) ((zw (v1 + v3)).toNat)))) (zw (v3 + 1)) μ)) := by
    intro C E
    rcases ho0 with rfl | rfl <;> (rfl)
  exact key _ _
