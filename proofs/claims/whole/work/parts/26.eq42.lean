def g_Sol_settle_16 (E : Nat → List zv → List zv → Mu → mR) (μ : Mu) : mR := E 16 [(9, 0), (9, 0), (9, 0), (9, 0)] [] μ
noncomputable def f_Sol_settle_16 (z : zZ) (d : Nat) (μ : Mu) : mR := g_Sol_settle_16 (fun pc ls st μ => mE z d q_Sol_settle pc ls st μ) μ
def g_Sol_settle_18 (E : Nat → List zv → List zv → Mu → mR) (v1 : Int) (v2 : Int) (μ : Mu) : mR := E 18 [(2, 65), (0, v1), (0, v2), (9, 0)] [] μ
noncomputable def f_Sol_settle_18 (z : zZ) (d : Nat) (v1 : Int) (v2 : Int) (μ : Mu) : mR := g_Sol_settle_18 (fun pc ls st μ => mE z d q_Sol_settle pc ls st μ) v1 v2 μ
def g_Sol_settle_20 (E : Nat → List zv → List zv → Mu → mR) (v1 : Int) (v2 : Int) (v3 : Int) (μ : Mu) : mR := E 20 [(2, 65), (0, v1), (0, v2), (0, v3)] [] μ
noncomputable def f_Sol_settle_20 (z : zZ) (d : Nat) (v1 : Int) (v2 : Int) (v3 : Int) (μ : Mu) : mR := g_Sol_settle_20 (fun pc ls st μ => mE z d q_Sol_settle pc ls st μ) v1 v2 v3 μ
def g_Sol_settle_84 (E : Nat → List zv → List zv → Mu → mR) (v1 : Int) (v3 : Int) (μ : Mu) : mR := E 84 [(2, 65), (0, v1), (9, 0), (0, v3)] [] μ
noncomputable def f_Sol_settle_84 (z : zZ) (d : Nat) (v1 : Int) (v3 : Int) (μ : Mu) : mR := g_Sol_settle_84 (fun pc ls st μ => mE z d q_Sol_settle pc ls st μ) v1 v3 μ
def g_Sol_settle_93 (E : Nat → List zv → List zv → Mu → mR) (v1 : Int) (v2 : Int) (v3 : Int) (μ : Mu) : mR := E 93 [(2, 65), (0, v1), (0, v2), (0, v3)] [] μ
noncomputable def f_Sol_settle_93 (z : zZ) (d : Nat) (v1 : Int) (v2 : Int) (v3 : Int) (μ : Mu) : mR := g_Sol_settle_93 (fun pc ls st μ => mE z d q_Sol_settle pc ls st μ) v1 v2 v3 μ
def g_Sol_settle_99 (E : Nat → List zv → List zv → Mu → mR) (μ : Mu) : mR := E 99 [(9, 0), (9, 0), (9, 0), (9, 0)] [] μ
noncomputable def f_Sol_settle_99 (z : zZ) (d : Nat) (μ : Mu) : mR := g_Sol_settle_99 (fun pc ls st μ => mE z d q_Sol_settle pc ls st μ) μ
theorem k_Sol_settle : zprK q_Sol_settle.2.2.2 = true ∧ zinc q_Sol_settle.2.2.2 = true := by decide +kernel
set_option maxRecDepth 100000 in
theorem c_Sol_settle (z : zZ) (d : Nat) (v1 : Int) (v2 : Int) (μ : Mu) : mC z (d + 1) 162 [(2, 65), (0, v1), (0, v2)] μ = bif decide (v1 < 0) then (f_Sol_settle_16 z d μ) else (bif decide (8 ≤ v1) then (f_Sol_settle_16 z d μ) else (bif decide (v2 ≤ 8) then (f_Sol_settle_18 z d v1 v2 μ) else (f_Sol_settle_16 z d μ))) := by
  rw [mC_succ q_Sol_settle rfl rfl rfl]
  rw [mE_bk (M := q_Sol_settle) k_Sol_settle.1 k_Sol_settle.2 [16, 18, 20, 84, 93, 99] 400]
  have key : ∀ (C : Nat → List zv → Mu → mR) (E : Nat → List zv → List zv → Mu → mR), mbk C E q_Sol_settle.1 q_Sol_settle.2.1 z q_Sol_settle.2.2.2 [16, 18, 20, 84, 93, 99] 400 (zfind q_Sol_settle.2.2.2 0) (zentry q_Sol_settle.2.2.1 [(2, 65), (0, v1), (0, v2)]) [] μ = bif decide (v1 < 0) then (g_Sol_settle_16 E μ) else (bif decide (8 ≤ v1) then (g_Sol_settle_16 E μ) else (bif decide (v2 ≤ 8) then (g_Sol_settle_18 E v1 v2 μ) else (g_Sol_settle_16 E μ))) := by
    intro C E
    rfl
  exact key _ _
set_option maxRecDepth 100000 in
theorem e_Sol_settle_16 (z : zZ) (d : Nat) (μ : Mu) : f_Sol_settle_16 z d μ = some (0, μ) := by
  show mE z d q_Sol_settle 16 [(9, 0), (9, 0), (9, 0), (9, 0)] [] μ = _
  rw [mE_bk (M := q_Sol_settle) k_Sol_settle.1 k_Sol_settle.2 [16, 18, 20, 84, 93, 99] 400]
  have key : ∀ (C : Nat → List zv → Mu → mR) (E : Nat → List zv → List zv → Mu → mR), mbk C E q_Sol_settle.1 q_Sol_settle.2.1 z q_Sol_settle.2.2.2 [16, 18, 20, 84, 93, 99] 400 (zfind q_Sol_settle.2.2.2 16) [(9, 0), (9, 0), (9, 0), (9, 0)] [] μ = some (0, μ) := by
    intro C E
    rfl
  exact key _ _
set_option maxRecDepth 100000 in
theorem e_Sol_settle_18 (z : zZ) (d : Nat) (v1 : Int) (v2 : Int) (μ : Mu) : f_Sol_settle_18 z d v1 v2 μ = f_Sol_settle_20 z d v1 v2 0 μ := by
  show mE z d q_Sol_settle 18 [(2, 65), (0, v1), (0, v2), (9, 0)] [] μ = _
  rw [mE_bk (M := q_Sol_settle) k_Sol_settle.1 k_Sol_settle.2 [16, 18, 20, 84, 93, 99] 400]
  have key : ∀ (C : Nat → List zv → Mu → mR) (E : Nat → List zv → List zv → Mu → mR), mbk C E q_Sol_settle.1 q_Sol_settle.2.1 z q_Sol_settle.2.2.2 [16, 18, 20, 84, 93, 99] 400 (zfind q_Sol_settle.2.2.2 18) [(2, 65), (0, v1), (0, v2), (9, 0)] [] μ = g_Sol_settle_20 E v1 v2 0 μ := by
    intro C E
    rfl
  exact key _ _
set_option maxRecDepth 100000 in
theorem e_Sol_settle_20 (z : zZ) (d : Nat) (v1 : Int) (v2 : Int) (v3 : Int) (μ : Mu) : f_Sol_settle_20 z d v1 v2 v3 μ = bif decide (24 ≤ v3) then (f_Sol_settle_99 z d μ) else (gI v1 8 ((mC z d 23 [(0, z_and (μ 70 v1.toNat) (z_xor (μ 65 7) ((-1)))), (0, v3)] μ).bind fun q1 => (bif decide (q1.1 = 0) then (f_Sol_settle_93 z d v1 v2 v3 q1.2) else (gI v3 24 (bif decide (q1.2 71 v3.toNat = (-1)) then (f_Sol_settle_84 z d v1 v3 (zup q1.2 65 7 (z_or (q1.2 65 7) (z_shl 1 v3)))) else (gI v3 24 ((mC z d 162 [(2, 65), (0, q1.2 71 v3.toNat), (0, zw (v2 + 1))] (zup q1.2 65 7 (z_or (q1.2 65 7) (z_shl 1 v3)))).bind fun q2 => (bif decide (q2.1 = 0) then (f_Sol_settle_93 z d v1 v2 v3 q2.2) else (f_Sol_settle_84 z d v1 v3 q2.2))))))))) := by
  show mE z d q_Sol_settle 20 [(2, 65), (0, v1), (0, v2), (0, v3)] [] μ = _
  rw [mE_bk (M := q_Sol_settle) k_Sol_settle.1 k_Sol_settle.2 [16, 18, 20, 84, 93, 99] 400]
  have key : ∀ (C : Nat → List zv → Mu → mR) (E : Nat → List zv → List zv → Mu → mR), mbk C E q_Sol_settle.1 q_Sol_settle.2.1 z q_Sol_settle.2.2.2 [16, 18, 20, 84, 93, 99] 400 (zfind q_Sol_settle.2.2.2 20) [(2, 65), (0, v1), (0, v2), (0, v3)] [] μ = bif decide (24 ≤ v3) then (g_Sol_settle_99 E μ) else (gI v1 8 ((C 23 [(0, z_and (μ 70 v1.toNat) (z_xor (μ 65 7) ((-1)))), (0, v3)] μ).bind fun q1 => (bif decide (q1.1 = 0) then (g_Sol_settle_93 E v1 v2 v3 q1.2) else (gI v3 24 (bif decide (q1.2 71 v3.toNat = (-1)) then (g_Sol_settle_84 E v1 v3 (zup q1.2 65 7 (z_or (q1.2 65 7) (z_shl 1 v3)))) else (gI v3 24 ((C 162 [(2, 65), (0, q1.2 71 v3.toNat), (0, zw (v2 + 1))] (zup q1.2 65 7 (z_or (q1.2 65 7) (z_shl 1 v3)))).bind fun q2 => (bif decide (q2.1 = 0) then (g_Sol_settle_93 E v1 v2 v3 q2.2) else (g_Sol_settle_84 E v1 v3 q2.2))))))))) := by
    intro C E
    rfl
  exact key _ _
set_option maxRecDepth 100000 in
theorem e_Sol_settle_99 (z : zZ) (d : Nat) (μ : Mu) : f_Sol_settle_99 z d μ = some (0, μ) := by
  show mE z d q_Sol_settle 99 [(9, 0), (9, 0), (9, 0), (9, 0)] [] μ = _
  rw [mE_bk (M := q_Sol_settle) k_Sol_settle.1 k_Sol_settle.2 [16, 18, 20, 84, 93, 99] 400]
  have key : ∀ (C : Nat → List zv → Mu → mR) (E : Nat → List zv → List zv → Mu → mR), mbk C E q_Sol_settle.1 q_Sol_settle.2.1 z q_Sol_settle.2.2.2 [16, 18, 20, 84, 93, 99] 400 (zfind q_Sol_settle.2.2.2 99) [(9, 0), (9, 0), (9, 0), (9, 0)] [] μ = some (0, μ) := by
    intro C E
    rfl
  exact key _ _
set_option maxRecDepth 100000 in
theorem e_Sol_settle_93 (z : zZ) (d : Nat) (v1 : Int) (v2 : Int) (v3 : Int) (μ : Mu) : f_Sol_settle_93 z d v1 v2 v3 μ = f_Sol_settle_20 z d v1 v2 (zw (v3 + 1)) μ := by
  show mE z d q_Sol_settle 93 [(2, 65), (0, v1), (0, v2), (0, v3)] [] μ = _
  rw [mE_bk (M := q_Sol_settle) k_Sol_settle.1 k_Sol_settle.2 [16, 18, 20, 84, 93, 99] 400]
  have key : ∀ (C : Nat → List zv → Mu → mR) (E : Nat → List zv → List zv → Mu → mR), mbk C E q_Sol_settle.1 q_Sol_settle.2.1 z q_Sol_settle.2.2.2 [16, 18, 20, 84, 93, 99] 400 (zfind q_Sol_settle.2.2.2 93) [(2, 65), (0, v1), (0, v2), (0, v3)] [] μ = g_Sol_settle_20 E v1 v2 (zw (v3 + 1)) μ := by
    intro C E
    rfl
  exact key _ _
set_option maxRecDepth 100000 in
theorem e_Sol_settle_84 (z : zZ) (d : Nat) (v1 : Int) (v3 : Int) (μ : Mu) : f_Sol_settle_84 z d v1 v3 μ = gI v3 24 (some (1, zup μ 71 v3.toNat v1)) := by
  show mE z d q_Sol_settle 84 [(2, 65), (0, v1), (9, 0), (0, v3)] [] μ = _
  rw [mE_bk (M := q_Sol_settle) k_Sol_settle.1 k_Sol_settle.2 [16, 18, 20, 84, 93, 99] 400]
  have key : ∀ (C : Nat → List zv → Mu → mR) (E : Nat → List zv → List zv → Mu → mR), mbk C E q_Sol_settle.1 q_Sol_settle.2.1 z q_Sol_settle.2.2.2 [16, 18, 20, 84, 93, 99] 400 (zfind q_Sol_settle.2.2.2 84) [(2, 65), (0, v1), (9, 0), (0, v3)] [] μ = gI v3 24 (some (1, zup μ 71 v3.toNat v1)) := by
    intro C E
    rfl
  exact key _ _
def g_Sol_chooseWho_4 (E : Nat → List zv → List zv → Mu → mR) (v1 : Int) (v2 : Int) (v3 : Int) (μ : Mu) : mR := E 4 [(2, 65), (0, v1), (0, v2), (0, v3), (9, 0), (9, 0)] [] μ
noncomputable def f_Sol_chooseWho_4 (z : zZ) (d : Nat) (v1 : Int) (v2 : Int) (v3 : Int) (μ : Mu) : mR := g_Sol_chooseWho_4 (fun pc ls st μ => mE z d q_Sol_chooseWho pc ls st μ) v1 v2 v3 μ
def g_Sol_chooseWho_15 (E : Nat → List zv → List zv → Mu → mR) (v1 : Int) (v2 : Int) (v3 : Int) (v4 : Int) (v5 : Int) (μ : Mu) : mR := E 15 [(2, 65), (0, v1), (0, v2), (0, v3), (0, v4), (0, v5)] [] μ
noncomputable def f_Sol_chooseWho_15 (z : zZ) (d : Nat) (v1 : Int) (v2 : Int) (v3 : Int) (v4 : Int) (v5 : Int) (μ : Mu) : mR := g_Sol_chooseWho_15 (fun pc ls st μ => mE z d q_Sol_chooseWho pc ls st μ) v1 v2 v3 v4 v5 μ
def g_Sol_chooseWho_67 (E : Nat → List zv → List zv → Mu → mR) (v1 : Int) (v2 : Int) (v3 : Int) (v4 : Int) (v5 : Int) (μ : Mu) : mR := E 67 [(2, 65), (0, v1), (0, v2), (0, v3), (0, v4), (0, v5)] [] μ
noncomputable def f_Sol_chooseWho_67 (z : zZ) (d : Nat) (v1 : Int) (v2 : Int) (v3 : Int) (v4 : Int) (v5 : Int) (μ : Mu) : mR := g_Sol_chooseWho_67 (fun pc ls st μ => mE z d q_Sol_chooseWho pc ls st μ) v1 v2 v3 v4 v5 μ
def g_Sol_chooseWho_73 (E : Nat → List zv → List zv → Mu → mR) (v1 : Int) (v2 : Int) (v3 : Int) (v4 : Int) (μ : Mu) : mR := E 73 [(2, 65), (0, v1), (0, v2), (0, v3), (0, v4), (9, 0)] [] μ
noncomputable def f_Sol_chooseWho_73 (z : zZ) (d : Nat) (v1 : Int) (v2 : Int) (v3 : Int) (v4 : Int) (μ : Mu) : mR := g_Sol_chooseWho_73 (fun pc ls st μ => mE z d q_Sol_chooseWho pc ls st μ) v1 v2 v3 v4 μ
def g_Sol_chooseWho_94 (E : Nat → List zv → List zv → Mu → mR) (v1 : Int) (v2 : Int) (v3 : Int) (μ : Mu) : mR := E 94 [(2, 65), (0, v1), (0, v2), (0, v3), (9, 0), (9, 0)] [] μ
noncomputable def f_Sol_chooseWho_94 (z : zZ) (d : Nat) (v1 : Int) (v2 : Int) (v3 : Int) (μ : Mu) : mR := g_Sol_chooseWho_94 (fun pc ls st μ => mE z d q_Sol_chooseWho pc ls st μ) v1 v2 v3 μ
def g_Sol_chooseWho_100 (E : Nat → List zv → List zv → Mu → mR) (μ : Mu) : mR := E 100 [(9, 0), (9, 0), (9, 0), (9, 0), (9, 0), (9, 0)] [] μ
noncomputable def f_Sol_chooseWho_100 (z : zZ) (d : Nat) (μ : Mu) : mR := g_Sol_chooseWho_100 (fun pc ls st μ => mE z d q_Sol_chooseWho pc ls st μ) μ
theorem k_Sol_chooseWho : zprK q_Sol_chooseWho.2.2.2 = true ∧ zinc q_Sol_chooseWho.2.2.2 = true := by decide +kernel
set_option maxRecDepth 100000 in
theorem c_Sol_chooseWho (z : zZ) (d : Nat) (v1 : Int) (μ : Mu) : mC z (d + 1) 163 [(2, 65), (0, v1)] μ = f_Sol_chooseWho_4 z d v1 0 0 μ := by
  rw [mC_succ q_Sol_chooseWho rfl rfl rfl]
  rw [mE_bk (M := q_Sol_chooseWho) k_Sol_chooseWho.1 k_Sol_chooseWho.2 [4, 15, 67, 73, 94, 100] 400]
  have key : ∀ (C : Nat → List zv → Mu → mR) (E : Nat → List zv → List zv → Mu → mR), mbk C E q_Sol_chooseWho.1 q_Sol_chooseWho.2.1 z q_Sol_chooseWho.2.2.2 [4, 15, 67, 73, 94, 100] 400 (zfind q_Sol_chooseWho.2.2.2 0) (zentry q_Sol_chooseWho.2.2.1 [(2, 65), (0, v1)]) [] μ = g_Sol_chooseWho_4 E v1 0 0 μ := by
    intro C E
    rfl
  exact key _ _
set_option maxRecDepth 100000 in
theorem e_Sol_chooseWho_4 (z : zZ) (d : Nat) (v1 : Int) (v2 : Int) (v3 : Int) (μ : Mu) : f_Sol_chooseWho_4 z d v1 v2 v3 μ = bif decide (v1 ≤ v3) then (f_Sol_chooseWho_100 z d μ) else (f_Sol_chooseWho_15 z d v1 v2 v3 ((-1)) 0 μ) := by
  show mE z d q_Sol_chooseWho 4 [(2, 65), (0, v1), (0, v2), (0, v3), (9, 0), (9, 0)] [] μ = _
  rw [mE_bk (M := q_Sol_chooseWho) k_Sol_chooseWho.1 k_Sol_chooseWho.2 [4, 15, 67, 73, 94, 100] 400]
  have key : ∀ (C : Nat → List zv → Mu → mR) (E : Nat → List zv → List zv → Mu → mR), mbk C E q_Sol_chooseWho.1 q_Sol_chooseWho.2.1 z q_Sol_chooseWho.2.2.2 [4, 15, 67, 73, 94, 100] 400 (zfind q_Sol_chooseWho.2.2.2 4) [(2, 65), (0, v1), (0, v2), (0, v3), (9, 0), (9, 0)] [] μ = bif decide (v1 ≤ v3) then (g_Sol_chooseWho_100 E μ) else (g_Sol_chooseWho_15 E v1 v2 v3 ((-1)) 0 μ) := by
    intro C E
    rfl
  exact key _ _
set_option maxRecDepth 100000 in
theorem e_Sol_chooseWho_100 (z : zZ) (d : Nat) (μ : Mu) : f_Sol_chooseWho_100 z d μ = some (0, μ) := by
  show mE z d q_Sol_chooseWho 100 [(9, 0), (9, 0), (9, 0), (9, 0), (9, 0), (9, 0)] [] μ = _
  rw [mE_bk (M := q_Sol_chooseWho) k_Sol_chooseWho.1 k_Sol_chooseWho.2 [4, 15, 67, 73, 94, 100] 400]
  have key : ∀ (C : Nat → List zv → Mu → mR) (E : Nat → List zv → List zv → Mu → mR), mbk C E q_Sol_chooseWho.1 q_Sol_chooseWho.2.1 z q_Sol_chooseWho.2.2.2 [4, 15, 67, 73, 94, 100] 400 (zfind q_Sol_chooseWho.2.2.2 100) [(9, 0), (9, 0), (9, 0), (9, 0), (9, 0), (9, 0)] [] μ = some (0, μ) := by
    intro C E
    rfl
  exact key _ _
set_option maxRecDepth 100000 in
theorem e_Sol_chooseWho_15 (z : zZ) (d : Nat) (v1 : Int) (v2 : Int) (v3 : Int) (v4 : Int) (v5 : Int) (μ : Mu) : f_Sol_chooseWho_15 z d v1 v2 v3 v4 v5 μ = bif decide (24 ≤ v5) then (f_Sol_chooseWho_73 z d v1 v2 v3 v4 μ) else (bif !decide (v4 = (-1)) then (f_Sol_chooseWho_73 z d v1 v2 v3 v4 μ) else (gI v3 8 ((mC z d 23 [(0, z_and (μ 70 v3.toNat) (z_xor v2 ((-1)))), (0, v5)] μ).bind fun q1 => (bif decide (q1.1 = 0) then (f_Sol_chooseWho_67 z d v1 v2 v3 v4 v5 q1.2) else ((mC z d 161 [(2, 65), (0, zw (v3 + 1)), (0, v1), (0, z_or v2 (z_shl 1 v5))] q1.2).bind fun q2 => (bif decide (q2.1 = 0) then (f_Sol_chooseWho_67 z d v1 v2 v3 v4 v5 q2.2) else (f_Sol_chooseWho_67 z d v1 v2 v3 v5 v5 q2.2))))))) := by
  show mE z d q_Sol_chooseWho 15 [(2, 65), (0, v1), (0, v2), (0, v3), (0, v4), (0, v5)] [] μ = _
  rw [mE_bk (M := q_Sol_chooseWho) k_Sol_chooseWho.1 k_Sol_chooseWho.2 [4, 15, 67, 73, 94, 100] 400]
  have key : ∀ (C : Nat → List zv → Mu → mR) (E : Nat → List zv → List zv → Mu → mR), mbk C E q_Sol_chooseWho.1 q_Sol_chooseWho.2.1 z q_Sol_chooseWho.2.2.2 [4, 15, 67, 73, 94, 100] 400 (zfind q_Sol_chooseWho.2.2.2 15) [(2, 65), (0, v1), (0, v2), (0, v3), (0, v4), (0, v5)] [] μ = bif decide (24 ≤ v5) then (g_Sol_chooseWho_73 E v1 v2 v3 v4 μ) else (bif !decide (v4 = (-1)) then (g_Sol_chooseWho_73 E v1 v2 v3 v4 μ) else (gI v3 8 ((C 23 [(0, z_and (μ 70 v3.toNat) (z_xor v2 ((-1)))), (0, v5)] μ).bind fun q1 => (bif decide (q1.1 = 0) then (g_Sol_chooseWho_67 E v1 v2 v3 v4 v5 q1.2) else ((C 161 [(2, 65), (0, zw (v3 + 1)), (0, v1), (0, z_or v2 (z_shl 1 v5))] q1.2).bind fun q2 => (bif decide (q2.1 = 0) then (g_Sol_chooseWho_67 E v1 v2 v3 v4 v5 q2.2) else (g_Sol_chooseWho_67 E v1 v2 v3 v5 v5 q2.2))))))) := by
    intro C E
    rfl
  exact key _ _
set_option maxRecDepth 100000 in
theorem e_Sol_chooseWho_73 (z : zZ) (d : Nat) (v1 : Int) (v2 : Int) (v3 : Int) (v4 : Int) (μ : Mu) : f_Sol_chooseWho_73 z d v1 v2 v3 v4 μ = gI v3 8 (bif decide (v4 = (-1)) then (f_Sol_chooseWho_94 z d v1 v2 v3 (zup μ 66 v3.toNat v4)) else (f_Sol_chooseWho_94 z d v1 (z_or v2 (z_shl 1 v4)) v3 (zup μ 66 v3.toNat v4))) := by
  show mE z d q_Sol_chooseWho 73 [(2, 65), (0, v1), (0, v2), (0, v3), (0, v4), (9, 0)] [] μ = _
  rw [mE_bk (M := q_Sol_chooseWho) k_Sol_chooseWho.1 k_Sol_chooseWho.2 [4, 15, 67, 73, 94, 100] 400]
  have key : ∀ (C : Nat → List zv → Mu → mR) (E : Nat → List zv → List zv → Mu → mR), mbk C E q_Sol_chooseWho.1 q_Sol_chooseWho.2.1 z q_Sol_chooseWho.2.2.2 [4, 15, 67, 73, 94, 100] 400 (zfind q_Sol_chooseWho.2.2.2 73) [(2, 65), (0, v1), (0, v2), (0, v3), (0, v4), (9, 0)] [] μ = gI v3 8 (bif decide (v4 = (-1)) then (g_Sol_chooseWho_94 E v1 v2 v3 (zup μ 66 v3.toNat v4)) else (g_Sol_chooseWho_94 E v1 (z_or v2 (z_shl 1 v4)) v3 (zup μ 66 v3.toNat v4))) := by
    intro C E
    rfl
  exact key _ _
set_option maxRecDepth 100000 in
theorem e_Sol_chooseWho_67 (z : zZ) (d : Nat) (v1 : Int) (v2 : Int) (v3 : Int) (v4 : Int) (v5 : Int) (μ : Mu) : f_Sol_chooseWho_67 z d v1 v2 v3 v4 v5 μ = f_Sol_chooseWho_15 z d v1 v2 v3 v4 (zw (v5 + 1)) μ := by
  show mE z d q_Sol_chooseWho 67 [(2, 65), (0, v1), (0, v2), (0, v3), (0, v4), (0, v5)] [] μ = _
  rw [mE_bk (M := q_Sol_chooseWho) k_Sol_chooseWho.1 k_Sol_chooseWho.2 [4, 15, 67, 73, 94, 100] 400]
  have key : ∀ (C : Nat → List zv → Mu → mR) (E : Nat → List zv → List zv → Mu → mR), mbk C E q_Sol_chooseWho.1 q_Sol_chooseWho.2.1 z q_Sol_chooseWho.2.2.2 [4, 15, 67, 73, 94, 100] 400 (zfind q_Sol_chooseWho.2.2.2 67) [(2, 65), (0, v1), (0, v2), (0, v3), (0, v4), (0, v5)] [] μ = g_Sol_chooseWho_15 E v1 v2 v3 v4 (zw (v5 + 1)) μ := by
    intro C E
    rfl
  exact key _ _
set_option maxRecDepth 100000 in
theorem e_Sol_chooseWho_94 (z : zZ) (d : Nat) (v1 : Int) (v2 : Int) (v3 : Int) (μ : Mu) : f_Sol_chooseWho_94 z d v1 v2 v3 μ = f_Sol_chooseWho_4 z d v1 v2 (zw (v3 + 1)) μ := by
  show mE z d q_Sol_chooseWho 94 [(2, 65), (0, v1), (0, v2), (0, v3), (9, 0), (9, 0)] [] μ = _
  rw [mE_bk (M := q_Sol_chooseWho) k_Sol_chooseWho.1 k_Sol_chooseWho.2 [4, 15, 67, 73, 94, 100] 400]
  have key : ∀ (C : Nat → List zv → Mu → mR) (E : Nat → List zv → List zv → Mu → mR), mbk C E q_Sol_chooseWho.1 q_Sol_chooseWho.2.1 z q_Sol_chooseWho.2.2.2 [4, 15, 67, 73, 94, 100] 400 (zfind q_Sol_chooseWho.2.2.2 94) [(2, 65), (0, v1), (0, v2), (0, v3), (9, 0), (9, 0)] [] μ = g_Sol_chooseWho_4 E v1 v2 (zw (v3 + 1)) μ := by
    intro C E
    rfl
  exact key _ _
def g_W_dead_13 (E : Nat → List zv → List zv → Mu → mR) (μ : Mu) : mR := E 13 [(9, 0), (9, 0), (9, 0), (9, 0), (9, 0)] [] μ
noncomputable def f_W_dead_13 (z : zZ) (d : Nat) (μ : Mu) : mR := g_W_dead_13 (fun pc ls st μ => mE z d q_W_dead pc ls st μ) μ
def g_W_dead_16 (E : Nat → List zv → List zv → Mu → mR) (v1 : Int) (v2 : Int) (μ : Mu) : mR := E 16 [(2, 0), (0, v1), (0, v2), (9, 0), (9, 0)] [] μ
noncomputable def f_W_dead_16 (z : zZ) (d : Nat) (v1 : Int) (v2 : Int) (μ : Mu) : mR := g_W_dead_16 (fun pc ls st μ => mE z d q_W_dead pc ls st μ) v1 v2 μ
def g_W_dead_35 (E : Nat → List zv → List zv → Mu → mR) (v2 : Int) (o3 : Nat) (μ : Mu) : mR := E 35 [(9, 0), (9, 0), (0, v2), (2, ((o3 : Nat) : Int)), (9, 0)] [] μ
noncomputable def f_W_dead_35 (z : zZ) (d : Nat) (v2 : Int) (o3 : Nat) (μ : Mu) : mR := g_W_dead_35 (fun pc ls st μ => mE z d q_W_dead pc ls st μ) v2 o3 μ
def g_W_dead_48 (E : Nat → List zv → List zv → Mu → mR) (v2 : Int) (o3 : Nat) (μ : Mu) : mR := E 48 [(9, 0), (9, 0), (0, v2), (2, ((o3 : Nat) : Int)), (9, 0)] [] μ
noncomputable def f_W_dead_48 (z : zZ) (d : Nat) (v2 : Int) (o3 : Nat) (μ : Mu) : mR := g_W_dead_48 (fun pc ls st μ => mE z d q_W_dead pc ls st μ) v2 o3 μ
def g_W_dead_68 (E : Nat → List zv → List zv → Mu → mR) (v4 : Int) (μ : Mu) : mR := E 68 [(9, 0), (9, 0), (9, 0), (9, 0), (0, v4)] [] μ
noncomputable def f_W_dead_68 (z : zZ) (d : Nat) (v4 : Int) (μ : Mu) : mR := g_W_dead_68 (fun pc ls st μ => mE z d q_W_dead pc ls st μ) v4 μ
def g_W_dead_70 (E : Nat → List zv → List zv → Mu → mR) (v100 : Int) (μ : Mu) : mR := E 70 [(9, 0), (9, 0), (9, 0), (9, 0), (9, 0)] [(0, v100)] μ
noncomputable def f_W_dead_70 (z : zZ) (d : Nat) (v100 : Int) (μ : Mu) : mR := g_W_dead_70 (fun pc ls st μ => mE z d q_W_dead pc ls st μ) v100 μ
theorem k_W_dead : zprK q_W_dead.2.2.2 = true ∧ zinc q_W_dead.2.2.2 = true := by decide +kernel
set_option maxRecDepth 100000 in
theorem c_W_dead (z : zZ) (d : Nat) (v1 : Int) (v2 : Int) (μ : Mu) : mC z (d + 1) 164 [(2, 0), (0, v1), (0, v2)] μ = (mC z d 15 [(0, v1)] μ).bind fun q1 => (bif decide (q1.1 = 0) then (f_W_dead_13 z d q1.2) else (bif decide ((-2) ≤ v2) then (f_W_dead_16 z d v1 v2 q1.2) else (f_W_dead_13 z d q1.2))) := by
  rw [mC_succ q_W_dead rfl rfl rfl]
  rw [mE_bk (M := q_W_dead) k_W_dead.1 k_W_dead.2 [13, 16, 35, 48, 68, 70] 400]
  have key : ∀ (C : Nat → List zv → Mu → mR) (E : Nat → List zv → List zv → Mu → mR), mbk C E q_W_dead.1 q_W_dead.2.1 z q_W_dead.2.2.2 [13, 16, 35, 48, 68, 70] 400 (zfind q_W_dead.2.2.2 0) (zentry q_W_dead.2.2.1 [(2, 0), (0, v1), (0, v2)]) [] μ = (C 15 [(0, v1)] μ).bind fun q1 => (bif decide (q1.1 = 0) then (g_W_dead_13 E q1.2) else (bif decide ((-2) ≤ v2) then (g_W_dead_16 E v1 v2 q1.2) else (g_W_dead_13 E q1.2))) := by
    intro C E
    rfl
  exact key _ _
set_option maxRecDepth 100000 in
theorem e_W_dead_13 (z : zZ) (d : Nat) (μ : Mu) : f_W_dead_13 z d μ = some ((-3), μ) := by
  show mE z d q_W_dead 13 [(9, 0), (9, 0), (9, 0), (9, 0), (9, 0)] [] μ = _
  rw [mE_bk (M := q_W_dead) k_W_dead.1 k_W_dead.2 [13, 16, 35, 48, 68, 70] 400]
  have key : ∀ (C : Nat → List zv → Mu → mR) (E : Nat → List zv → List zv → Mu → mR), mbk C E q_W_dead.1 q_W_dead.2.1 z q_W_dead.2.2.2 [13, 16, 35, 48, 68, 70] 400 (zfind q_W_dead.2.2.2 13) [(9, 0), (9, 0), (9, 0), (9, 0), (9, 0)] [] μ = some ((-3), μ) := by
    intro C E
    rfl
  exact key _ _
set_option maxRecDepth 100000 in
theorem e_W_dead_16 (z : zZ) (d : Nat) (v1 : Int) (v2 : Int) (μ : Mu) (hv1 : v1 = 0 ∨ v1 = 1) : f_W_dead_16 z d v1 v2 μ = bif !decide (v2 = (-1)) then (f_W_dead_35 z d v2 (4 + 9 * v1.toNat) μ) else ((mC z d 165 [(2, (((4 + 9 * v1.toNat) : Nat) : Int)), (0, 12)] μ).bind fun q1 => (some (q1.1, q1.2))) := by
  show mE z d q_W_dead 16 [(2, 0), (0, v1), (0, v2), (9, 0), (9, 0)] [] μ = _
  rw [mE_bk (M := q_W_dead) k_W_dead.1 k_W_dead.2 [13, 16, 35, 48, 68, 70] 400]
  have key : ∀ (C : Nat → List zv → Mu → mR) (E : Nat → List zv → List zv → Mu → mR), mbk C E q_W_dead.1 q_W_dead.2.1 z q_W_dead.2.2.2 [13, 16, 35, 48, 68, 70] 400 (zfind q_W_dead.2.2.2 16) [(2, 0), (0, v1), (0, v2), (9, 0), (9, 0)] [] μ = bif !decide (v2 = (-1)) then (g_W_dead_35 E v2 (4 + 9 * v1.toNat) μ) else ((C 165 [(2, (((4 + 9 * v1.toNat) : Nat) : Int)), (0, 12)] μ).bind fun q1 => (some (q1.1, q1.2))) := by
    intro C E
    rcases hv1 with rfl | rfl <;> (rfl)
  exact key _ _
set_option maxRecDepth 100000 in
theorem e_W_dead_35 (z : zZ) (d : Nat) (v2 : Int) (o3 : Nat) (μ : Mu) (ho3 : o3 = 4 ∨ o3 = 13) : f_W_dead_35 z d v2 o3 μ = bif !decide (v2 = (-2)) then (f_W_dead_48 z d v2 o3 μ) else ((mC z d 166 [(2, ((o3 : Nat) : Int)), (0, 12)] μ).bind fun q1 => (some (q1.1, q1.2))) := by
  show mE z d q_W_dead 35 [(9, 0), (9, 0), (0, v2), (2, ((o3 : Nat) : Int)), (9, 0)] [] μ = _
  rw [mE_bk (M := q_W_dead) k_W_dead.1 k_W_dead.2 [13, 16, 35, 48, 68, 70] 400]
  have key : ∀ (C : Nat → List zv → Mu → mR) (E : Nat → List zv → List zv → Mu → mR), mbk C E q_W_dead.1 q_W_dead.2.1 z q_W_dead.2.2.2 [13, 16, 35, 48, 68, 70] 400 (zfind q_W_dead.2.2.2 35) [(9, 0), (9, 0), (0, v2), (2, ((o3 : Nat) : Int)), (9, 0)] [] μ = bif !decide (v2 = (-2)) then (g_W_dead_48 E v2 o3 μ) else ((C 166 [(2, ((o3 : Nat) : Int)), (0, 12)] μ).bind fun q1 => (some (q1.1, q1.2))) := by
    intro C E
    rcases ho3 with rfl | rfl <;> (rfl)
  exact key _ _
set_option maxRecDepth 100000 in
theorem e_W_dead_48 (z : zZ) (d : Nat) (v2 : Int) (o3 : Nat) (μ : Mu) (ho3 : o3 = 4 ∨ o3 = 13) : f_W_dead_48 z d v2 o3 μ = (mC z d 167 [(2, ((o3 : Nat) : Int)), (0, 12), (0, v2)] μ).bind fun q1 => (bif !decide (q1.1 = (-1)) then (f_W_dead_68 z d q1.1 q1.2) else (f_W_dead_70 z d ((-3)) q1.2)) := by
  show mE z d q_W_dead 48 [(9, 0), (9, 0), (0, v2), (2, ((o3 : Nat) : Int)), (9, 0)] [] μ = _
  rw [mE_bk (M := q_W_dead) k_W_dead.1 k_W_dead.2 [13, 16, 35, 48, 68, 70] 400]
  have key : ∀ (C : Nat → List zv → Mu → mR) (E : Nat → List zv → List zv → Mu → mR), mbk C E q_W_dead.1 q_W_dead.2.1 z q_W_dead.2.2.2 [13, 16, 35, 48, 68, 70] 400 (zfind q_W_dead.2.2.2 48) [(9, 0), (9, 0), (0, v2), (2, ((o3 : Nat) : Int)), (9, 0)] [] μ = (C 167 [(2, ((o3 : Nat) : Int)), (0, 12), (0, v2)] μ).bind fun q1 => (bif !decide (q1.1 = (-1)) then (g_W_dead_68 E q1.1 q1.2) else (g_W_dead_70 E ((-3)) q1.2)) := by
    intro C E
    rcases ho3 with rfl | rfl <;> (rfl)
  exact key _ _
set_option maxRecDepth 100000 in
theorem e_W_dead_68 (z : zZ) (d : Nat) (v4 : Int) (μ : Mu) : f_W_dead_68 z d v4 μ = f_W_dead_70 z d v4 μ := by
  show mE z d q_W_dead 68 [(9, 0), (9, 0), (9, 0), (9, 0), (0, v4)] [] μ = _
  rw [mE_bk (M := q_W_dead) k_W_dead.1 k_W_dead.2 [13, 16, 35, 48, 68, 70] 400]
  have key : ∀ (C : Nat → List zv → Mu → mR) (E : Nat → List zv → List zv → Mu → mR), mbk C E q_W_dead.1 q_W_dead.2.1 z q_W_dead.2.2.2 [13, 16, 35, 48, 68, 70] 400 (zfind q_W_dead.2.2.2 68) [(9, 0), (9, 0), (9, 0), (9, 0), (0, v4)] [] μ = g_W_dead_70 E v4 μ := by
    intro C E
    rfl
  exact key _ _
set_option maxRecDepth 100000 in
theorem e_W_dead_70 (z : zZ) (d : Nat) (v100 : Int) (μ : Mu) : f_W_dead_70 z d v100 μ = some (v100, μ) := by
  show mE z d q_W_dead 70 [(9, 0), (9, 0), (9, 0), (9, 0), (9, 0)] [(0, v100)] μ = _
  rw [mE_bk (M := q_W_dead) k_W_dead.1 k_W_dead.2 [13, 16, 35, 48, 68, 70] 400]
  have key : ∀ (C : Nat → List zv → Mu → mR) (E : Nat → List zv → List zv → Mu → mR), mbk C E q_W_dead.1 q_W_dead.2.1 z q_W_dead.2.2.2 [13, 16, 35, 48, 68, 70] 400 (zfind q_W_dead.2.2.2 70) [(9, 0), (9, 0), (9, 0), (9, 0), (9, 0)] [(0, v100)] μ = some (v100, μ) := by
    intro C E
    rfl
  exact key _ _
def g_Army_total_4 (E : Nat → List zv → List zv → Mu → mR) (o0 : Nat) (v1 : Int) (v2 : Int) (v3 : Int) (μ : Mu) : mR := E 4 [(2, ((o0 : Nat) : Int)), (0, v1), (0, v2), (0, v3)] [] μ
noncomputable def f_Army_total_4 (z : zZ) (d : Nat) (o0 : Nat) (v1 : Int) (v2 : Int) (v3 : Int) (μ : Mu) : mR := g_Army_total_4 (fun pc ls st μ => mE z d q_Army_total pc ls st μ) o0 v1 v2 v3 μ
def g_Army_total_27 (E : Nat → List zv → List zv → Mu → mR) (v2 : Int) (μ : Mu) : mR := E 27 [(9, 0), (9, 0), (0, v2), (9, 0)] [] μ
noncomputable def f_Army_total_27 (z : zZ) (d : Nat) (v2 : Int) (μ : Mu) : mR := g_Army_total_27 (fun pc ls st μ => mE z d q_Army_total pc ls st μ) v2 μ
theorem k_Army_total : zprK q_Army_total.2.2.2 = true ∧ zinc q_Army_total.2.2.2 = true := by decide +kernel
set_option maxRecDepth 100000 in
theorem c_Army_total (z : zZ) (d : Nat) (o0 : Nat) (v1 : Int) (μ : Mu) (ho0 : o0 = 4 ∨ o0 = 13) : mC z (d + 1) 165 [(2, ((o0 : Nat) : Int)), (0, v1)] μ = f_Army_total_4 z d o0 v1 0 0 μ := by
  rw [mC_succ q_Army_total rfl rfl rfl]
  rw [mE_bk (M := q_Army_total) k_Army_total.1 k_Army_total.2 [4, 27] 400]
  have key : ∀ (C : Nat → List zv → Mu → mR) (E : Nat → List zv → List zv → Mu → mR), mbk C E q_Army_total.1 q_Army_total.2.1 z q_Army_total.2.2.2 [4, 27] 400 (zfind q_Army_total.2.2.2 0) (zentry q_Army_total.2.2.1 [(2, ((o0 : Nat) : Int)), (0, v1)]) [] μ = g_Army_total_4 E o0 v1 0 0 μ := by
    intro C E
    rcases ho0 with rfl | rfl <;> (rfl)
  exact key _ _
set_option maxRecDepth 100000 in
theorem e_Army_total_4 (z : zZ) (d : Nat) (o0 : Nat) (v1 : Int) (v2 : Int) (v3 : Int) (μ : Mu) (ho0 : o0 = 4 ∨ o0 = 13) : f_Army_total_4 z d o0 v1 v2 v3 μ = bif decide (12 ≤ v3) then (f_Army_total_27 z d v2 μ) else (gI (zw (v1 + v3)) 36 (f_Army_total_4 z d o0 v1 (zw (v2 + (μ (o0 + 3) ((zw (v1 + v3)).toNat)))) (zw (v3 + 1)) μ)) := by
  show mE z d q_Army_total 4 [(2, ((o0 : Nat) : Int)), (0, v1), (0, v2), (0, v3)] [] μ = _
  rw [mE_bk (M := q_Army_total) k_Army_total.1 k_Army_total.2 [4, 27] 400]
  have key : ∀ (C : Nat → List zv → Mu → mR) (E : Nat → List zv → List zv → Mu → mR), mbk C E q_Army_total.1 q_Army_total.2.1 z q_Army_total.2.2.2 [4, 27] 400 (zfind q_Army_total.2.2.2 4) [(2, ((o0 : Nat) : Int)), (0, v1), (0, v2), (0, v3)] [] μ = bif decide (12 ≤ v3) then (g_Army_total_27 E v2 μ) else (gI (zw (v1 + v3)) 36 (g_Army_total_4 E o0 v1 (zw (v2 + (μ (o0 + 3) ((zw (v1 + v3)).toNat)))) (zw (v3 + 1)) μ)) := by
    intro C E
    rcases ho0 with rfl | rfl <;> (rfl)
  exact key _ _
set_option maxRecDepth 100000 in
theorem e_Army_total_27 (z : zZ) (d : Nat) (v2 : Int) (μ : Mu) : f_Army_total_27 z d v2 μ = some (v2, μ) := by
  show mE z d q_Army_total 27 [(9, 0), (9, 0), (0, v2), (9, 0)] [] μ = _
  rw [mE_bk (M := q_Army_total) k_Army_total.1 k_Army_total.2 [4, 27] 400]
  have key : ∀ (C : Nat → List zv → Mu → mR) (E : Nat → List zv → List zv → Mu → mR), mbk C E q_Army_total.1 q_Army_total.2.1 z q_Army_total.2.2.2 [4, 27] 400 (zfind q_Army_total.2.2.2 27) [(9, 0), (9, 0), (0, v2), (9, 0)] [] μ = some (v2, μ) := by
    intro C E
    rfl
  exact key _ _
def g_Army_mostAlike_4 (E : Nat → List zv → List zv → Mu → mR) (o0 : Nat) (v1 : Int) (v2 : Int) (v3 : Int) (μ : Mu) : mR := E 4 [(2, ((o0 : Nat) : Int)), (0, v1), (0, v2), (0, v3)] [] μ
noncomputable def f_Army_mostAlike_4 (z : zZ) (d : Nat) (o0 : Nat) (v1 : Int) (v2 : Int) (v3 : Int) (μ : Mu) : mR := g_Army_mostAlike_4 (fun pc ls st μ => mE z d q_Army_mostAlike pc ls st μ) o0 v1 v2 v3 μ
def g_Army_mostAlike_29 (E : Nat → List zv → List zv → Mu → mR) (v2 : Int) (μ : Mu) : mR := E 29 [(9, 0), (9, 0), (0, v2), (9, 0)] [] μ
noncomputable def f_Army_mostAlike_29 (z : zZ) (d : Nat) (v2 : Int) (μ : Mu) : mR := g_Army_mostAlike_29 (fun pc ls st μ => mE z d q_Army_mostAlike pc ls st μ) v2 μ
theorem k_Army_mostAlike : zprK q_Army_mostAlike.2.2.2 = true ∧ zinc q_Army_mostAlike.2.2.2 = true := by decide +kernel
set_option maxRecDepth 100000 in
theorem c_Army_mostAlike (z : zZ) (d : Nat) (o0 : Nat) (v1 : Int) (μ : Mu) (ho0 : o0 = 4 ∨ o0 = 13) : mC z (d + 1) 166 [(2, ((o0 : Nat) : Int)), (0, v1)] μ = f_Army_mostAlike_4 z d o0 v1 0 0 μ := by
  rw [mC_succ q_Army_mostAlike rfl rfl rfl]
  rw [mE_bk (M := q_Army_mostAlike) k_Army_mostAlike.1 k_Army_mostAlike.2 [4, 29] 400]
  have key : ∀ (C : Nat → List zv → Mu → mR) (E : Nat → List zv → List zv → Mu → mR), mbk C E q_Army_mostAlike.1 q_Army_mostAlike.2.1 z q_Army_mostAlike.2.2.2 [4, 29] 400 (zfind q_Army_mostAlike.2.2.2 0) (zentry q_Army_mostAlike.2.2.1 [(2, ((o0 : Nat) : Int)), (0, v1)]) [] μ = g_Army_mostAlike_4 E o0 v1 0 0 μ := by
    intro C E
    rcases ho0 with rfl | rfl <;> (rfl)
  exact key _ _
set_option maxRecDepth 100000 in
theorem e_Army_mostAlike_4 (z : zZ) (d : Nat) (o0 : Nat) (v1 : Int) (v2 : Int) (v3 : Int) (μ : Mu) (ho0 : o0 = 4 ∨ o0 = 13) : f_Army_mostAlike_4 z d o0 v1 v2 v3 μ = bif decide (12 ≤ v3) then (f_Army_mostAlike_29 z d v2 μ) else (gI (zw (v1 + v3)) 36 (f_Army_mostAlike_4 z d o0 v1 (if v2 < μ (o0 + 3) ((zw (v1 + v3)).toNat) then μ (o0 + 3) ((zw (v1 + v3)).toNat) else v2) (zw (v3 + 1)) μ)) := by
  show mE z d q_Army_mostAlike 4 [(2, ((o0 : Nat) : Int)), (0, v1), (0, v2), (0, v3)] [] μ = _
  rw [mE_bk (M := q_Army_mostAlike) k_Army_mostAlike.1 k_Army_mostAlike.2 [4, 29] 400]
  have key : ∀ (C : Nat → List zv → Mu → mR) (E : Nat → List zv → List zv → Mu → mR), mbk C E q_Army_mostAlike.1 q_Army_mostAlike.2.1 z q_Army_mostAlike.2.2.2 [4, 29] 400 (zfind q_Army_mostAlike.2.2.2 4) [(2, ((o0 : Nat) : Int)), (0, v1), (0, v2), (0, v3)] [] μ = bif decide (12 ≤ v3) then (g_Army_mostAlike_29 E v2 μ) else (gI (zw (v1 + v3)) 36 (g_Army_mostAlike_4 E o0 v1 (if v2 < μ (o0 + 3) ((zw (v1 + v3)).toNat) then μ (o0 + 3) ((zw (v1 + v3)).toNat) else v2) (zw (v3 + 1)) μ)) := by
    intro C E
    rcases ho0 with rfl | rfl <;> (rfl)
  exact key _ _
set_option maxRecDepth 100000 in
theorem e_Army_mostAlike_29 (z : zZ) (d : Nat) (v2 : Int) (μ : Mu) : f_Army_mostAlike_29 z d v2 μ = some (v2, μ) := by
  show mE z d q_Army_mostAlike 29 [(9, 0), (9, 0), (0, v2), (9, 0)] [] μ = _
  rw [mE_bk (M := q_Army_mostAlike) k_Army_mostAlike.1 k_Army_mostAlike.2 [4, 29] 400]
  have key : ∀ (C : Nat → List zv → Mu → mR) (E : Nat → List zv → List zv → Mu → mR), mbk C E q_Army_mostAlike.1 q_Army_mostAlike.2.1 z q_Army_mostAlike.2.2.2 [4, 29] 400 (zfind q_Army_mostAlike.2.2.2 29) [(9, 0), (9, 0), (0, v2), (9, 0)] [] μ = some (v2, μ) := by
    intro C E
    rfl
  exact key _ _
def g_Army_letterInLine_5 (E : Nat → List zv → List zv → Mu → mR) (o0 : Nat) (v1 : Int) (v2 : Int) (v3 : Int) (v4 : Int) (μ : Mu) : mR := E 5 [(2, ((o0 : Nat) : Int)), (0, v1), (0, v2), (0, v3), (0, v4)] [] μ
noncomputable def f_Army_letterInLine_5 (z : zZ) (d : Nat) (o0 : Nat) (v1 : Int) (v2 : Int) (v3 : Int) (v4 : Int) (μ : Mu) : mR := g_Army_letterInLine_5 (fun pc ls st μ => mE z d q_Army_letterInLine pc ls st μ) o0 v1 v2 v3 v4 μ
def g_Army_letterInLine_42 (E : Nat → List zv → List zv → Mu → mR) (o0 : Nat) (v1 : Int) (v2 : Int) (v3 : Int) (v4 : Int) (μ : Mu) : mR := E 42 [(2, ((o0 : Nat) : Int)), (0, v1), (0, v2), (0, v3), (0, v4)] [] μ
noncomputable def f_Army_letterInLine_42 (z : zZ) (d : Nat) (o0 : Nat) (v1 : Int) (v2 : Int) (v3 : Int) (v4 : Int) (μ : Mu) : mR := g_Army_letterInLine_42 (fun pc ls st μ => mE z d q_Army_letterInLine pc ls st μ) o0 v1 v2 v3 v4 μ
def g_Army_letterInLine_48 (E : Nat → List zv → List zv → Mu → mR) (μ : Mu) : mR := E 48 [(9, 0), (9, 0), (9, 0), (9, 0), (9, 0)] [] μ
noncomputable def f_Army_letterInLine_48 (z : zZ) (d : Nat) (μ : Mu) : mR := g_Army_letterInLine_48 (fun pc ls st μ => mE z d q_Army_letterInLine pc ls st μ) μ
theorem k_Army_letterInLine : zprK q_Army_letterInLine.2.2.2 = true ∧ zinc q_Army_letterInLine.2.2.2 = true := by decide +kernel
set_option maxRecDepth 100000 in
theorem c_Army_letterInLine (z : zZ) (d : Nat) (o0 : Nat) (v1 : Int) (v2 : Int) (μ : Mu) (ho0 : o0 = 4 ∨ o0 = 13) : mC z (d + 1) 167 [(2, ((o0 : Nat) : Int)), (0, v1), (0, v2)] μ = f_Army_letterInLine_5 z d o0 v1 v2 0 0 μ := by
  rw [mC_succ q_Army_letterInLine rfl rfl rfl]
  rw [mE_bk (M := q_Army_letterInLine) k_Army_letterInLine.1 k_Army_letterInLine.2 [5, 42, 48] 400]
  have key : ∀ (C : Nat → List zv → Mu → mR) (E : Nat → List zv → List zv → Mu → mR), mbk C E q_Army_letterInLine.1 q_Army_letterInLine.2.1 z q_Army_letterInLine.2.2.2 [5, 42, 48] 400 (zfind q_Army_letterInLine.2.2.2 0) (zentry q_Army_letterInLine.2.2.1 [(2, ((o0 : Nat) : Int)), (0, v1), (0, v2)]) [] μ = g_Army_letterInLine_5 E o0 v1 v2 0 0 μ := by
    intro C E
    rcases ho0 with rfl | rfl <;> (rfl)
  exact key _ _
set_option maxRecDepth 100000 in
theorem e_Army_letterInLine_5 (z : zZ) (d : Nat) (o0 : Nat) (v1 : Int) (v2 : Int) (v3 : Int) (v4 : Int) (μ : Mu) (ho0 : o0 = 4 ∨ o0 = 13) : f_Army_letterInLine_5 z d o0 v1 v2 v3 v4 μ = bif decide (12 ≤ v4) then (f_Army_letterInLine_48 z d μ) else (gI v4 12 (gI (zw (v1 + (μ (o0 + 1) v4.toNat))) 36 (bif decide (zw (v3 + (μ (o0 + 3) ((zw (v1 + (μ (o0 + 1) v4.toNat))).toNat))) ≤ v2) then (f_Army_letterInLine_42 z d o0 v1 v2 (zw (v3 + (μ (o0 + 3) ((zw (v1 + (μ (o0 + 1) v4.toNat))).toNat)))) v4 μ) else (gI v4 12 (some (μ (o0 + 1) v4.toNat, μ)))))) := by
  show mE z d q_Army_letterInLine 5 [(2, ((o0 : Nat) : Int)), (0, v1), (0, v2), (0, v3), (0, v4)] [] μ = _
  rw [mE_bk (M := q_Army_letterInLine) k_Army_letterInLine.1 k_Army_letterInLine.2 [5, 42, 48] 400]
  have key : ∀ (C : Nat → List zv → Mu → mR) (E : Nat → List zv → List zv → Mu → mR), mbk C E q_Army_letterInLine.1 q_Army_letterInLine.2.1 z q_Army_letterInLine.2.2.2 [5, 42, 48] 400 (zfind q_Army_letterInLine.2.2.2 5) [(2, ((o0 : Nat) : Int)), (0, v1), (0, v2), (0, v3), (0, v4)] [] μ = bif decide (12 ≤ v4) then (g_Army_letterInLine_48 E μ) else (gI v4 12 (gI (zw (v1 + (μ (o0 + 1) v4.toNat))) 36 (bif decide (zw (v3 + (μ (o0 + 3) ((zw (v1 + (μ (o0 + 1) v4.toNat))).toNat))) ≤ v2) then (g_Army_letterInLine_42 E o0 v1 v2 (zw (v3 + (μ (o0 + 3) ((zw (v1 + (μ (o0 + 1) v4.toNat))).toNat)))) v4 μ) else (gI v4 12 (some (μ (o0 + 1) v4.toNat, μ)))))) := by
    intro C E
    rcases ho0 with rfl | rfl <;> (rfl)
  exact key _ _
set_option maxRecDepth 100000 in
theorem e_Army_letterInLine_48 (z : zZ) (d : Nat) (μ : Mu) : f_Army_letterInLine_48 z d μ = some ((-1), μ) := by
  show mE z d q_Army_letterInLine 48 [(9, 0), (9, 0), (9, 0), (9, 0), (9, 0)] [] μ = _
  rw [mE_bk (M := q_Army_letterInLine) k_Army_letterInLine.1 k_Army_letterInLine.2 [5, 42, 48] 400]
  have key : ∀ (C : Nat → List zv → Mu → mR) (E : Nat → List zv → List zv → Mu → mR), mbk C E q_Army_letterInLine.1 q_Army_letterInLine.2.1 z q_Army_letterInLine.2.2.2 [5, 42, 48] 400 (zfind q_Army_letterInLine.2.2.2 48) [(9, 0), (9, 0), (9, 0), (9, 0), (9, 0)] [] μ = some ((-1), μ) := by
    intro C E
    rfl
  exact key _ _
set_option maxRecDepth 100000 in
theorem e_Army_letterInLine_42 (z : zZ) (d : Nat) (o0 : Nat) (v1 : Int) (v2 : Int) (v3 : Int) (v4 : Int) (μ : Mu) (ho0 : o0 = 4 ∨ o0 = 13) : f_Army_letterInLine_42 z d o0 v1 v2 v3 v4 μ = f_Army_letterInLine_5 z d o0 v1 v2 v3 (zw (v4 + 1)) μ := by
  show mE z d q_Army_letterInLine 42 [(2, ((o0 : Nat) : Int)), (0, v1), (0, v2), (0, v3), (0, v4)] [] μ = _
  rw [mE_bk (M := q_Army_letterInLine) k_Army_letterInLine.1 k_Army_letterInLine.2 [5, 42, 48] 400]
  have key : ∀ (C : Nat → List zv → Mu → mR) (E : Nat → List zv → List zv → Mu → mR), mbk C E q_Army_letterInLine.1 q_Army_letterInLine.2.1 z q_Army_letterInLine.2.2.2 [5, 42, 48] 400 (zfind q_Army_letterInLine.2.2.2 42) [(2, ((o0 : Nat) : Int)), (0, v1), (0, v2), (0, v3), (0, v4)] [] μ = g_Army_letterInLine_5 E o0 v1 v2 v3 (zw (v4 + 1)) μ := by
    intro C E
    rcases ho0 with rfl | rfl <;> (rfl)
  exact key _ _
