def g_M_isFirst_38 (E : Nat → List zv → List zv → Mu → mR) (μ : Mu) : mR := E 38 [(9, 0), (9, 0), (9, 0), (9, 0), (9, 0)] [] μ
noncomputable def f_M_isFirst_38 (z : zZ) (d : Nat) (μ : Mu) : mR := g_M_isFirst_38 (fun pc ls st μ => mE z d q_M_isFirst pc ls st μ) μ
def g_M_isFirst_40 (E : Nat → List zv → List zv → Mu → mR) (v1 : Int) (v2 : Int) (v3 : Int) (v4 : Int) (μ : Mu) : mR := E 40 [(2, 86), (0, v1), (0, v2), (0, v3), (0, v4)] [] μ
noncomputable def f_M_isFirst_40 (z : zZ) (d : Nat) (v1 : Int) (v2 : Int) (v3 : Int) (v4 : Int) (μ : Mu) : mR := g_M_isFirst_40 (fun pc ls st μ => mE z d q_M_isFirst pc ls st μ) v1 v2 v3 v4 μ
def g_M_isFirst_67 (E : Nat → List zv → List zv → Mu → mR) (v3 : Int) (μ : Mu) : mR := E 67 [(2, 86), (9, 0), (9, 0), (0, v3), (9, 0)] [] μ
noncomputable def f_M_isFirst_67 (z : zZ) (d : Nat) (v3 : Int) (μ : Mu) : mR := g_M_isFirst_67 (fun pc ls st μ => mE z d q_M_isFirst pc ls st μ) v3 μ
theorem k_M_isFirst : zprK q_M_isFirst.2.2.2 = true ∧ zinc q_M_isFirst.2.2.2 = true := by decide +kernel
set_option maxRecDepth 100000 in
theorem c_M_isFirst (z : zZ) (d : Nat) (v1 : Int) (v2 : Int) (v3 : Int) (v4 : Int) (μ : Mu) : mC z (d + 1) 296 [(2, 86), (0, v1), (0, v2), (0, v3), (0, v4)] μ = gI (zw ((zw (24 * v3)) + v4)) 192 (bif decide (v2 < μ 136 ((zw ((zw (24 * v3)) + v4)).toNat)) then (f_M_isFirst_38 z d μ) else (gI v4 24 (bif decide (μ 137 v4.toNat = (-1)) then (f_M_isFirst_40 z d v1 v2 v3 v4 μ) else (gI v4 24 (bif decide (v3 ≤ μ 137 v4.toNat) then (f_M_isFirst_40 z d v1 v2 v3 v4 μ) else (f_M_isFirst_38 z d μ)))))) := by
  rw [mC_succ q_M_isFirst rfl rfl rfl]
  rw [mE_bk (M := q_M_isFirst) k_M_isFirst.1 k_M_isFirst.2 [38, 40, 67] 400]
  have key : ∀ (C : Nat → List zv → Mu → mR) (E : Nat → List zv → List zv → Mu → mR), mbk C E q_M_isFirst.1 q_M_isFirst.2.1 z q_M_isFirst.2.2.2 [38, 40, 67] 400 (zfind q_M_isFirst.2.2.2 0) (zentry q_M_isFirst.2.2.1 [(2, 86), (0, v1), (0, v2), (0, v3), (0, v4)]) [] μ = gI (zw ((zw (24 * v3)) + v4)) 192 (bif decide (v2 < μ 136 ((zw ((zw (24 * v3)) + v4)).toNat)) then (g_M_isFirst_38 E μ) else (gI v4 24 (bif decide (μ 137 v4.toNat = (-1)) then (g_M_isFirst_40 E v1 v2 v3 v4 μ) else (gI v4 24 (bif decide (v3 ≤ μ 137 v4.toNat) then (g_M_isFirst_40 E v1 v2 v3 v4 μ) else (g_M_isFirst_38 E μ)))))) := by
    intro C E
    rfl
  exact key _ _
set_option maxRecDepth 100000 in
theorem e_M_isFirst_38 (z : zZ) (d : Nat) (μ : Mu) : f_M_isFirst_38 z d μ = some (0, μ) := by
  show mE z d q_M_isFirst 38 [(9, 0), (9, 0), (9, 0), (9, 0), (9, 0)] [] μ = _
  rw [mE_bk (M := q_M_isFirst) k_M_isFirst.1 k_M_isFirst.2 [38, 40, 67] 400]
  have key : ∀ (C : Nat → List zv → Mu → mR) (E : Nat → List zv → List zv → Mu → mR), mbk C E q_M_isFirst.1 q_M_isFirst.2.1 z q_M_isFirst.2.2.2 [38, 40, 67] 400 (zfind q_M_isFirst.2.2.2 38) [(9, 0), (9, 0), (9, 0), (9, 0), (9, 0)] [] μ = some (0, μ) := by
    intro C E
    rfl
  exact key _ _
set_option maxRecDepth 100000 in
theorem e_M_isFirst_40 (z : zZ) (d : Nat) (v1 : Int) (v2 : Int) (v3 : Int) (v4 : Int) (μ : Mu) : f_M_isFirst_40 z d v1 v2 v3 v4 μ = (mC z d 297 [(2, 86), (0, v3)] μ).bind fun q1 => (gI v4 24 ((mC z d 293 [(2, 86), (0, v1), (0, v2), (0, zw (v3 + 1))] (zup q1.2 137 v4.toNat v3)).bind fun q2 => (bif decide (q2.1 = 0) then (f_M_isFirst_67 z d v3 q2.2) else (some (1, q2.2))))) := by
  show mE z d q_M_isFirst 40 [(2, 86), (0, v1), (0, v2), (0, v3), (0, v4)] [] μ = _
  rw [mE_bk (M := q_M_isFirst) k_M_isFirst.1 k_M_isFirst.2 [38, 40, 67] 400]
  have key : ∀ (C : Nat → List zv → Mu → mR) (E : Nat → List zv → List zv → Mu → mR), mbk C E q_M_isFirst.1 q_M_isFirst.2.1 z q_M_isFirst.2.2.2 [38, 40, 67] 400 (zfind q_M_isFirst.2.2.2 40) [(2, 86), (0, v1), (0, v2), (0, v3), (0, v4)] [] μ = (C 297 [(2, 86), (0, v3)] μ).bind fun q1 => (gI v4 24 ((C 293 [(2, 86), (0, v1), (0, v2), (0, zw (v3 + 1))] (zup q1.2 137 v4.toNat v3)).bind fun q2 => (bif decide (q2.1 = 0) then (g_M_isFirst_67 E v3 q2.2) else (some (1, q2.2))))) := by
    intro C E
    rfl
  exact key _ _
set_option maxRecDepth 100000 in
theorem e_M_isFirst_67 (z : zZ) (d : Nat) (v3 : Int) (μ : Mu) : f_M_isFirst_67 z d v3 μ = (mC z d 297 [(2, 86), (0, v3)] μ).bind fun q1 => (some (0, q1.2)) := by
  show mE z d q_M_isFirst 67 [(2, 86), (9, 0), (9, 0), (0, v3), (9, 0)] [] μ = _
  rw [mE_bk (M := q_M_isFirst) k_M_isFirst.1 k_M_isFirst.2 [38, 40, 67] 400]
  have key : ∀ (C : Nat → List zv → Mu → mR) (E : Nat → List zv → List zv → Mu → mR), mbk C E q_M_isFirst.1 q_M_isFirst.2.1 z q_M_isFirst.2.2.2 [38, 40, 67] 400 (zfind q_M_isFirst.2.2.2 67) [(2, 86), (9, 0), (9, 0), (0, v3), (9, 0)] [] μ = (C 297 [(2, 86), (0, v3)] μ).bind fun q1 => (some (0, q1.2)) := by
    intro C E
    rfl
  exact key _ _
def g_M_forgetsFrom_2 (E : Nat → List zv → List zv → Mu → mR) (v1 : Int) (v2 : Int) (μ : Mu) : mR := E 2 [(2, 86), (0, v1), (0, v2)] [] μ
noncomputable def f_M_forgetsFrom_2 (z : zZ) (d : Nat) (v1 : Int) (v2 : Int) (μ : Mu) : mR := g_M_forgetsFrom_2 (fun pc ls st μ => mE z d q_M_forgetsFrom pc ls st μ) v1 v2 μ
def g_M_forgetsFrom_25 (E : Nat → List zv → List zv → Mu → mR) (v1 : Int) (v2 : Int) (μ : Mu) : mR := E 25 [(2, 86), (0, v1), (0, v2)] [] μ
noncomputable def f_M_forgetsFrom_25 (z : zZ) (d : Nat) (v1 : Int) (v2 : Int) (μ : Mu) : mR := g_M_forgetsFrom_25 (fun pc ls st μ => mE z d q_M_forgetsFrom pc ls st μ) v1 v2 μ
theorem k_M_forgetsFrom : zprK q_M_forgetsFrom.2.2.2 = true ∧ zinc q_M_forgetsFrom.2.2.2 = true := by decide +kernel
set_option maxRecDepth 100000 in
theorem c_M_forgetsFrom (z : zZ) (d : Nat) (v1 : Int) (μ : Mu) : mC z (d + 1) 297 [(2, 86), (0, v1)] μ = f_M_forgetsFrom_2 z d v1 0 μ := by
  rw [mC_succ q_M_forgetsFrom rfl rfl rfl]
  rw [mE_bk (M := q_M_forgetsFrom) k_M_forgetsFrom.1 k_M_forgetsFrom.2 [2, 25] 400]
  have key : ∀ (C : Nat → List zv → Mu → mR) (E : Nat → List zv → List zv → Mu → mR), mbk C E q_M_forgetsFrom.1 q_M_forgetsFrom.2.1 z q_M_forgetsFrom.2.2.2 [2, 25] 400 (zfind q_M_forgetsFrom.2.2.2 0) (zentry q_M_forgetsFrom.2.2.1 [(2, 86), (0, v1)]) [] μ = g_M_forgetsFrom_2 E v1 0 μ := by
    intro C E
    rfl
  exact key _ _
set_option maxRecDepth 100000 in
theorem e_M_forgetsFrom_2 (z : zZ) (d : Nat) (v1 : Int) (v2 : Int) (μ : Mu) : f_M_forgetsFrom_2 z d v1 v2 μ = bif decide (24 ≤ v2) then (some (0, μ)) else (gI v2 24 (bif decide (μ 137 v2.toNat < v1) then (f_M_forgetsFrom_25 z d v1 v2 μ) else (gI v2 24 (f_M_forgetsFrom_25 z d v1 v2 (zup μ 137 v2.toNat ((-1))))))) := by
  show mE z d q_M_forgetsFrom 2 [(2, 86), (0, v1), (0, v2)] [] μ = _
  rw [mE_bk (M := q_M_forgetsFrom) k_M_forgetsFrom.1 k_M_forgetsFrom.2 [2, 25] 400]
  have key : ∀ (C : Nat → List zv → Mu → mR) (E : Nat → List zv → List zv → Mu → mR), mbk C E q_M_forgetsFrom.1 q_M_forgetsFrom.2.1 z q_M_forgetsFrom.2.2.2 [2, 25] 400 (zfind q_M_forgetsFrom.2.2.2 2) [(2, 86), (0, v1), (0, v2)] [] μ = bif decide (24 ≤ v2) then (some (0, μ)) else (gI v2 24 (bif decide (μ 137 v2.toNat < v1) then (g_M_forgetsFrom_25 E v1 v2 μ) else (gI v2 24 (g_M_forgetsFrom_25 E v1 v2 (zup μ 137 v2.toNat ((-1))))))) := by
    intro C E
    rfl
  exact key _ _
set_option maxRecDepth 100000 in
theorem e_M_forgetsFrom_25 (z : zZ) (d : Nat) (v1 : Int) (v2 : Int) (μ : Mu) : f_M_forgetsFrom_25 z d v1 v2 μ = f_M_forgetsFrom_2 z d v1 (zw (v2 + 1)) μ := by
  show mE z d q_M_forgetsFrom 25 [(2, 86), (0, v1), (0, v2)] [] μ = _
  rw [mE_bk (M := q_M_forgetsFrom) k_M_forgetsFrom.1 k_M_forgetsFrom.2 [2, 25] 400]
  have key : ∀ (C : Nat → List zv → Mu → mR) (E : Nat → List zv → List zv → Mu → mR), mbk C E q_M_forgetsFrom.1 q_M_forgetsFrom.2.1 z q_M_forgetsFrom.2.2.2 [2, 25] 400 (zfind q_M_forgetsFrom.2.2.2 25) [(2, 86), (0, v1), (0, v2)] [] μ = g_M_forgetsFrom_2 E v1 (zw (v2 + 1)) μ := by
    intro C E
    rfl
  exact key _ _
def g_M_dead_18 (E : Nat → List zv → List zv → Mu → mR) (v1 : Int) (v2 : Int) (v3 : Int) (v4 : Int) (v5 : Int) (μ : Mu) : mR := E 18 [(2, 86), (0, v1), (0, v2), (0, v3), (0, v4), (0, v5), (9, 0)] [] μ
noncomputable def f_M_dead_18 (z : zZ) (d : Nat) (v1 : Int) (v2 : Int) (v3 : Int) (v4 : Int) (v5 : Int) (μ : Mu) : mR := g_M_dead_18 (fun pc ls st μ => mE z d q_M_dead pc ls st μ) v1 v2 v3 v4 v5 μ
def g_M_dead_57 (E : Nat → List zv → List zv → Mu → mR) (v1 : Int) (v2 : Int) (v3 : Int) (v4 : Int) (v5 : Int) (v100 : Int) (μ : Mu) : mR := E 57 [(2, 86), (0, v1), (0, v2), (0, v3), (0, v4), (0, v5), (9, 0)] [(0, v100)] μ
noncomputable def f_M_dead_57 (z : zZ) (d : Nat) (v1 : Int) (v2 : Int) (v3 : Int) (v4 : Int) (v5 : Int) (v100 : Int) (μ : Mu) : mR := g_M_dead_57 (fun pc ls st μ => mE z d q_M_dead pc ls st μ) v1 v2 v3 v4 v5 v100 μ
def g_M_dead_90 (E : Nat → List zv → List zv → Mu → mR) (μ : Mu) : mR := E 90 [(9, 0), (9, 0), (9, 0), (9, 0), (9, 0), (9, 0), (9, 0)] [] μ
noncomputable def f_M_dead_90 (z : zZ) (d : Nat) (μ : Mu) : mR := g_M_dead_90 (fun pc ls st μ => mE z d q_M_dead pc ls st μ) μ
def g_M_dead_99 (E : Nat → List zv → List zv → Mu → mR) (v1 : Int) (v5 : Int) (v6 : Int) (μ : Mu) : mR := E 99 [(2, 86), (0, v1), (9, 0), (9, 0), (9, 0), (0, v5), (0, v6)] [] μ
noncomputable def f_M_dead_99 (z : zZ) (d : Nat) (v1 : Int) (v5 : Int) (v6 : Int) (μ : Mu) : mR := g_M_dead_99 (fun pc ls st μ => mE z d q_M_dead pc ls st μ) v1 v5 v6 μ
def g_M_dead_162 (E : Nat → List zv → List zv → Mu → mR) (v1 : Int) (v6 : Int) (μ : Mu) : mR := E 162 [(2, 86), (0, v1), (9, 0), (9, 0), (9, 0), (9, 0), (0, v6)] [] μ
noncomputable def f_M_dead_162 (z : zZ) (d : Nat) (v1 : Int) (v6 : Int) (μ : Mu) : mR := g_M_dead_162 (fun pc ls st μ => mE z d q_M_dead pc ls st μ) v1 v6 μ
theorem k_M_dead : zprK q_M_dead.2.2.2 = true ∧ zinc q_M_dead.2.2.2 = true := by decide +kernel
set_option maxRecDepth 100000 in
theorem c_M_dead (z : zZ) (d : Nat) (v1 : Int) (v2 : Int) (μ : Mu) : mC z (d + 1) 298 [(2, 86), (0, v1), (0, v2)] μ = (mC z d 185 [(0, v1)] μ).bind fun q1 => (bif !decide (q1.1 = 0) then (f_M_dead_18 z d v1 v2 0 0 0 q1.2) else (some ((-3), q1.2))) := by
  rw [mC_succ q_M_dead rfl rfl rfl]
  rw [mE_bk (M := q_M_dead) k_M_dead.1 k_M_dead.2 [18, 57, 90, 99, 162] 400]
  have key : ∀ (C : Nat → List zv → Mu → mR) (E : Nat → List zv → List zv → Mu → mR), mbk C E q_M_dead.1 q_M_dead.2.1 z q_M_dead.2.2.2 [18, 57, 90, 99, 162] 400 (zfind q_M_dead.2.2.2 0) (zentry q_M_dead.2.2.1 [(2, 86), (0, v1), (0, v2)]) [] μ = (C 185 [(0, v1)] μ).bind fun q1 => (bif !decide (q1.1 = 0) then (g_M_dead_18 E v1 v2 0 0 0 q1.2) else (some ((-3), q1.2))) := by
    intro C E
    rfl
  exact key _ _
set_option maxRecDepth 100000 in
theorem e_M_dead_18 (z : zZ) (d : Nat) (v1 : Int) (v2 : Int) (v3 : Int) (v4 : Int) (v5 : Int) (μ : Mu) : f_M_dead_18 z d v1 v2 v3 v4 v5 μ = bif decide (12 ≤ v5) then (bif !decide (v2 = (-1)) then (bif !decide (v2 = (-2)) then (bif decide (v2 < 0) then (f_M_dead_90 z d μ) else (bif decide (v2 < v3) then (f_M_dead_99 z d v1 v2 0 μ) else (f_M_dead_90 z d μ))) else (some (v4, μ))) else (some (v3, μ))) else (gI (zw ((zw (12 * v1)) + v5)) 24 (gI (zw ((zw (12 * v1)) + v5)) 24 ((mC z d 299 [(0, v4), (0, μ 91 ((zw ((zw (12 * v1)) + v5)).toNat))] μ).bind fun q1 => (f_M_dead_57 z d v1 v2 (zw (v3 + (μ 91 ((zw ((zw (12 * v1)) + v5)).toNat)))) v4 v5 q1.1 q1.2)))) := by
  show mE z d q_M_dead 18 [(2, 86), (0, v1), (0, v2), (0, v3), (0, v4), (0, v5), (9, 0)] [] μ = _
  rw [mE_bk (M := q_M_dead) k_M_dead.1 k_M_dead.2 [18, 57, 90, 99, 162] 400]
  have key : ∀ (C : Nat → List zv → Mu → mR) (E : Nat → List zv → List zv → Mu → mR), mbk C E q_M_dead.1 q_M_dead.2.1 z q_M_dead.2.2.2 [18, 57, 90, 99, 162] 400 (zfind q_M_dead.2.2.2 18) [(2, 86), (0, v1), (0, v2), (0, v3), (0, v4), (0, v5), (9, 0)] [] μ = bif decide (12 ≤ v5) then (bif !decide (v2 = (-1)) then (bif !decide (v2 = (-2)) then (bif decide (v2 < 0) then (g_M_dead_90 E μ) else (bif decide (v2 < v3) then (g_M_dead_99 E v1 v2 0 μ) else (g_M_dead_90 E μ))) else (some (v4, μ))) else (some (v3, μ))) else (gI (zw ((zw (12 * v1)) + v5)) 24 (gI (zw ((zw (12 * v1)) + v5)) 24 ((C 299 [(0, v4), (0, μ 91 ((zw ((zw (12 * v1)) + v5)).toNat))] μ).bind fun q1 => (g_M_dead_57 E v1 v2 (zw (v3 + (μ 91 ((zw ((zw (12 * v1)) + v5)).toNat)))) v4 v5 q1.1 q1.2)))) := by
    intro C E
    rfl
  exact key _ _
set_option maxRecDepth 100000 in
theorem e_M_dead_90 (z : zZ) (d : Nat) (μ : Mu) : f_M_dead_90 z d μ = some ((-3), μ) := by
  show mE z d q_M_dead 90 [(9, 0), (9, 0), (9, 0), (9, 0), (9, 0), (9, 0), (9, 0)] [] μ = _
  rw [mE_bk (M := q_M_dead) k_M_dead.1 k_M_dead.2 [18, 57, 90, 99, 162] 400]
  have key : ∀ (C : Nat → List zv → Mu → mR) (E : Nat → List zv → List zv → Mu → mR), mbk C E q_M_dead.1 q_M_dead.2.1 z q_M_dead.2.2.2 [18, 57, 90, 99, 162] 400 (zfind q_M_dead.2.2.2 90) [(9, 0), (9, 0), (9, 0), (9, 0), (9, 0), (9, 0), (9, 0)] [] μ = some ((-3), μ) := by
    intro C E
    rfl
  exact key _ _
set_option maxRecDepth 100000 in
theorem e_M_dead_99 (z : zZ) (d : Nat) (v1 : Int) (v5 : Int) (v6 : Int) (μ : Mu) : f_M_dead_99 z d v1 v5 v6 μ = gI (zw ((zw (12 * v1)) + v6)) 24 (gI (zw ((zw (12 * v1)) + (μ 88 ((zw ((zw (12 * v1)) + v6)).toNat)))) 24 (bif decide (v5 < μ 91 ((zw ((zw (12 * v1)) + (μ 88 ((zw ((zw (12 * v1)) + v6)).toNat)))).toNat)) then (f_M_dead_162 z d v1 v6 μ) else (gI (zw ((zw (12 * v1)) + v6)) 24 (gI (zw ((zw (12 * v1)) + (μ 88 ((zw ((zw (12 * v1)) + v6)).toNat)))) 24 (f_M_dead_99 z d v1 (zw (v5 - (μ 91 ((zw ((zw (12 * v1)) + (μ 88 ((zw ((zw (12 * v1)) + v6)).toNat)))).toNat)))) (zw (v6 + 1)) μ))))) := by
  show mE z d q_M_dead 99 [(2, 86), (0, v1), (9, 0), (9, 0), (9, 0), (0, v5), (0, v6)] [] μ = _
  rw [mE_bk (M := q_M_dead) k_M_dead.1 k_M_dead.2 [18, 57, 90, 99, 162] 400]
  have key : ∀ (C : Nat → List zv → Mu → mR) (E : Nat → List zv → List zv → Mu → mR), mbk C E q_M_dead.1 q_M_dead.2.1 z q_M_dead.2.2.2 [18, 57, 90, 99, 162] 400 (zfind q_M_dead.2.2.2 99) [(2, 86), (0, v1), (9, 0), (9, 0), (9, 0), (0, v5), (0, v6)] [] μ = gI (zw ((zw (12 * v1)) + v6)) 24 (gI (zw ((zw (12 * v1)) + (μ 88 ((zw ((zw (12 * v1)) + v6)).toNat)))) 24 (bif decide (v5 < μ 91 ((zw ((zw (12 * v1)) + (μ 88 ((zw ((zw (12 * v1)) + v6)).toNat)))).toNat)) then (g_M_dead_162 E v1 v6 μ) else (gI (zw ((zw (12 * v1)) + v6)) 24 (gI (zw ((zw (12 * v1)) + (μ 88 ((zw ((zw (12 * v1)) + v6)).toNat)))) 24 (g_M_dead_99 E v1 (zw (v5 - (μ 91 ((zw ((zw (12 * v1)) + (μ 88 ((zw ((zw (12 * v1)) + v6)).toNat)))).toNat)))) (zw (v6 + 1)) μ))))) := by
    intro C E
    rfl
  exact key _ _
set_option maxRecDepth 100000 in
theorem e_M_dead_57 (z : zZ) (d : Nat) (v1 : Int) (v2 : Int) (v3 : Int) (v4 : Int) (v5 : Int) (v100 : Int) (μ : Mu) : f_M_dead_57 z d v1 v2 v3 v4 v5 v100 μ = f_M_dead_18 z d v1 v2 v3 v100 (zw (v5 + 1)) μ := by
  show mE z d q_M_dead 57 [(2, 86), (0, v1), (0, v2), (0, v3), (0, v4), (0, v5), (9, 0)] [(0, v100)] μ = _
  rw [mE_bk (M := q_M_dead) k_M_dead.1 k_M_dead.2 [18, 57, 90, 99, 162] 400]
  have key : ∀ (C : Nat → List zv → Mu → mR) (E : Nat → List zv → List zv → Mu → mR), mbk C E q_M_dead.1 q_M_dead.2.1 z q_M_dead.2.2.2 [18, 57, 90, 99, 162] 400 (zfind q_M_dead.2.2.2 57) [(2, 86), (0, v1), (0, v2), (0, v3), (0, v4), (0, v5), (9, 0)] [(0, v100)] μ = g_M_dead_18 E v1 v2 v3 v100 (zw (v5 + 1)) μ := by
    intro C E
    rfl
  exact key _ _
set_option maxRecDepth 100000 in
theorem e_M_dead_162 (z : zZ) (d : Nat) (v1 : Int) (v6 : Int) (μ : Mu) : f_M_dead_162 z d v1 v6 μ = gI (zw ((zw (12 * v1)) + v6)) 24 (some (μ 88 ((zw ((zw (12 * v1)) + v6)).toNat), μ)) := by
  show mE z d q_M_dead 162 [(2, 86), (0, v1), (9, 0), (9, 0), (9, 0), (9, 0), (0, v6)] [] μ = _
  rw [mE_bk (M := q_M_dead) k_M_dead.1 k_M_dead.2 [18, 57, 90, 99, 162] 400]
  have key : ∀ (C : Nat → List zv → Mu → mR) (E : Nat → List zv → List zv → Mu → mR), mbk C E q_M_dead.1 q_M_dead.2.1 z q_M_dead.2.2.2 [18, 57, 90, 99, 162] 400 (zfind q_M_dead.2.2.2 162) [(2, 86), (0, v1), (9, 0), (9, 0), (9, 0), (9, 0), (0, v6)] [] μ = gI (zw ((zw (12 * v1)) + v6)) 24 (some (μ 88 ((zw ((zw (12 * v1)) + v6)).toNat), μ)) := by
    intro C E
    rfl
  exact key _ _
def g_M_max_10 (E : Nat → List zv → List zv → Mu → mR) (v100 : Int) (μ : Mu) : mR := E 10 [(9, 0), (9, 0)] [(0, v100)] μ
noncomputable def f_M_max_10 (z : zZ) (d : Nat) (v100 : Int) (μ : Mu) : mR := g_M_max_10 (fun pc ls st μ => mE z d q_M_max pc ls st μ) v100 μ
theorem k_M_max : zprK q_M_max.2.2.2 = true ∧ zinc q_M_max.2.2.2 = true := by decide +kernel
set_option maxRecDepth 100000 in
theorem c_M_max (z : zZ) (d : Nat) (v0 : Int) (v1 : Int) (μ : Mu) : mC z (d + 1) 299 [(0, v0), (0, v1)] μ = bif decide (v0 ≤ v1) then (f_M_max_10 z d v1 μ) else (f_M_max_10 z d v0 μ) := by
  rw [mC_succ q_M_max rfl rfl rfl]
  rw [mE_bk (M := q_M_max) k_M_max.1 k_M_max.2 [10] 400]
  have key : ∀ (C : Nat → List zv → Mu → mR) (E : Nat → List zv → List zv → Mu → mR), mbk C E q_M_max.1 q_M_max.2.1 z q_M_max.2.2.2 [10] 400 (zfind q_M_max.2.2.2 0) (zentry q_M_max.2.2.1 [(0, v0), (0, v1)]) [] μ = bif decide (v0 ≤ v1) then (g_M_max_10 E v1 μ) else (g_M_max_10 E v0 μ) := by
    intro C E
    rfl
  exact key _ _
set_option maxRecDepth 100000 in
theorem e_M_max_10 (z : zZ) (d : Nat) (v100 : Int) (μ : Mu) : f_M_max_10 z d v100 μ = some (v100, μ) := by
  show mE z d q_M_max 10 [(9, 0), (9, 0)] [(0, v100)] μ = _
  rw [mE_bk (M := q_M_max) k_M_max.1 k_M_max.2 [10] 400]
  have key : ∀ (C : Nat → List zv → Mu → mR) (E : Nat → List zv → List zv → Mu → mR), mbk C E q_M_max.1 q_M_max.2.1 z q_M_max.2.2.2 [10] 400 (zfind q_M_max.2.2.2 10) [(9, 0), (9, 0)] [(0, v100)] μ = some (v100, μ) := by
    intro C E
    rfl
  exact key _ _
theorem k_M_seed : zprK q_M_seed.2.2.2 = true ∧ zinc q_M_seed.2.2.2 = true := by decide +kernel
set_option maxRecDepth 100000 in
theorem c_M_seed (z : zZ) (d : Nat) (v1 : Int) (μ : Mu) : mC z (d + 1) 300 [(2, 86), (0, v1)] μ = (mC z d 183 [(0, v1), (0, 0), (0, 65535)] μ).bind fun q1 => (bif !decide (q1.1 = 0) then (some (1, zup q1.2 86 0 v1)) else (some (0, q1.2))) := by
  rw [mC_succ q_M_seed rfl rfl rfl]
  rw [mE_bk (M := q_M_seed) k_M_seed.1 k_M_seed.2 [] 400]
  have key : ∀ (C : Nat → List zv → Mu → mR) (E : Nat → List zv → List zv → Mu → mR), mbk C E q_M_seed.1 q_M_seed.2.1 z q_M_seed.2.2.2 [] 400 (zfind q_M_seed.2.2.2 0) (zentry q_M_seed.2.2.1 [(2, 86), (0, v1)]) [] μ = (C 183 [(0, v1), (0, 0), (0, 65535)] μ).bind fun q1 => (bif !decide (q1.1 = 0) then (some (1, zup q1.2 86 0 v1)) else (some (0, q1.2))) := by
    intro C E
    rfl
  exact key _ _
def g_M_keep_94 (E : Nat → List zv → List zv → Mu → mR) (μ : Mu) : mR := E 94 [(2, 86)] [] μ
noncomputable def f_M_keep_94 (z : zZ) (d : Nat) (μ : Mu) : mR := g_M_keep_94 (fun pc ls st μ => mE z d q_M_keep pc ls st μ) μ
theorem k_M_keep : zprK q_M_keep.2.2.2 = true ∧ zinc q_M_keep.2.2.2 = true := by decide +kernel
set_option maxRecDepth 100000 in
theorem c_M_keep (z : zZ) (d : Nat) (μ : Mu) : mC z (d + 1) 301 [(2, 86)] μ = (mC z d 253 [(2, 90), (2, 140), (0, 24)] (zup (zup (zup (zup μ 86 76 1) 86 77 (μ 86 0)) 86 78 (μ 86 1)) 86 79 (μ 86 67))).bind fun q1 => ((mC z d 253 [(2, 91), (2, 141), (0, 24)] q1.2).bind fun q2 => ((mC z d 253 [(2, 92), (2, 142), (0, 24)] q2.2).bind fun q3 => ((mC z d 253 [(2, 128), (2, 146), (0, 24)] q3.2).bind fun q4 => ((mC z d 253 [(2, 129), (2, 147), (0, 24)] q4.2).bind fun q5 => (f_M_keep_94 z d q5.2))))) := by
  rw [mC_succ q_M_keep rfl rfl rfl]
  rw [mE_bk (M := q_M_keep) k_M_keep.1 k_M_keep.2 [94] 400]
  have key : ∀ (C : Nat → List zv → Mu → mR) (E : Nat → List zv → List zv → Mu → mR), mbk C E q_M_keep.1 q_M_keep.2.1 z q_M_keep.2.2.2 [94] 400 (zfind q_M_keep.2.2.2 0) (zentry q_M_keep.2.2.1 [(2, 86)]) [] μ = (C 253 [(2, 90), (2, 140), (0, 24)] (zup (zup (zup (zup μ 86 76 1) 86 77 (μ 86 0)) 86 78 (μ 86 1)) 86 79 (μ 86 67))).bind fun q1 => ((C 253 [(2, 91), (2, 141), (0, 24)] q1.2).bind fun q2 => ((C 253 [(2, 92), (2, 142), (0, 24)] q2.2).bind fun q3 => ((C 253 [(2, 128), (2, 146), (0, 24)] q3.2).bind fun q4 => ((C 253 [(2, 129), (2, 147), (0, 24)] q4.2).bind fun q5 => (g_M_keep_94 E q5.2))))) := by
    intro C E
    rfl
  exact key _ _
set_option maxRecDepth 100000 in
theorem e_M_keep_94 (z : zZ) (d : Nat) (μ : Mu) : f_M_keep_94 z d μ = (mC z d 253 [(2, 132), (2, 148), (0, 24)] μ).bind fun q1 => ((mC z d 253 [(2, 133), (2, 149), (0, 24)] q1.2).bind fun q2 => ((mC z d 253 [(2, 134), (2, 150), (0, 24)] q2.2).bind fun q3 => ((mC z d 253 [(2, 135), (2, 151), (0, 24)] q3.2).bind fun q4 => ((mC z d 302 [(2, 86), (0, 0)] q4.2).bind fun q5 => ((mC z d 302 [(2, 86), (0, 1)] q5.2).bind fun q6 => ((mC z d 303 [(2, 86), (2, 90), (0, 0)] q6.2).bind fun q7 => ((mC z d 303 [(2, 86), (2, 90), (0, 1)] q7.2).bind fun q8 => (some (zw (q7.1 + q8.1), q8.2))))))))) := by
  show mE z d q_M_keep 94 [(2, 86)] [] μ = _
  rw [mE_bk (M := q_M_keep) k_M_keep.1 k_M_keep.2 [94] 400]
  have key : ∀ (C : Nat → List zv → Mu → mR) (E : Nat → List zv → List zv → Mu → mR), mbk C E q_M_keep.1 q_M_keep.2.1 z q_M_keep.2.2.2 [94] 400 (zfind q_M_keep.2.2.2 94) [(2, 86)] [] μ = (C 253 [(2, 132), (2, 148), (0, 24)] μ).bind fun q1 => ((C 253 [(2, 133), (2, 149), (0, 24)] q1.2).bind fun q2 => ((C 253 [(2, 134), (2, 150), (0, 24)] q2.2).bind fun q3 => ((C 253 [(2, 135), (2, 151), (0, 24)] q3.2).bind fun q4 => ((C 302 [(2, 86), (0, 0)] q4.2).bind fun q5 => ((C 302 [(2, 86), (0, 1)] q5.2).bind fun q6 => ((C 303 [(2, 86), (2, 90), (0, 0)] q6.2).bind fun q7 => ((C 303 [(2, 86), (2, 90), (0, 1)] q7.2).bind fun q8 => (some (zw (q7.1 + q8.1), q8.2))))))))) := by
    intro C E
    rfl
  exact key _ _
def g_M_keepsField_9 (E : Nat → List zv → List zv → Mu → mR) (v1 : Int) (v2 : Int) (μ : Mu) : mR := E 9 [(2, 86), (0, v1), (0, v2), (9, 0), (9, 0)] [] μ
noncomputable def f_M_keepsField_9 (z : zZ) (d : Nat) (v1 : Int) (v2 : Int) (μ : Mu) : mR := g_M_keepsField_9 (fun pc ls st μ => mE z d q_M_keepsField pc ls st μ) v1 v2 μ
def g_M_keepsField_48 (E : Nat → List zv → List zv → Mu → mR) (v1 : Int) (v2 : Int) (v3 : Int) (v4 : Int) (μ : Mu) : mR := E 48 [(2, 86), (0, v1), (0, v2), (0, v3), (0, v4)] [] μ
noncomputable def f_M_keepsField_48 (z : zZ) (d : Nat) (v1 : Int) (v2 : Int) (v3 : Int) (v4 : Int) (μ : Mu) : mR := g_M_keepsField_48 (fun pc ls st μ => mE z d q_M_keepsField pc ls st μ) v1 v2 v3 v4 μ
def g_M_keepsField_116 (E : Nat → List zv → List zv → Mu → mR) (v1 : Int) (v2 : Int) (μ : Mu) : mR := E 116 [(2, 86), (0, v1), (0, v2), (9, 0), (9, 0)] [] μ
noncomputable def f_M_keepsField_116 (z : zZ) (d : Nat) (v1 : Int) (v2 : Int) (μ : Mu) : mR := g_M_keepsField_116 (fun pc ls st μ => mE z d q_M_keepsField pc ls st μ) v1 v2 μ
theorem k_M_keepsField : zprK q_M_keepsField.2.2.2 = true ∧ zinc q_M_keepsField.2.2.2 = true := by decide +kernel
set_option maxRecDepth 100000 in
theorem c_M_keepsField (z : zZ) (d : Nat) (v1 : Int) (μ : Mu) : mC z (d + 1) 302 [(2, 86), (0, v1)] μ = gI v1 2 (f_M_keepsField_9 z d v1 0 (zup μ 143 v1.toNat 0)) := by
  rw [mC_succ q_M_keepsField rfl rfl rfl]
  rw [mE_bk (M := q_M_keepsField) k_M_keepsField.1 k_M_keepsField.2 [9, 48, 116] 400]
  have key : ∀ (C : Nat → List zv → Mu → mR) (E : Nat → List zv → List zv → Mu → mR), mbk C E q_M_keepsField.1 q_M_keepsField.2.1 z q_M_keepsField.2.2.2 [9, 48, 116] 400 (zfind q_M_keepsField.2.2.2 0) (zentry q_M_keepsField.2.2.1 [(2, 86), (0, v1)]) [] μ = gI v1 2 (g_M_keepsField_9 E v1 0 (zup μ 143 v1.toNat 0)) := by
    intro C E
    rfl
  exact key _ _
set_option maxRecDepth 100000 in
theorem e_M_keepsField_9 (z : zZ) (d : Nat) (v1 : Int) (v2 : Int) (μ : Mu) : f_M_keepsField_9 z d v1 v2 μ = (mC z d 198 [(2, 86), (0, v1)] μ).bind fun q1 => (bif decide (q1.1 ≤ v2) then (some (0, q1.2)) else ((mC z d 199 [(2, 86), (0, v1)] q1.2).bind fun q2 => ((mC z d 189 [(0, q2.1), (0, v2)] q2.2).bind fun q3 => (bif !decide (q3.1 = 0) then (gI v1 2 (f_M_keepsField_48 z d v1 v2 (zw ((zw (6 * v1)) + (q3.2 143 v1.toNat))) 0 q3.2)) else (f_M_keepsField_116 z d v1 v2 q3.2))))) := by
  show mE z d q_M_keepsField 9 [(2, 86), (0, v1), (0, v2), (9, 0), (9, 0)] [] μ = _
  rw [mE_bk (M := q_M_keepsField) k_M_keepsField.1 k_M_keepsField.2 [9, 48, 116] 400]
  have key : ∀ (C : Nat → List zv → Mu → mR) (E : Nat → List zv → List zv → Mu → mR), mbk C E q_M_keepsField.1 q_M_keepsField.2.1 z q_M_keepsField.2.2.2 [9, 48, 116] 400 (zfind q_M_keepsField.2.2.2 9) [(2, 86), (0, v1), (0, v2), (9, 0), (9, 0)] [] μ = (C 198 [(2, 86), (0, v1)] μ).bind fun q1 => (bif decide (q1.1 ≤ v2) then (some (0, q1.2)) else ((C 199 [(2, 86), (0, v1)] q1.2).bind fun q2 => ((C 189 [(0, q2.1), (0, v2)] q2.2).bind fun q3 => (bif !decide (q3.1 = 0) then (gI v1 2 (g_M_keepsField_48 E v1 v2 (zw ((zw (6 * v1)) + (q3.2 143 v1.toNat))) 0 q3.2)) else (g_M_keepsField_116 E v1 v2 q3.2))))) := by
    intro C E
    rfl
  exact key _ _
set_option maxRecDepth 100000 in
theorem e_M_keepsField_48 (z : zZ) (d : Nat) (v1 : Int) (v2 : Int) (v3 : Int) (v4 : Int) (μ : Mu) : f_M_keepsField_48 z d v1 v2 v3 v4 μ = (mC z d 202 [(2, 86), (0, v1), (0, v2)] μ).bind fun q1 => (bif decide (q1.1 ≤ v4) then ((mC z d 202 [(2, 86), (0, v1), (0, v2)] q1.2).bind fun q2 => (gI v3 12 (gI v1 2 (gI v1 2 (f_M_keepsField_116 z d v1 v2 (zup (zup q2.2 145 v3.toNat q2.1) 143 v1.toNat (zw ((q2.2 143 v1.toNat) + 1)))))))) else ((mC z d 201 [(0, v1), (0, v2)] q1.2).bind fun q3 => (gI (zw (q3.1 + v4)) 192 (gI (zw ((zw (8 * v3)) + v4)) 96 (f_M_keepsField_48 z d v1 v2 v3 (zw (v4 + 1)) (zup q3.2 144 ((zw ((zw (8 * v3)) + v4)).toNat) (q3.2 94 ((zw (q3.1 + v4)).toNat)))))))) := by
  show mE z d q_M_keepsField 48 [(2, 86), (0, v1), (0, v2), (0, v3), (0, v4)] [] μ = _
  rw [mE_bk (M := q_M_keepsField) k_M_keepsField.1 k_M_keepsField.2 [9, 48, 116] 400]
  have key : ∀ (C : Nat → List zv → Mu → mR) (E : Nat → List zv → List zv → Mu → mR), mbk C E q_M_keepsField.1 q_M_keepsField.2.1 z q_M_keepsField.2.2.2 [9, 48, 116] 400 (zfind q_M_keepsField.2.2.2 48) [(2, 86), (0, v1), (0, v2), (0, v3), (0, v4)] [] μ = (C 202 [(2, 86), (0, v1), (0, v2)] μ).bind fun q1 => (bif decide (q1.1 ≤ v4) then ((C 202 [(2, 86), (0, v1), (0, v2)] q1.2).bind fun q2 => (gI v3 12 (gI v1 2 (gI v1 2 (g_M_keepsField_116 E v1 v2 (zup (zup q2.2 145 v3.toNat q2.1) 143 v1.toNat (zw ((q2.2 143 v1.toNat) + 1)))))))) else ((C 201 [(0, v1), (0, v2)] q1.2).bind fun q3 => (gI (zw (q3.1 + v4)) 192 (gI (zw ((zw (8 * v3)) + v4)) 96 (g_M_keepsField_48 E v1 v2 v3 (zw (v4 + 1)) (zup q3.2 144 ((zw ((zw (8 * v3)) + v4)).toNat) (q3.2 94 ((zw (q3.1 + v4)).toNat)))))))) := by
    intro C E
    rfl
  exact key _ _
set_option maxRecDepth 100000 in
theorem e_M_keepsField_116 (z : zZ) (d : Nat) (v1 : Int) (v2 : Int) (μ : Mu) : f_M_keepsField_116 z d v1 v2 μ = f_M_keepsField_9 z d v1 (zw (v2 + 1)) μ := by
  show mE z d q_M_keepsField 116 [(2, 86), (0, v1), (0, v2), (9, 0), (9, 0)] [] μ = _
  rw [mE_bk (M := q_M_keepsField) k_M_keepsField.1 k_M_keepsField.2 [9, 48, 116] 400]
  have key : ∀ (C : Nat → List zv → Mu → mR) (E : Nat → List zv → List zv → Mu → mR), mbk C E q_M_keepsField.1 q_M_keepsField.2.1 z q_M_keepsField.2.2.2 [9, 48, 116] 400 (zfind q_M_keepsField.2.2.2 116) [(2, 86), (0, v1), (0, v2), (9, 0), (9, 0)] [] μ = g_M_keepsField_9 E v1 (zw (v2 + 1)) μ := by
    intro C E
    rfl
  exact key _ _
def g_M_sumOf_5 (E : Nat → List zv → List zv → Mu → mR) (v1 : Int) (v2 : Int) (v3 : Int) (v4 : Int) (μ : Mu) : mR := E 5 [(9, 0), (2, v1), (0, v2), (0, v3), (0, v4)] [] μ
noncomputable def f_M_sumOf_5 (z : zZ) (d : Nat) (v1 : Int) (v2 : Int) (v3 : Int) (v4 : Int) (μ : Mu) : mR := g_M_sumOf_5 (fun pc ls st μ => mE z d q_M_sumOf pc ls st μ) v1 v2 v3 v4 μ
theorem k_M_sumOf : zprK q_M_sumOf.2.2.2 = true ∧ zinc q_M_sumOf.2.2.2 = true := by decide +kernel
set_option maxRecDepth 100000 in
theorem c_M_sumOf (z : zZ) (d : Nat) (v1 : Int) (v2 : Int) (μ : Mu) : mC z (d + 1) 303 [(2, 86), (2, v1), (0, v2)] μ = f_M_sumOf_5 z d v1 v2 0 0 μ := by
  rw [mC_succ q_M_sumOf rfl rfl rfl]
  rw [mE_bk (M := q_M_sumOf) k_M_sumOf.1 k_M_sumOf.2 [5] 400]
  have key : ∀ (C : Nat → List zv → Mu → mR) (E : Nat → List zv → List zv → Mu → mR), mbk C E q_M_sumOf.1 q_M_sumOf.2.1 z q_M_sumOf.2.2.2 [5] 400 (zfind q_M_sumOf.2.2.2 0) (zentry q_M_sumOf.2.2.1 [(2, 86), (2, v1), (0, v2)]) [] μ = g_M_sumOf_5 E v1 v2 0 0 μ := by
    intro C E
    rfl
  exact key _ _
set_option maxRecDepth 100000 in
theorem e_M_sumOf_5 (z : zZ) (d : Nat) (v1 : Int) (v2 : Int) (v3 : Int) (v4 : Int) (μ : Mu) : f_M_sumOf_5 z d v1 v2 v3 v4 μ = bif decide (12 ≤ v4) then (some (v3, μ)) else (gA v1 (zw ((zw (12 * v2)) + v4)) (f_M_sumOf_5 z d v1 v2 (zw (v3 + (μ v1.toNat ((zw ((zw (12 * v2)) + v4)).toNat)))) (zw (v4 + 1)) μ)) := by
  show mE z d q_M_sumOf 5 [(9, 0), (2, v1), (0, v2), (0, v3), (0, v4)] [] μ = _
  rw [mE_bk (M := q_M_sumOf) k_M_sumOf.1 k_M_sumOf.2 [5] 400]
  have key : ∀ (C : Nat → List zv → Mu → mR) (E : Nat → List zv → List zv → Mu → mR), mbk C E q_M_sumOf.1 q_M_sumOf.2.1 z q_M_sumOf.2.2.2 [5] 400 (zfind q_M_sumOf.2.2.2 5) [(9, 0), (2, v1), (0, v2), (0, v3), (0, v4)] [] μ = bif decide (12 ≤ v4) then (some (v3, μ)) else (gA v1 (zw ((zw (12 * v2)) + v4)) (g_M_sumOf_5 E v1 v2 (zw (v3 + (μ v1.toNat ((zw ((zw (12 * v2)) + v4)).toNat)))) (zw (v4 + 1)) μ)) := by
    intro C E
    rfl
  exact key _ _
def g_M_undo_98 (E : Nat → List zv → List zv → Mu → mR) (μ : Mu) : mR := E 98 [(2, 86)] [] μ
noncomputable def f_M_undo_98 (z : zZ) (d : Nat) (μ : Mu) : mR := g_M_undo_98 (fun pc ls st μ => mE z d q_M_undo pc ls st μ) μ
theorem k_M_undo : zprK q_M_undo.2.2.2 = true ∧ zinc q_M_undo.2.2.2 = true := by decide +kernel
set_option maxRecDepth 100000 in
theorem c_M_undo (z : zZ) (d : Nat) (μ : Mu) : mC z (d + 1) 304 [(2, 86)] μ = bif !decide (μ 86 76 = 0) then ((mC z d 253 [(2, 140), (2, 90), (0, 24)] (zup (zup (zup μ 86 0 (μ 86 77)) 86 1 (μ 86 78)) 86 67 (μ 86 79))).bind fun q1 => ((mC z d 253 [(2, 141), (2, 91), (0, 24)] q1.2).bind fun q2 => ((mC z d 253 [(2, 142), (2, 92), (0, 24)] q2.2).bind fun q3 => ((mC z d 253 [(2, 146), (2, 128), (0, 24)] q3.2).bind fun q4 => ((mC z d 253 [(2, 147), (2, 129), (0, 24)] q4.2).bind fun q5 => (f_M_undo_98 z d q5.2)))))) else (some (0, μ)) := by
  rw [mC_succ q_M_undo rfl rfl rfl]
  rw [mE_bk (M := q_M_undo) k_M_undo.1 k_M_undo.2 [98] 400]
  have key : ∀ (C : Nat → List zv → Mu → mR) (E : Nat → List zv → List zv → Mu → mR), mbk C E q_M_undo.1 q_M_undo.2.1 z q_M_undo.2.2.2 [98] 400 (zfind q_M_undo.2.2.2 0) (zentry q_M_undo.2.2.1 [(2, 86)]) [] μ = bif !decide (μ 86 76 = 0) then ((C 253 [(2, 140), (2, 90), (0, 24)] (zup (zup (zup μ 86 0 (μ 86 77)) 86 1 (μ 86 78)) 86 67 (μ 86 79))).bind fun q1 => ((C 253 [(2, 141), (2, 91), (0, 24)] q1.2).bind fun q2 => ((C 253 [(2, 142), (2, 92), (0, 24)] q2.2).bind fun q3 => ((C 253 [(2, 146), (2, 128), (0, 24)] q3.2).bind fun q4 => ((C 253 [(2, 147), (2, 129), (0, 24)] q4.2).bind fun q5 => (g_M_undo_98 E q5.2)))))) else (some (0, μ)) := by
    intro C E
    rfl
  exact key _ _
set_option maxRecDepth 100000 in
theorem e_M_undo_98 (z : zZ) (d : Nat) (μ : Mu) : f_M_undo_98 z d μ = (mC z d 253 [(2, 148), (2, 132), (0, 24)] μ).bind fun q1 => ((mC z d 253 [(2, 149), (2, 133), (0, 24)] q1.2).bind fun q2 => ((mC z d 253 [(2, 150), (2, 134), (0, 24)] q2.2).bind fun q3 => ((mC z d 253 [(2, 151), (2, 135), (0, 24)] q3.2).bind fun q4 => ((mC z d 305 [(2, 86), (0, 0)] q4.2).bind fun q5 => ((mC z d 305 [(2, 86), (0, 1)] q5.2).bind fun q6 => (some (1, q6.2))))))) := by
  show mE z d q_M_undo 98 [(2, 86)] [] μ = _
  rw [mE_bk (M := q_M_undo) k_M_undo.1 k_M_undo.2 [98] 400]
  have key : ∀ (C : Nat → List zv → Mu → mR) (E : Nat → List zv → List zv → Mu → mR), mbk C E q_M_undo.1 q_M_undo.2.1 z q_M_undo.2.2.2 [98] 400 (zfind q_M_undo.2.2.2 98) [(2, 86)] [] μ = (C 253 [(2, 148), (2, 132), (0, 24)] μ).bind fun q1 => ((C 253 [(2, 149), (2, 133), (0, 24)] q1.2).bind fun q2 => ((C 253 [(2, 150), (2, 134), (0, 24)] q2.2).bind fun q3 => ((C 253 [(2, 151), (2, 135), (0, 24)] q3.2).bind fun q4 => ((C 305 [(2, 86), (0, 0)] q4.2).bind fun q5 => ((C 305 [(2, 86), (0, 1)] q5.2).bind fun q6 => (some (1, q6.2))))))) := by
    intro C E
    rfl
  exact key _ _
def g_M_undoesField_8 (E : Nat → List zv → List zv → Mu → mR) (v1 : Int) (v2 : Int) (μ : Mu) : mR := E 8 [(2, 86), (0, v1), (0, v2), (9, 0), (9, 0)] [] μ
noncomputable def f_M_undoesField_8 (z : zZ) (d : Nat) (v1 : Int) (v2 : Int) (μ : Mu) : mR := g_M_undoesField_8 (fun pc ls st μ => mE z d q_M_undoesField pc ls st μ) v1 v2 μ
def g_M_undoesField_63 (E : Nat → List zv → List zv → Mu → mR) (v1 : Int) (v2 : Int) (v3 : Int) (μ : Mu) : mR := E 63 [(2, 86), (0, v1), (0, v2), (0, v3), (9, 0)] [] μ
noncomputable def f_M_undoesField_63 (z : zZ) (d : Nat) (v1 : Int) (v2 : Int) (v3 : Int) (μ : Mu) : mR := g_M_undoesField_63 (fun pc ls st μ => mE z d q_M_undoesField pc ls st μ) v1 v2 v3 μ
def g_M_undoesField_82 (E : Nat → List zv → List zv → Mu → mR) (v1 : Int) (v2 : Int) (μ : Mu) : mR := E 82 [(2, 86), (0, v1), (0, v2), (9, 0), (9, 0)] [] μ
noncomputable def f_M_undoesField_82 (z : zZ) (d : Nat) (v1 : Int) (v2 : Int) (μ : Mu) : mR := g_M_undoesField_82 (fun pc ls st μ => mE z d q_M_undoesField pc ls st μ) v1 v2 μ
theorem k_M_undoesField : zprK q_M_undoesField.2.2.2 = true ∧ zinc q_M_undoesField.2.2.2 = true := by decide +kernel
set_option maxRecDepth 100000 in
theorem c_M_undoesField (z : zZ) (d : Nat) (v1 : Int) (μ : Mu) : mC z (d + 1) 305 [(2, 86), (0, v1)] μ = (mC z d 207 [(2, 86), (0, v1), (0, 0)] μ).bind fun q1 => (f_M_undoesField_8 z d v1 0 q1.2) := by
  rw [mC_succ q_M_undoesField rfl rfl rfl]
  rw [mE_bk (M := q_M_undoesField) k_M_undoesField.1 k_M_undoesField.2 [8, 63, 82] 400]
  have key : ∀ (C : Nat → List zv → Mu → mR) (E : Nat → List zv → List zv → Mu → mR), mbk C E q_M_undoesField.1 q_M_undoesField.2.1 z q_M_undoesField.2.2.2 [8, 63, 82] 400 (zfind q_M_undoesField.2.2.2 0) (zentry q_M_undoesField.2.2.1 [(2, 86), (0, v1)]) [] μ = (C 207 [(2, 86), (0, v1), (0, 0)] μ).bind fun q1 => (g_M_undoesField_8 E v1 0 q1.2) := by
    intro C E
    rfl
  exact key _ _
set_option maxRecDepth 100000 in
theorem e_M_undoesField_8 (z : zZ) (d : Nat) (v1 : Int) (v2 : Int) (μ : Mu) : f_M_undoesField_8 z d v1 v2 μ = gI v1 2 (bif decide (μ 143 v1.toNat ≤ v2) then (some (0, μ)) else (gI (zw ((zw (6 * v1)) + v2)) 12 ((mC z d 206 [(2, 86), (0, v1), (2, 144), (0, zw (8 * (zw ((zw (6 * v1)) + v2)))), (0, μ 145 ((zw ((zw (6 * v1)) + v2)).toNat))] μ).bind fun q1 => (bif decide (q1.1 = (-1)) then (f_M_undoesField_63 z d v1 v2 (zw ((zw (6 * v1)) + v2)) q1.2) else ((mC z d 238 [(2, 86), (0, v1), (0, q1.1), (0, 1)] q1.2).bind fun q2 => (f_M_undoesField_82 z d v1 v2 q2.2)))))) := by
  show mE z d q_M_undoesField 8 [(2, 86), (0, v1), (0, v2), (9, 0), (9, 0)] [] μ = _
  rw [mE_bk (M := q_M_undoesField) k_M_undoesField.1 k_M_undoesField.2 [8, 63, 82] 400]
  have key : ∀ (C : Nat → List zv → Mu → mR) (E : Nat → List zv → List zv → Mu → mR), mbk C E q_M_undoesField.1 q_M_undoesField.2.1 z q_M_undoesField.2.2.2 [8, 63, 82] 400 (zfind q_M_undoesField.2.2.2 8) [(2, 86), (0, v1), (0, v2), (9, 0), (9, 0)] [] μ = gI v1 2 (bif decide (μ 143 v1.toNat ≤ v2) then (some (0, μ)) else (gI (zw ((zw (6 * v1)) + v2)) 12 ((C 206 [(2, 86), (0, v1), (2, 144), (0, zw (8 * (zw ((zw (6 * v1)) + v2)))), (0, μ 145 ((zw ((zw (6 * v1)) + v2)).toNat))] μ).bind fun q1 => (bif decide (q1.1 = (-1)) then (g_M_undoesField_63 E v1 v2 (zw ((zw (6 * v1)) + v2)) q1.2) else ((C 238 [(2, 86), (0, v1), (0, q1.1), (0, 1)] q1.2).bind fun q2 => (g_M_undoesField_82 E v1 v2 q2.2)))))) := by
    intro C E
    rfl
  exact key _ _
set_option maxRecDepth 100000 in
theorem e_M_undoesField_63 (z : zZ) (d : Nat) (v1 : Int) (v2 : Int) (v3 : Int) (μ : Mu) : f_M_undoesField_63 z d v1 v2 v3 μ = gI v3 12 ((mC z d 203 [(2, 86), (0, v1), (2, 144), (0, zw (8 * v3)), (0, μ 145 v3.toNat)] μ).bind fun q1 => (f_M_undoesField_82 z d v1 v2 q1.2)) := by
  show mE z d q_M_undoesField 63 [(2, 86), (0, v1), (0, v2), (0, v3), (9, 0)] [] μ = _
  rw [mE_bk (M := q_M_undoesField) k_M_undoesField.1 k_M_undoesField.2 [8, 63, 82] 400]
  have key : ∀ (C : Nat → List zv → Mu → mR) (E : Nat → List zv → List zv → Mu → mR), mbk C E q_M_undoesField.1 q_M_undoesField.2.1 z q_M_undoesField.2.2.2 [8, 63, 82] 400 (zfind q_M_undoesField.2.2.2 63) [(2, 86), (0, v1), (0, v2), (0, v3), (9, 0)] [] μ = gI v3 12 ((C 203 [(2, 86), (0, v1), (2, 144), (0, zw (8 * v3)), (0, μ 145 v3.toNat)] μ).bind fun q1 => (g_M_undoesField_82 E v1 v2 q1.2)) := by
    intro C E
    rfl
  exact key _ _
set_option maxRecDepth 100000 in
theorem e_M_undoesField_82 (z : zZ) (d : Nat) (v1 : Int) (v2 : Int) (μ : Mu) : f_M_undoesField_82 z d v1 v2 μ = f_M_undoesField_8 z d v1 (zw (v2 + 1)) μ := by
  show mE z d q_M_undoesField 82 [(2, 86), (0, v1), (0, v2), (9, 0), (9, 0)] [] μ = _
  rw [mE_bk (M := q_M_undoesField) k_M_undoesField.1 k_M_undoesField.2 [8, 63, 82] 400]
  have key : ∀ (C : Nat → List zv → Mu → mR) (E : Nat → List zv → List zv → Mu → mR), mbk C E q_M_undoesField.1 q_M_undoesField.2.1 z q_M_undoesField.2.2.2 [8, 63, 82] 400 (zfind q_M_undoesField.2.2.2 82) [(2, 86), (0, v1), (0, v2), (9, 0), (9, 0)] [] μ = g_M_undoesField_8 E v1 (zw (v2 + 1)) μ := by
    intro C E
    rfl
  exact key _ _
