def g_W_countOfSide_7 (E : Nat → List zv → List zv → Mu → mR) (v1 : Int) (v101 : Int) (μ : Mu) : mR := E 7 [(2, 0), (0, v1), (9, 0)] [(0, v101), (2, 3)] μ
noncomputable def f_W_countOfSide_7 (z : zZ) (d : Nat) (v1 : Int) (v101 : Int) (μ : Mu) : mR := g_W_countOfSide_7 (fun pc ls st μ => mE z d q_W_countOfSide pc ls st μ) v1 v101 μ
def g_W_countOfSide_64 (E : Nat → List zv → List zv → Mu → mR) (o2 : Nat) (μ : Mu) : mR := E 64 [(9, 0), (9, 0), (2, ((o2 : Nat) : Int))] [] μ
noncomputable def f_W_countOfSide_64 (z : zZ) (d : Nat) (o2 : Nat) (μ : Mu) : mR := g_W_countOfSide_64 (fun pc ls st μ => mE z d q_W_countOfSide pc ls st μ) o2 μ
def g_W_countOfSide_69 (E : Nat → List zv → List zv → Mu → mR) (o2 : Nat) (μ : Mu) : mR := E 69 [(9, 0), (9, 0), (2, ((o2 : Nat) : Int))] [] μ
noncomputable def f_W_countOfSide_69 (z : zZ) (d : Nat) (o2 : Nat) (μ : Mu) : mR := g_W_countOfSide_69 (fun pc ls st μ => mE z d q_W_countOfSide pc ls st μ) o2 μ
def g_W_countOfSide_74 (E : Nat → List zv → List zv → Mu → mR) (o2 : Nat) (μ : Mu) : mR := E 74 [(9, 0), (9, 0), (2, ((o2 : Nat) : Int))] [] μ
noncomputable def f_W_countOfSide_74 (z : zZ) (d : Nat) (o2 : Nat) (μ : Mu) : mR := g_W_countOfSide_74 (fun pc ls st μ => mE z d q_W_countOfSide pc ls st μ) o2 μ
def g_W_countOfSide_80 (E : Nat → List zv → List zv → Mu → mR) (o2 : Nat) (μ : Mu) : mR := E 80 [(9, 0), (9, 0), (2, ((o2 : Nat) : Int))] [] μ
noncomputable def f_W_countOfSide_80 (z : zZ) (d : Nat) (o2 : Nat) (μ : Mu) : mR := g_W_countOfSide_80 (fun pc ls st μ => mE z d q_W_countOfSide pc ls st μ) o2 μ
def g_W_countOfSide_87 (E : Nat → List zv → List zv → Mu → mR) (o2 : Nat) (μ : Mu) : mR := E 87 [(9, 0), (9, 0), (2, ((o2 : Nat) : Int))] [] μ
noncomputable def f_W_countOfSide_87 (z : zZ) (d : Nat) (o2 : Nat) (μ : Mu) : mR := g_W_countOfSide_87 (fun pc ls st μ => mE z d q_W_countOfSide pc ls st μ) o2 μ
def g_W_countOfSide_94 (E : Nat → List zv → List zv → Mu → mR) (μ : Mu) : mR := E 94 [(9, 0), (9, 0), (9, 0)] [] μ
noncomputable def f_W_countOfSide_94 (z : zZ) (d : Nat) (μ : Mu) : mR := g_W_countOfSide_94 (fun pc ls st μ => mE z d q_W_countOfSide pc ls st μ) μ
theorem k_W_countOfSide : zprK q_W_countOfSide.2.2.2 = true ∧ zinc q_W_countOfSide.2.2.2 = true := by decide +kernel
set_option maxRecDepth 100000 in
theorem c_W_countOfSide (z : zZ) (d : Nat) (v1 : Int) (μ : Mu) : mC z (d + 1) 178 [(2, 0), (0, v1)] μ = f_W_countOfSide_7 z d v1 (z_and v1 1) μ := by
  rw [mC_succ q_W_countOfSide rfl rfl rfl]
  rw [mE_bk (M := q_W_countOfSide) k_W_countOfSide.1 k_W_countOfSide.2 [7, 64, 69, 74, 80, 87, 94] 400]
  have key : ∀ (C : Nat → List zv → Mu → mR) (E : Nat → List zv → List zv → Mu → mR), mbk C E q_W_countOfSide.1 q_W_countOfSide.2.1 z q_W_countOfSide.2.2.2 [7, 64, 69, 74, 80, 87, 94] 400 (zfind q_W_countOfSide.2.2.2 0) (zentry q_W_countOfSide.2.2.1 [(2, 0), (0, v1)]) [] μ = g_W_countOfSide_7 E v1 (z_and v1 1) μ := by
    intro C E
    rfl
  exact key _ _
set_option maxRecDepth 100000 in
theorem e_W_countOfSide_7 (z : zZ) (d : Nat) (v1 : Int) (v101 : Int) (μ : Mu) (hv101 : v101 = 0 ∨ v101 = 1) : f_W_countOfSide_7 z d v1 v101 μ = bif decide (z_and v1 ((-2)) = 10) then (f_W_countOfSide_64 z d (4 + 9 * v101.toNat) μ) else bif decide (z_and v1 ((-2)) = 11) then (f_W_countOfSide_94 z d μ) else bif decide (z_and v1 ((-2)) = 12) then (f_W_countOfSide_69 z d (4 + 9 * v101.toNat) μ) else bif decide (z_and v1 ((-2)) = 13) then (f_W_countOfSide_94 z d μ) else bif decide (z_and v1 ((-2)) = 14) then (f_W_countOfSide_74 z d (4 + 9 * v101.toNat) μ) else bif decide (z_and v1 ((-2)) = 15) then (f_W_countOfSide_94 z d μ) else bif decide (z_and v1 ((-2)) = 16) then (f_W_countOfSide_80 z d (4 + 9 * v101.toNat) μ) else bif decide (z_and v1 ((-2)) = 17) then (f_W_countOfSide_94 z d μ) else bif decide (z_and v1 ((-2)) = 18) then (f_W_countOfSide_87 z d (4 + 9 * v101.toNat) μ) else (f_W_countOfSide_94 z d μ) := by
  show mE z d q_W_countOfSide 7 [(2, 0), (0, v1), (9, 0)] [(0, v101), (2, 3)] μ = _
  rw [mE_bk (M := q_W_countOfSide) k_W_countOfSide.1 k_W_countOfSide.2 [7, 64, 69, 74, 80, 87, 94] 400]
  have key : ∀ (C : Nat → List zv → Mu → mR) (E : Nat → List zv → List zv → Mu → mR), mbk C E q_W_countOfSide.1 q_W_countOfSide.2.1 z q_W_countOfSide.2.2.2 [7, 64, 69, 74, 80, 87, 94] 400 (zfind q_W_countOfSide.2.2.2 7) [(2, 0), (0, v1), (9, 0)] [(0, v101), (2, 3)] μ = bif decide (z_and v1 ((-2)) = 10) then (g_W_countOfSide_64 E (4 + 9 * v101.toNat) μ) else bif decide (z_and v1 ((-2)) = 11) then (g_W_countOfSide_94 E μ) else bif decide (z_and v1 ((-2)) = 12) then (g_W_countOfSide_69 E (4 + 9 * v101.toNat) μ) else bif decide (z_and v1 ((-2)) = 13) then (g_W_countOfSide_94 E μ) else bif decide (z_and v1 ((-2)) = 14) then (g_W_countOfSide_74 E (4 + 9 * v101.toNat) μ) else bif decide (z_and v1 ((-2)) = 15) then (g_W_countOfSide_94 E μ) else bif decide (z_and v1 ((-2)) = 16) then (g_W_countOfSide_80 E (4 + 9 * v101.toNat) μ) else bif decide (z_and v1 ((-2)) = 17) then (g_W_countOfSide_94 E μ) else bif decide (z_and v1 ((-2)) = 18) then (g_W_countOfSide_87 E (4 + 9 * v101.toNat) μ) else (g_W_countOfSide_94 E μ) := by
    intro C E
    rcases hv101 with rfl | rfl <;> (rfl)
  exact key _ _
set_option maxRecDepth 100000 in
theorem e_W_countOfSide_64 (z : zZ) (d : Nat) (o2 : Nat) (μ : Mu) (ho2 : o2 = 4 ∨ o2 = 13) : f_W_countOfSide_64 z d o2 μ = some (μ o2 6, μ) := by
  show mE z d q_W_countOfSide 64 [(9, 0), (9, 0), (2, ((o2 : Nat) : Int))] [] μ = _
  rw [mE_bk (M := q_W_countOfSide) k_W_countOfSide.1 k_W_countOfSide.2 [7, 64, 69, 74, 80, 87, 94] 400]
  have key : ∀ (C : Nat → List zv → Mu → mR) (E : Nat → List zv → List zv → Mu → mR), mbk C E q_W_countOfSide.1 q_W_countOfSide.2.1 z q_W_countOfSide.2.2.2 [7, 64, 69, 74, 80, 87, 94] 400 (zfind q_W_countOfSide.2.2.2 64) [(9, 0), (9, 0), (2, ((o2 : Nat) : Int))] [] μ = some (μ o2 6, μ) := by
    intro C E
    rcases ho2 with rfl | rfl <;> (rfl)
  exact key _ _
set_option maxRecDepth 100000 in
theorem e_W_countOfSide_94 (z : zZ) (d : Nat) (μ : Mu) : f_W_countOfSide_94 z d μ = some ((-1), μ) := by
  show mE z d q_W_countOfSide 94 [(9, 0), (9, 0), (9, 0)] [] μ = _
  rw [mE_bk (M := q_W_countOfSide) k_W_countOfSide.1 k_W_countOfSide.2 [7, 64, 69, 74, 80, 87, 94] 400]
  have key : ∀ (C : Nat → List zv → Mu → mR) (E : Nat → List zv → List zv → Mu → mR), mbk C E q_W_countOfSide.1 q_W_countOfSide.2.1 z q_W_countOfSide.2.2.2 [7, 64, 69, 74, 80, 87, 94] 400 (zfind q_W_countOfSide.2.2.2 94) [(9, 0), (9, 0), (9, 0)] [] μ = some ((-1), μ) := by
    intro C E
    rfl
  exact key _ _
set_option maxRecDepth 100000 in
theorem e_W_countOfSide_69 (z : zZ) (d : Nat) (o2 : Nat) (μ : Mu) (ho2 : o2 = 4 ∨ o2 = 13) : f_W_countOfSide_69 z d o2 μ = some (μ o2 7, μ) := by
  show mE z d q_W_countOfSide 69 [(9, 0), (9, 0), (2, ((o2 : Nat) : Int))] [] μ = _
  rw [mE_bk (M := q_W_countOfSide) k_W_countOfSide.1 k_W_countOfSide.2 [7, 64, 69, 74, 80, 87, 94] 400]
  have key : ∀ (C : Nat → List zv → Mu → mR) (E : Nat → List zv → List zv → Mu → mR), mbk C E q_W_countOfSide.1 q_W_countOfSide.2.1 z q_W_countOfSide.2.2.2 [7, 64, 69, 74, 80, 87, 94] 400 (zfind q_W_countOfSide.2.2.2 69) [(9, 0), (9, 0), (2, ((o2 : Nat) : Int))] [] μ = some (μ o2 7, μ) := by
    intro C E
    rcases ho2 with rfl | rfl <;> (rfl)
  exact key _ _
set_option maxRecDepth 100000 in
theorem e_W_countOfSide_74 (z : zZ) (d : Nat) (o2 : Nat) (μ : Mu) (ho2 : o2 = 4 ∨ o2 = 13) : f_W_countOfSide_74 z d o2 μ = (mC z d 165 [(2, ((o2 : Nat) : Int)), (0, 0)] μ).bind fun q1 => (some (q1.1, q1.2)) := by
  show mE z d q_W_countOfSide 74 [(9, 0), (9, 0), (2, ((o2 : Nat) : Int))] [] μ = _
  rw [mE_bk (M := q_W_countOfSide) k_W_countOfSide.1 k_W_countOfSide.2 [7, 64, 69, 74, 80, 87, 94] 400]
  have key : ∀ (C : Nat → List zv → Mu → mR) (E : Nat → List zv → List zv → Mu → mR), mbk C E q_W_countOfSide.1 q_W_countOfSide.2.1 z q_W_countOfSide.2.2.2 [7, 64, 69, 74, 80, 87, 94] 400 (zfind q_W_countOfSide.2.2.2 74) [(9, 0), (9, 0), (2, ((o2 : Nat) : Int))] [] μ = (C 165 [(2, ((o2 : Nat) : Int)), (0, 0)] μ).bind fun q1 => (some (q1.1, q1.2)) := by
    intro C E
    rcases ho2 with rfl | rfl <;> (rfl)
  exact key _ _
set_option maxRecDepth 100000 in
theorem e_W_countOfSide_80 (z : zZ) (d : Nat) (o2 : Nat) (μ : Mu) (ho2 : o2 = 4 ∨ o2 = 13) : f_W_countOfSide_80 z d o2 μ = (mC z d 165 [(2, ((o2 : Nat) : Int)), (0, 12)] μ).bind fun q1 => (some (q1.1, q1.2)) := by
  show mE z d q_W_countOfSide 80 [(9, 0), (9, 0), (2, ((o2 : Nat) : Int))] [] μ = _
  rw [mE_bk (M := q_W_countOfSide) k_W_countOfSide.1 k_W_countOfSide.2 [7, 64, 69, 74, 80, 87, 94] 400]
  have key : ∀ (C : Nat → List zv → Mu → mR) (E : Nat → List zv → List zv → Mu → mR), mbk C E q_W_countOfSide.1 q_W_countOfSide.2.1 z q_W_countOfSide.2.2.2 [7, 64, 69, 74, 80, 87, 94] 400 (zfind q_W_countOfSide.2.2.2 80) [(9, 0), (9, 0), (2, ((o2 : Nat) : Int))] [] μ = (C 165 [(2, ((o2 : Nat) : Int)), (0, 12)] μ).bind fun q1 => (some (q1.1, q1.2)) := by
    intro C E
    rcases ho2 with rfl | rfl <;> (rfl)
  exact key _ _
set_option maxRecDepth 100000 in
theorem e_W_countOfSide_87 (z : zZ) (d : Nat) (o2 : Nat) (μ : Mu) (ho2 : o2 = 4 ∨ o2 = 13) : f_W_countOfSide_87 z d o2 μ = (mC z d 165 [(2, ((o2 : Nat) : Int)), (0, 24)] μ).bind fun q1 => (some (q1.1, q1.2)) := by
  show mE z d q_W_countOfSide 87 [(9, 0), (9, 0), (2, ((o2 : Nat) : Int))] [] μ = _
  rw [mE_bk (M := q_W_countOfSide) k_W_countOfSide.1 k_W_countOfSide.2 [7, 64, 69, 74, 80, 87, 94] 400]
  have key : ∀ (C : Nat → List zv → Mu → mR) (E : Nat → List zv → List zv → Mu → mR), mbk C E q_W_countOfSide.1 q_W_countOfSide.2.1 z q_W_countOfSide.2.2.2 [7, 64, 69, 74, 80, 87, 94] 400 (zfind q_W_countOfSide.2.2.2 87) [(9, 0), (9, 0), (2, ((o2 : Nat) : Int))] [] μ = (C 165 [(2, ((o2 : Nat) : Int)), (0, 24)] μ).bind fun q1 => (some (q1.1, q1.2)) := by
    intro C E
    rcases ho2 with rfl | rfl <;> (rfl)
  exact key _ _
def g_Sol_enlisted_4 (E : Nat → List zv → List zv → Mu → mR) (v1 : Int) (v2 : Int) (μ : Mu) : mR := E 4 [(2, 65), (0, v1), (0, v2)] [] μ
noncomputable def f_Sol_enlisted_4 (z : zZ) (d : Nat) (v1 : Int) (v2 : Int) (μ : Mu) : mR := g_Sol_enlisted_4 (fun pc ls st μ => mE z d q_Sol_enlisted pc ls st μ) v1 v2 μ
def g_Sol_enlisted_26 (E : Nat → List zv → List zv → Mu → mR) (v1 : Int) (v2 : Int) (μ : Mu) : mR := E 26 [(2, 65), (0, v1), (0, v2)] [] μ
noncomputable def f_Sol_enlisted_26 (z : zZ) (d : Nat) (v1 : Int) (v2 : Int) (μ : Mu) : mR := g_Sol_enlisted_26 (fun pc ls st μ => mE z d q_Sol_enlisted pc ls st μ) v1 v2 μ
theorem k_Sol_enlisted : zprK q_Sol_enlisted.2.2.2 = true ∧ zinc q_Sol_enlisted.2.2.2 = true := by decide +kernel
set_option maxRecDepth 100000 in
theorem c_Sol_enlisted (z : zZ) (d : Nat) (μ : Mu) : mC z (d + 1) 179 [(2, 65)] μ = f_Sol_enlisted_4 z d 0 0 μ := by
  rw [mC_succ q_Sol_enlisted rfl rfl rfl]
  rw [mE_bk (M := q_Sol_enlisted) k_Sol_enlisted.1 k_Sol_enlisted.2 [4, 26] 400]
  have key : ∀ (C : Nat → List zv → Mu → mR) (E : Nat → List zv → List zv → Mu → mR), mbk C E q_Sol_enlisted.1 q_Sol_enlisted.2.1 z q_Sol_enlisted.2.2.2 [4, 26] 400 (zfind q_Sol_enlisted.2.2.2 0) (zentry q_Sol_enlisted.2.2.1 [(2, 65)]) [] μ = g_Sol_enlisted_4 E 0 0 μ := by
    intro C E
    rfl
  exact key _ _
set_option maxRecDepth 100000 in
theorem e_Sol_enlisted_4 (z : zZ) (d : Nat) (v1 : Int) (v2 : Int) (μ : Mu) : f_Sol_enlisted_4 z d v1 v2 μ = bif decide (24 ≤ v2) then (some (v1, μ)) else (gI (zw ((zw (4 * v2)) + 3)) 96 (bif decide (μ 67 ((zw ((zw (4 * v2)) + 3)).toNat) ≤ 0) then (f_Sol_enlisted_26 z d v1 v2 μ) else (f_Sol_enlisted_26 z d (zw (v1 + 1)) v2 μ))) := by
  show mE z d q_Sol_enlisted 4 [(2, 65), (0, v1), (0, v2)] [] μ = _
  rw [mE_bk (M := q_Sol_enlisted) k_Sol_enlisted.1 k_Sol_enlisted.2 [4, 26] 400]
  have key : ∀ (C : Nat → List zv → Mu → mR) (E : Nat → List zv → List zv → Mu → mR), mbk C E q_Sol_enlisted.1 q_Sol_enlisted.2.1 z q_Sol_enlisted.2.2.2 [4, 26] 400 (zfind q_Sol_enlisted.2.2.2 4) [(2, 65), (0, v1), (0, v2)] [] μ = bif decide (24 ≤ v2) then (some (v1, μ)) else (gI (zw ((zw (4 * v2)) + 3)) 96 (bif decide (μ 67 ((zw ((zw (4 * v2)) + 3)).toNat) ≤ 0) then (g_Sol_enlisted_26 E v1 v2 μ) else (g_Sol_enlisted_26 E (zw (v1 + 1)) v2 μ))) := by
    intro C E
    rfl
  exact key _ _
set_option maxRecDepth 100000 in
theorem e_Sol_enlisted_26 (z : zZ) (d : Nat) (v1 : Int) (v2 : Int) (μ : Mu) : f_Sol_enlisted_26 z d v1 v2 μ = f_Sol_enlisted_4 z d v1 (zw (v2 + 1)) μ := by
  show mE z d q_Sol_enlisted 26 [(2, 65), (0, v1), (0, v2)] [] μ = _
  rw [mE_bk (M := q_Sol_enlisted) k_Sol_enlisted.1 k_Sol_enlisted.2 [4, 26] 400]
  have key : ∀ (C : Nat → List zv → Mu → mR) (E : Nat → List zv → List zv → Mu → mR), mbk C E q_Sol_enlisted.1 q_Sol_enlisted.2.1 z q_Sol_enlisted.2.2.2 [4, 26] 400 (zfind q_Sol_enlisted.2.2.2 26) [(2, 65), (0, v1), (0, v2)] [] μ = g_Sol_enlisted_4 E v1 (zw (v2 + 1)) μ := by
    intro C E
    rfl
  exact key _ _
