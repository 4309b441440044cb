def g_Law_mostOf_36 (E : Nat → List zv → List zv → Mu → mR) (μ : Mu) : mR := E 36 [(9, 0)] [] μ
noncomputable def f_Law_mostOf_36 (z : zZ) (d : Nat) (μ : Mu) : mR := g_Law_mostOf_36 (fun pc ls st μ => mE z d q_Law_mostOf pc ls st μ) μ
def g_Law_mostOf_40 (E : Nat → List zv → List zv → Mu → mR) (μ : Mu) : mR := E 40 [(9, 0)] [] μ
noncomputable def f_Law_mostOf_40 (z : zZ) (d : Nat) (μ : Mu) : mR := g_Law_mostOf_40 (fun pc ls st μ => mE z d q_Law_mostOf pc ls st μ) μ
def g_Law_mostOf_43 (E : Nat → List zv → List zv → Mu → mR) (μ : Mu) : mR := E 43 [(9, 0)] [] μ
noncomputable def f_Law_mostOf_43 (z : zZ) (d : Nat) (μ : Mu) : mR := g_Law_mostOf_43 (fun pc ls st μ => mE z d q_Law_mostOf pc ls st μ) μ
def g_Law_mostOf_47 (E : Nat → List zv → List zv → Mu → mR) (μ : Mu) : mR := E 47 [(9, 0)] [] μ
noncomputable def f_Law_mostOf_47 (z : zZ) (d : Nat) (μ : Mu) : mR := g_Law_mostOf_47 (fun pc ls st μ => mE z d q_Law_mostOf pc ls st μ) μ
theorem k_Law_mostOf : zprK q_Law_mostOf.2.2.2 = true ∧ zinc q_Law_mostOf.2.2.2 = true := by decide +kernel
set_option maxRecDepth 100000 in
theorem c_Law_mostOf (z : zZ) (d : Nat) (v0 : Int) (μ : Mu) : mC z (d + 1) 92 [(0, v0)] μ = bif decide (v0 = 100) then (f_Law_mostOf_40 z d μ) else bif decide (v0 = 118) then (f_Law_mostOf_36 z d μ) else bif decide (v0 = 119) then (f_Law_mostOf_43 z d μ) else (f_Law_mostOf_47 z d μ) := by
  rw [mC_succ q_Law_mostOf rfl rfl rfl]
  rw [mE_bk (M := q_Law_mostOf) k_Law_mostOf.1 k_Law_mostOf.2 [36, 40, 43, 47] 400]
  have key : ∀ (C : Nat → List zv → Mu → mR) (E : Nat → List zv → List zv → Mu → mR), mbk C E q_Law_mostOf.1 q_Law_mostOf.2.1 z q_Law_mostOf.2.2.2 [36, 40, 43, 47] 400 (zfind q_Law_mostOf.2.2.2 0) (zentry q_Law_mostOf.2.2.1 [(0, v0)]) [] μ = bif decide (v0 = 100) then (g_Law_mostOf_40 E μ) else bif decide (v0 = 118) then (g_Law_mostOf_36 E μ) else bif decide (v0 = 119) then (g_Law_mostOf_43 E μ) else (g_Law_mostOf_47 E μ) := by
    intro C E
    rfl
  exact key _ _
set_option maxRecDepth 100000 in
theorem e_Law_mostOf_40 (z : zZ) (d : Nat) (μ : Mu) : f_Law_mostOf_40 z d μ = some (10, μ) := by
  show mE z d q_Law_mostOf 40 [(9, 0)] [] μ = _
  rw [mE_bk (M := q_Law_mostOf) k_Law_mostOf.1 k_Law_mostOf.2 [36, 40, 43, 47] 400]
  have key : ∀ (C : Nat → List zv → Mu → mR) (E : Nat → List zv → List zv → Mu → mR), mbk C E q_Law_mostOf.1 q_Law_mostOf.2.1 z q_Law_mostOf.2.2.2 [36, 40, 43, 47] 400 (zfind q_Law_mostOf.2.2.2 40) [(9, 0)] [] μ = some (10, μ) := by
    intro C E
    rfl
  exact key _ _
set_option maxRecDepth 100000 in
theorem e_Law_mostOf_36 (z : zZ) (d : Nat) (μ : Mu) : f_Law_mostOf_36 z d μ = some (9999, μ) := by
  show mE z d q_Law_mostOf 36 [(9, 0)] [] μ = _
  rw [mE_bk (M := q_Law_mostOf) k_Law_mostOf.1 k_Law_mostOf.2 [36, 40, 43, 47] 400]
  have key : ∀ (C : Nat → List zv → Mu → mR) (E : Nat → List zv → List zv → Mu → mR), mbk C E q_Law_mostOf.1 q_Law_mostOf.2.1 z q_Law_mostOf.2.2.2 [36, 40, 43, 47] 400 (zfind q_Law_mostOf.2.2.2 36) [(9, 0)] [] μ = some (9999, μ) := by
    intro C E
    rfl
  exact key _ _
set_option maxRecDepth 100000 in
theorem e_Law_mostOf_43 (z : zZ) (d : Nat) (μ : Mu) : f_Law_mostOf_43 z d μ = some (999, μ) := by
  show mE z d q_Law_mostOf 43 [(9, 0)] [] μ = _
  rw [mE_bk (M := q_Law_mostOf) k_Law_mostOf.1 k_Law_mostOf.2 [36, 40, 43, 47] 400]
  have key : ∀ (C : Nat → List zv → Mu → mR) (E : Nat → List zv → List zv → Mu → mR), mbk C E q_Law_mostOf.1 q_Law_mostOf.2.1 z q_Law_mostOf.2.2.2 [36, 40, 43, 47] 400 (zfind q_Law_mostOf.2.2.2 43) [(9, 0)] [] μ = some (999, μ) := by
    intro C E
    rfl
  exact key _ _
set_option maxRecDepth 100000 in
theorem e_Law_mostOf_47 (z : zZ) (d : Nat) (μ : Mu) : f_Law_mostOf_47 z d μ = some (8, μ) := by
  show mE z d q_Law_mostOf 47 [(9, 0)] [] μ = _
  rw [mE_bk (M := q_Law_mostOf) k_Law_mostOf.1 k_Law_mostOf.2 [36, 40, 43, 47] 400]
  have key : ∀ (C : Nat → List zv → Mu → mR) (E : Nat → List zv → List zv → Mu → mR), mbk C E q_Law_mostOf.1 q_Law_mostOf.2.1 z q_Law_mostOf.2.2.2 [36, 40, 43, 47] 400 (zfind q_Law_mostOf.2.2.2 47) [(9, 0)] [] μ = some (8, μ) := by
    intro C E
    rfl
  exact key _ _
def g_Army_lose_15 (E : Nat → List zv → List zv → Mu → mR) (μ : Mu) : mR := E 15 [(9, 0), (9, 0), (9, 0), (9, 0), (9, 0), (9, 0), (9, 0), (9, 0), (9, 0), (9, 0)] [] μ
noncomputable def f_Army_lose_15 (z : zZ) (d : Nat) (μ : Mu) : mR := g_Army_lose_15 (fun pc ls st μ => mE z d q_Army_lose pc ls st μ) μ
def g_Army_lose_55 (E : Nat → List zv → List zv → Mu → mR) (o0 : Nat) (v1 : Int) (v4 : Int) (v5 : Int) (v6 : Int) (v7 : Int) (v8 : Int) (μ : Mu) : mR := E 55 [(2, ((o0 : Nat) : Int)), (0, v1), (9, 0), (9, 0), (0, v4), (0, v5), (0, v6), (0, v7), (0, v8), (9, 0)] [] μ
noncomputable def f_Army_lose_55 (z : zZ) (d : Nat) (o0 : Nat) (v1 : Int) (v4 : Int) (v5 : Int) (v6 : Int) (v7 : Int) (v8 : Int) (μ : Mu) : mR := g_Army_lose_55 (fun pc ls st μ => mE z d q_Army_lose pc ls st μ) o0 v1 v4 v5 v6 v7 v8 μ
def g_Army_lose_75 (E : Nat → List zv → List zv → Mu → mR) (o0 : Nat) (v1 : Int) (v4 : Int) (v5 : Int) (v6 : Int) (v7 : Int) (v8 : Int) (o100 : Nat) (μ : Mu) : mR := E 75 [(2, ((o0 : Nat) : Int)), (0, v1), (9, 0), (9, 0), (0, v4), (0, v5), (0, v6), (0, v7), (0, v8), (9, 0)] [(2, ((o100 : Nat) : Int))] μ
noncomputable def f_Army_lose_75 (z : zZ) (d : Nat) (o0 : Nat) (v1 : Int) (v4 : Int) (v5 : Int) (v6 : Int) (v7 : Int) (v8 : Int) (o100 : Nat) (μ : Mu) : mR := g_Army_lose_75 (fun pc ls st μ => mE z d q_Army_lose pc ls st μ) o0 v1 v4 v5 v6 v7 v8 o100 μ
def g_Army_lose_77 (E : Nat → List zv → List zv → Mu → mR) (o0 : Nat) (v1 : Int) (v4 : Int) (v5 : Int) (v6 : Int) (v7 : Int) (v8 : Int) (o100 : Nat) (v101 : Int) (μ : Mu) : mR := E 77 [(2, ((o0 : Nat) : Int)), (0, v1), (9, 0), (9, 0), (0, v4), (0, v5), (0, v6), (0, v7), (0, v8), (9, 0)] [(0, v101), (2, ((o100 : Nat) : Int))] μ
noncomputable def f_Army_lose_77 (z : zZ) (d : Nat) (o0 : Nat) (v1 : Int) (v4 : Int) (v5 : Int) (v6 : Int) (v7 : Int) (v8 : Int) (o100 : Nat) (v101 : Int) (μ : Mu) : mR := g_Army_lose_77 (fun pc ls st μ => mE z d q_Army_lose pc ls st μ) o0 v1 v4 v5 v6 v7 v8 o100 v101 μ
def g_Army_lose_156 (E : Nat → List zv → List zv → Mu → mR) (o0 : Nat) (v8 : Int) (μ : Mu) : mR := E 156 [(2, ((o0 : Nat) : Int)), (9, 0), (9, 0), (9, 0), (9, 0), (9, 0), (9, 0), (9, 0), (0, v8), (9, 0)] [] μ
noncomputable def f_Army_lose_156 (z : zZ) (d : Nat) (o0 : Nat) (v8 : Int) (μ : Mu) : mR := g_Army_lose_156 (fun pc ls st μ => mE z d q_Army_lose pc ls st μ) o0 v8 μ
def g_Army_lose_162 (E : Nat → List zv → List zv → Mu → mR) (μ : Mu) : mR := E 162 [(9, 0), (9, 0), (9, 0), (9, 0), (9, 0), (9, 0), (9, 0), (9, 0), (9, 0), (9, 0)] [] μ
noncomputable def f_Army_lose_162 (z : zZ) (d : Nat) (μ : Mu) : mR := g_Army_lose_162 (fun pc ls st μ => mE z d q_Army_lose pc ls st μ) μ
theorem k_Army_lose : zprK q_Army_lose.2.2.2 = true ∧ zinc q_Army_lose.2.2.2 = true := by decide +kernel
set_option maxRecDepth 100000 in
theorem c_Army_lose (z : zZ) (d : Nat) (o0 : Nat) (v1 : Int) (v2 : Int) (v3 : Int) (μ : Mu) (ho0 : o0 = 4 ∨ o0 = 13) : mC z (d + 1) 93 [(2, ((o0 : Nat) : Int)), (0, v1), (0, v2), (0, v3)] μ = (mC z d 36 [(2, ((o0 : Nat) : Int)), (0, v1)] μ).bind fun q1 => (bif decide (q1.1 = 0) then (f_Army_lose_15 z d q1.2) else (bif decide (1 ≤ zw (v2 + v3)) then (gI v1 12 ((mC z d 68 [(0, q1.2 (o0 + 4) v1.toNat)] q1.2).bind fun q2 => (f_Army_lose_55 z d o0 v1 (q1.2 (o0 + 4) v1.toNat) q2.1 (if 0 < zw (q2.1 - v2) then zw (q2.1 - v2) else 0) (if 0 < zw ((if 0 < zw (q2.1 - v2) then zw (q2.1 - v2) else 0) - v3) then zw ((if 0 < zw (q2.1 - v2) then zw (q2.1 - v2) else 0) - v3) else 0) (if 0 < zw ((if 0 < zw (q2.1 - v2) then zw (q2.1 - v2) else 0) - v3) then zw ((if 0 < zw (q2.1 - v2) then zw (q2.1 - v2) else 0) - v3) else 0) q2.2))) else (f_Army_lose_15 z d q1.2))) := by
  rw [mC_succ q_Army_lose rfl rfl rfl]
  rw [mE_bk (M := q_Army_lose) k_Army_lose.1 k_Army_lose.2 [15, 55, 75, 77, 156, 162] 400]
  have key : ∀ (C : Nat → List zv → Mu → mR) (E : Nat → List zv → List zv → Mu → mR), mbk C E q_Army_lose.1 q_Army_lose.2.1 z q_Army_lose.2.2.2 [15, 55, 75, 77, 156, 162] 400 (zfind q_Army_lose.2.2.2 0) (zentry q_Army_lose.2.2.1 [(2, ((o0 : Nat) : Int)), (0, v1), (0, v2), (0, v3)]) [] μ = (C 36 [(2, ((o0 : Nat) : Int)), (0, v1)] μ).bind fun q1 => (bif decide (q1.1 = 0) then (g_Army_lose_15 E q1.2) else (bif decide (1 ≤ zw (v2 + v3)) then (gI v1 12 ((C 68 [(0, q1.2 (o0 + 4) v1.toNat)] q1.2).bind fun q2 => (g_Army_lose_55 E o0 v1 (q1.2 (o0 + 4) v1.toNat) q2.1 (if 0 < zw (q2.1 - v2) then zw (q2.1 - v2) else 0) (if 0 < zw ((if 0 < zw (q2.1 - v2) then zw (q2.1 - v2) else 0) - v3) then zw ((if 0 < zw (q2.1 - v2) then zw (q2.1 - v2) else 0) - v3) else 0) (if 0 < zw ((if 0 < zw (q2.1 - v2) then zw (q2.1 - v2) else 0) - v3) then zw ((if 0 < zw (q2.1 - v2) then zw (q2.1 - v2) else 0) - v3) else 0) q2.2))) else (g_Army_lose_15 E q1.2))) := by
    intro C E
    rcases ho0 with rfl | rfl <;> (rfl)
  exact key _ _
set_option maxRecDepth 100000 in
theorem e_Army_lose_15 (z : zZ) (d : Nat) (μ : Mu) : f_Army_lose_15 z d μ = some (0, μ) := by
  show mE z d q_Army_lose 15 [(9, 0), (9, 0), (9, 0), (9, 0), (9, 0), (9, 0), (9, 0), (9, 0), (9, 0), (9, 0)] [] μ = _
  rw [mE_bk (M := q_Army_lose) k_Army_lose.1 k_Army_lose.2 [15, 55, 75, 77, 156, 162] 400]
  have key : ∀ (C : Nat → List zv → Mu → mR) (E : Nat → List zv → List zv → Mu → mR), mbk C E q_Army_lose.1 q_Army_lose.2.1 z q_Army_lose.2.2.2 [15, 55, 75, 77, 156, 162] 400 (zfind q_Army_lose.2.2.2 15) [(9, 0), (9, 0), (9, 0), (9, 0), (9, 0), (9, 0), (9, 0), (9, 0), (9, 0), (9, 0)] [] μ = some (0, μ) := by
    intro C E
    rfl
  exact key _ _
set_option maxRecDepth 100000 in
theorem e_Army_lose_55 (z : zZ) (d : Nat) (o0 : Nat) (v1 : Int) (v4 : Int) (v5 : Int) (v6 : Int) (v7 : Int) (v8 : Int) (μ : Mu) (ho0 : o0 = 4 ∨ o0 = 13) : f_Army_lose_55 z d o0 v1 v4 v5 v6 v7 v8 μ = bif decide (v5 ≤ v8) then ((mC z d 94 [(0, v4), (0, v7)] (zup μ o0 7 (z_and (μ o0 7) (z_xor (z_shl 1 v1) ((-1)))))).bind fun q1 => ((mC z d 39 [(2, ((o0 : Nat) : Int)), (0, q1.1)] q1.2).bind fun q2 => (bif decide (q2.1 = (-1)) then (f_Army_lose_156 z d o0 q1.1 q2.2) else ((mC z d 36 [(2, ((o0 : Nat) : Int)), (0, q2.1)] q2.2).bind fun q3 => (bif !decide (q3.1 = 0) then (f_Army_lose_156 z d o0 q1.1 q3.2) else (f_Army_lose_162 z d (zup q3.2 o0 7 (z_or (q3.2 o0 7) (z_shl 1 q2.1))))))))) else (bif decide (v6 ≤ v8) then (f_Army_lose_75 z d o0 v1 v4 v5 v6 v7 v8 o0 μ) else (f_Army_lose_77 z d o0 v1 v4 v5 v6 v7 v8 o0 24 μ)) := by
  show mE z d q_Army_lose 55 [(2, ((o0 : Nat) : Int)), (0, v1), (9, 0), (9, 0), (0, v4), (0, v5), (0, v6), (0, v7), (0, v8), (9, 0)] [] μ = _
  rw [mE_bk (M := q_Army_lose) k_Army_lose.1 k_Army_lose.2 [15, 55, 75, 77, 156, 162] 400]
  have key : ∀ (C : Nat → List zv → Mu → mR) (E : Nat → List zv → List zv → Mu → mR), mbk C E q_Army_lose.1 q_Army_lose.2.1 z q_Army_lose.2.2.2 [15, 55, 75, 77, 156, 162] 400 (zfind q_Army_lose.2.2.2 55) [(2, ((o0 : Nat) : Int)), (0, v1), (9, 0), (9, 0), (0, v4), (0, v5), (0, v6), (0, v7), (0, v8), (9, 0)] [] μ = bif decide (v5 ≤ v8) then ((C 94 [(0, v4), (0, v7)] (zup μ o0 7 (z_and (μ o0 7) (z_xor (z_shl 1 v1) ((-1)))))).bind fun q1 => ((C 39 [(2, ((o0 : Nat) : Int)), (0, q1.1)] q1.2).bind fun q2 => (bif decide (q2.1 = (-1)) then (g_Army_lose_156 E o0 q1.1 q2.2) else ((C 36 [(2, ((o0 : Nat) : Int)), (0, q2.1)] q2.2).bind fun q3 => (bif !decide (q3.1 = 0) then (g_Army_lose_156 E o0 q1.1 q3.2) else (g_Army_lose_162 E (zup q3.2 o0 7 (z_or (q3.2 o0 7) (z_shl 1 q2.1))))))))) else (bif decide (v6 ≤ v8) then (g_Army_lose_75 E o0 v1 v4 v5 v6 v7 v8 o0 μ) else (g_Army_lose_77 E o0 v1 v4 v5 v6 v7 v8 o0 24 μ)) := by
    intro C E
    rcases ho0 with rfl | rfl <;> (rfl)
  exact key _ _
set_option maxRecDepth 100000 in
theorem e_Army_lose_156 (z : zZ) (d : Nat) (o0 : Nat) (v8 : Int) (μ : Mu) (ho0 : o0 = 4 ∨ o0 = 13) : f_Army_lose_156 z d o0 v8 μ = (mC z d 40 [(2, ((o0 : Nat) : Int)), (0, v8)] μ).bind fun q1 => (f_Army_lose_162 z d q1.2) := by
  show mE z d q_Army_lose 156 [(2, ((o0 : Nat) : Int)), (9, 0), (9, 0), (9, 0), (9, 0), (9, 0), (9, 0), (9, 0), (0, v8), (9, 0)] [] μ = _
  rw [mE_bk (M := q_Army_lose) k_Army_lose.1 k_Army_lose.2 [15, 55, 75, 77, 156, 162] 400]
  have key : ∀ (C : Nat → List zv → Mu → mR) (E : Nat → List zv → List zv → Mu → mR), mbk C E q_Army_lose.1 q_Army_lose.2.1 z q_Army_lose.2.2.2 [15, 55, 75, 77, 156, 162] 400 (zfind q_Army_lose.2.2.2 156) [(2, ((o0 : Nat) : Int)), (9, 0), (9, 0), (9, 0), (9, 0), (9, 0), (9, 0), (9, 0), (0, v8), (9, 0)] [] μ = (C 40 [(2, ((o0 : Nat) : Int)), (0, v8)] μ).bind fun q1 => (g_Army_lose_162 E q1.2) := by
    intro C E
    rcases ho0 with rfl | rfl <;> (rfl)
  exact key _ _
set_option maxRecDepth 100000 in
theorem e_Army_lose_162 (z : zZ) (d : Nat) (μ : Mu) : f_Army_lose_162 z d μ = some (0, μ) := by
  show mE z d q_Army_lose 162 [(9, 0), (9, 0), (9, 0), (9, 0), (9, 0), (9, 0), (9, 0), (9, 0), (9, 0), (9, 0)] [] μ = _
  rw [mE_bk (M := q_Army_lose) k_Army_lose.1 k_Army_lose.2 [15, 55, 75, 77, 156, 162] 400]
  have key : ∀ (C : Nat → List zv → Mu → mR) (E : Nat → List zv → List zv → Mu → mR), mbk C E q_Army_lose.1 q_Army_lose.2.1 z q_Army_lose.2.2.2 [15, 55, 75, 77, 156, 162] 400 (zfind q_Army_lose.2.2.2 162) [(9, 0), (9, 0), (9, 0), (9, 0), (9, 0), (9, 0), (9, 0), (9, 0), (9, 0), (9, 0)] [] μ = some (0, μ) := by
    intro C E
    rfl
  exact key _ _
set_option maxRecDepth 100000 in
theorem e_Army_lose_75 (z : zZ) (d : Nat) (o0 : Nat) (v1 : Int) (v4 : Int) (v5 : Int) (v6 : Int) (v7 : Int) (v8 : Int) (o100 : Nat) (μ : Mu) (ho0 : o0 = 4 ∨ o0 = 13) (ho100 : o100 = 4 ∨ o100 = 13) : f_Army_lose_75 z d o0 v1 v4 v5 v6 v7 v8 o100 μ = f_Army_lose_77 z d o0 v1 v4 v5 v6 v7 v8 o100 12 μ := by
  show mE z d q_Army_lose 75 [(2, ((o0 : Nat) : Int)), (0, v1), (9, 0), (9, 0), (0, v4), (0, v5), (0, v6), (0, v7), (0, v8), (9, 0)] [(2, ((o100 : Nat) : Int))] μ = _
  rw [mE_bk (M := q_Army_lose) k_Army_lose.1 k_Army_lose.2 [15, 55, 75, 77, 156, 162] 400]
  have key : ∀ (C : Nat → List zv → Mu → mR) (E : Nat → List zv → List zv → Mu → mR), mbk C E q_Army_lose.1 q_Army_lose.2.1 z q_Army_lose.2.2.2 [15, 55, 75, 77, 156, 162] 400 (zfind q_Army_lose.2.2.2 75) [(2, ((o0 : Nat) : Int)), (0, v1), (9, 0), (9, 0), (0, v4), (0, v5), (0, v6), (0, v7), (0, v8), (9, 0)] [(2, ((o100 : Nat) : Int))] μ = g_Army_lose_77 E o0 v1 v4 v5 v6 v7 v8 o100 12 μ := by
    intro C E
    rcases ho0 with rfl | rfl <;> rcases ho100 with rfl | rfl <;> (rfl)
  exact key _ _
set_option maxRecDepth 100000 in
theorem e_Army_lose_77 (z : zZ) (d : Nat) (o0 : Nat) (v1 : Int) (v4 : Int) (v5 : Int) (v6 : Int) (v7 : Int) (v8 : Int) (o100 : Nat) (v101 : Int) (μ : Mu) (ho0 : o0 = 4 ∨ o0 = 13) (ho100 : o100 = 4 ∨ o100 = 13) : f_Army_lose_77 z d o0 v1 v4 v5 v6 v7 v8 o100 v101 μ = (mC z d 41 [(0, v4), (0, v8)] μ).bind fun q1 => ((mC z d 42 [(2, ((o100 : Nat) : Int)), (0, v101), (0, q1.1), (0, 1)] q1.2).bind fun q2 => (f_Army_lose_55 z d o0 v1 v4 v5 v6 v7 (zw (v8 + 1)) q2.2)) := by
  show mE z d q_Army_lose 77 [(2, ((o0 : Nat) : Int)), (0, v1), (9, 0), (9, 0), (0, v4), (0, v5), (0, v6), (0, v7), (0, v8), (9, 0)] [(0, v101), (2, ((o100 : Nat) : Int))] μ = _
  rw [mE_bk (M := q_Army_lose) k_Army_lose.1 k_Army_lose.2 [15, 55, 75, 77, 156, 162] 400]
  have key : ∀ (C : Nat → List zv → Mu → mR) (E : Nat → List zv → List zv → Mu → mR), mbk C E q_Army_lose.1 q_Army_lose.2.1 z q_Army_lose.2.2.2 [15, 55, 75, 77, 156, 162] 400 (zfind q_Army_lose.2.2.2 77) [(2, ((o0 : Nat) : Int)), (0, v1), (9, 0), (9, 0), (0, v4), (0, v5), (0, v6), (0, v7), (0, v8), (9, 0)] [(0, v101), (2, ((o100 : Nat) : Int))] μ = (C 41 [(0, v4), (0, v8)] μ).bind fun q1 => ((C 42 [(2, ((o100 : Nat) : Int)), (0, v101), (0, q1.1), (0, 1)] q1.2).bind fun q2 => (g_Army_lose_55 E o0 v1 v4 v5 v6 v7 (zw (v8 + 1)) q2.2)) := by
    intro C E
    rcases ho0 with rfl | rfl <;> rcases ho100 with rfl | rfl <;> (rfl)
  exact key _ _
def g_Wrd_firstOf_19 (E : Nat → List zv → List zv → Mu → mR) (v100 : Int) (μ : Mu) : mR := E 19 [(9, 0), (9, 0)] [(0, v100)] μ
noncomputable def f_Wrd_firstOf_19 (z : zZ) (d : Nat) (v100 : Int) (μ : Mu) : mR := g_Wrd_firstOf_19 (fun pc ls st μ => mE z d q_Wrd_firstOf pc ls st μ) v100 μ
theorem k_Wrd_firstOf : zprK q_Wrd_firstOf.2.2.2 = true ∧ zinc q_Wrd_firstOf.2.2.2 = true := by decide +kernel
set_option maxRecDepth 100000 in
theorem c_Wrd_firstOf (z : zZ) (d : Nat) (v0 : Int) (v1 : Int) (μ : Mu) : mC z (d + 1) 94 [(0, v0), (0, v1)] μ = bif decide (v1 < 8) then (f_Wrd_firstOf_19 z d (z_and v0 (zw ((z_shl 1 (zw (4 * v1))) - 1))) μ) else (f_Wrd_firstOf_19 z d v0 μ) := by
  rw [mC_succ q_Wrd_firstOf rfl rfl rfl]
  rw [mE_bk (M := q_Wrd_firstOf) k_Wrd_firstOf.1 k_Wrd_firstOf.2 [19] 400]
  have key : ∀ (C : Nat → List zv → Mu → mR) (E : Nat → List zv → List zv → Mu → mR), mbk C E q_Wrd_firstOf.1 q_Wrd_firstOf.2.1 z q_Wrd_firstOf.2.2.2 [19] 400 (zfind q_Wrd_firstOf.2.2.2 0) (zentry q_Wrd_firstOf.2.2.1 [(0, v0), (0, v1)]) [] μ = bif decide (v1 < 8) then (g_Wrd_firstOf_19 E (z_and v0 (zw ((z_shl 1 (zw (4 * v1))) - 1))) μ) else (g_Wrd_firstOf_19 E v0 μ) := by
    intro C E
    rfl
  exact key _ _
set_option maxRecDepth 100000 in
theorem e_Wrd_firstOf_19 (z : zZ) (d : Nat) (v100 : Int) (μ : Mu) : f_Wrd_firstOf_19 z d v100 μ = some (v100, μ) := by
  show mE z d q_Wrd_firstOf 19 [(9, 0), (9, 0)] [(0, v100)] μ = _
  rw [mE_bk (M := q_Wrd_firstOf) k_Wrd_firstOf.1 k_Wrd_firstOf.2 [19] 400]
  have key : ∀ (C : Nat → List zv → Mu → mR) (E : Nat → List zv → List zv → Mu → mR), mbk C E q_Wrd_firstOf.1 q_Wrd_firstOf.2.1 z q_Wrd_firstOf.2.2.2 [19] 400 (zfind q_Wrd_firstOf.2.2.2 19) [(9, 0), (9, 0)] [(0, v100)] μ = some (v100, μ) := by
    intro C E
    rfl
  exact key _ _
def g_W_changeBySpy_77 (E : Nat → List zv → List zv → Mu → mR) (μ : Mu) : mR := E 77 [(9, 0), (9, 0), (9, 0), (9, 0), (9, 0), (9, 0), (9, 0), (9, 0)] [] μ
noncomputable def f_W_changeBySpy_77 (z : zZ) (d : Nat) (μ : Mu) : mR := g_W_changeBySpy_77 (fun pc ls st μ => mE z d q_W_changeBySpy pc ls st μ) μ
def g_W_changeBySpy_79 (E : Nat → List zv → List zv → Mu → mR) (o1 : Nat) (o2 : Nat) (v4 : Int) (v5 : Int) (v6 : Int) (v7 : Int) (μ : Mu) : mR := E 79 [(9, 0), (2, ((o1 : Nat) : Int)), (2, ((o2 : Nat) : Int)), (9, 0), (0, v4), (0, v5), (0, v6), (0, v7)] [] μ
noncomputable def f_W_changeBySpy_79 (z : zZ) (d : Nat) (o1 : Nat) (o2 : Nat) (v4 : Int) (v5 : Int) (v6 : Int) (v7 : Int) (μ : Mu) : mR := g_W_changeBySpy_79 (fun pc ls st μ => mE z d q_W_changeBySpy pc ls st μ) o1 o2 v4 v5 v6 v7 μ
theorem k_W_changeBySpy : zprK q_W_changeBySpy.2.2.2 = true ∧ zinc q_W_changeBySpy.2.2.2 = true := by decide +kernel
set_option maxRecDepth 100000 in
theorem c_W_changeBySpy (z : zZ) (d : Nat) (o1 : Nat) (o2 : Nat) (v3 : Int) (μ : Mu) (ho1 : o1 = 4 ∨ o1 = 13) (ho2 : o2 = 4 ∨ o2 = 13) : mC z (d + 1) 95 [(2, 0), (2, ((o1 : Nat) : Int)), (2, ((o2 : Nat) : Int)), (0, v3)] μ = gI v3 12 (gI v3 12 (gI v3 12 ((mC z d 41 [(0, μ 38 v3.toNat), (0, z_div (μ 39 v3.toNat) 16)] μ).bind fun q1 => ((mC z d 13 [(0, z_rem (μ 39 v3.toNat) 16)] q1.2).bind fun q2 => (bif decide (q2.1 = 0) then (f_W_changeBySpy_77 z d q2.2) else ((mC z d 13 [(0, q1.1)] q2.2).bind fun q3 => (bif decide (q3.1 = 0) then (f_W_changeBySpy_77 z d q3.2) else (gI (zw (0 + (z_rem (μ 39 v3.toNat) 16))) 36 (bif decide (1 ≤ q3.2 (o1 + 3) ((zw (0 + (z_rem (μ 39 v3.toNat) 16))).toNat)) then (f_W_changeBySpy_79 z d o1 o2 (z_div (μ 39 v3.toNat) 16) (z_rem (μ 39 v3.toNat) 16) (μ 38 v3.toNat) q1.1 q3.2) else (f_W_changeBySpy_77 z d q3.2)))))))))) := by
  rw [mC_succ q_W_changeBySpy rfl rfl rfl]
  rw [mE_bk (M := q_W_changeBySpy) k_W_changeBySpy.1 k_W_changeBySpy.2 [77, 79] 400]
  have key : ∀ (C : Nat → List zv → Mu → mR) (E : Nat → List zv → List zv → Mu → mR), mbk C E q_W_changeBySpy.1 q_W_changeBySpy.2.1 z q_W_changeBySpy.2.2.2 [77, 79] 400 (zfind q_W_changeBySpy.2.2.2 0) (zentry q_W_changeBySpy.2.2.1 [(2, 0), (2, ((o1 : Nat) : Int)), (2, ((o2 : Nat) : Int)), (0, v3)]) [] μ = gI v3 12 (gI v3 12 (gI v3 12 ((C 41 [(0, μ 38 v3.toNat), (0, z_div (μ 39 v3.toNat) 16)] μ).bind fun q1 => ((C 13 [(0, z_rem (μ 39 v3.toNat) 16)] q1.2).bind fun q2 => (bif decide (q2.1 = 0) then (g_W_changeBySpy_77 E q2.2) else ((C 13 [(0, q1.1)] q2.2).bind fun q3 => (bif decide (q3.1 = 0) then (g_W_changeBySpy_77 E q3.2) else (gI (zw (0 + (z_rem (μ 39 v3.toNat) 16))) 36 (bif decide (1 ≤ q3.2 (o1 + 3) ((zw (0 + (z_rem (μ 39 v3.toNat) 16))).toNat)) then (g_W_changeBySpy_79 E o1 o2 (z_div (μ 39 v3.toNat) 16) (z_rem (μ 39 v3.toNat) 16) (μ 38 v3.toNat) q1.1 q3.2) else (g_W_changeBySpy_77 E q3.2)))))))))) := by
    intro C E
    rcases ho1 with rfl | rfl <;> rcases ho2 with rfl | rfl <;> (rfl)
  exact key _ _
set_option maxRecDepth 100000 in
theorem e_W_changeBySpy_77 (z : zZ) (d : Nat) (μ : Mu) : f_W_changeBySpy_77 z d μ = some (0, μ) := by
  show mE z d q_W_changeBySpy 77 [(9, 0), (9, 0), (9, 0), (9, 0), (9, 0), (9, 0), (9, 0), (9, 0)] [] μ = _
  rw [mE_bk (M := q_W_changeBySpy) k_W_changeBySpy.1 k_W_changeBySpy.2 [77, 79] 400]
  have key : ∀ (C : Nat → List zv → Mu → mR) (E : Nat → List zv → List zv → Mu → mR), mbk C E q_W_changeBySpy.1 q_W_changeBySpy.2.1 z q_W_changeBySpy.2.2.2 [77, 79] 400 (zfind q_W_changeBySpy.2.2.2 77) [(9, 0), (9, 0), (9, 0), (9, 0), (9, 0), (9, 0), (9, 0), (9, 0)] [] μ = some (0, μ) := by
    intro C E
    rfl
  exact key _ _
set_option maxRecDepth 100000 in
theorem e_W_changeBySpy_79 (z : zZ) (d : Nat) (o1 : Nat) (o2 : Nat) (v4 : Int) (v5 : Int) (v6 : Int) (v7 : Int) (μ : Mu) (ho1 : o1 = 4 ∨ o1 = 13) (ho2 : o2 = 4 ∨ o2 = 13) : f_W_changeBySpy_79 z d o1 o2 v4 v5 v6 v7 μ = (mC z d 39 [(2, ((o2 : Nat) : Int)), (0, v6)] μ).bind fun q1 => ((mC z d 31 [(0, v6), (0, v4), (0, v5)] q1.2).bind fun q2 => ((mC z d 39 [(2, ((o2 : Nat) : Int)), (0, q2.1)] q2.2).bind fun q3 => ((mC z d 78 [(2, ((o2 : Nat) : Int)), (0, q1.1), (0, q3.1)] q3.2).bind fun q4 => (bif !decide (q4.1 = 0) then (gI (zw (0 + v5)) 36 (gI (zw (0 + v5)) 36 ((mC z d 42 [(2, ((o2 : Nat) : Int)), (0, 12), (0, v7), (0, 1)] (zup q4.2 (o1 + 3) ((zw (0 + v5)).toNat) (zw ((q4.2 (o1 + 3) ((zw (0 + v5)).toNat)) - 1)))).bind fun q5 => (some (1, q5.2))))) else (some (0, q4.2)))))) := by
  show mE z d q_W_changeBySpy 79 [(9, 0), (2, ((o1 : Nat) : Int)), (2, ((o2 : Nat) : Int)), (9, 0), (0, v4), (0, v5), (0, v6), (0, v7)] [] μ = _
  rw [mE_bk (M := q_W_changeBySpy) k_W_changeBySpy.1 k_W_changeBySpy.2 [77, 79] 400]
  have key : ∀ (C : Nat → List zv → Mu → mR) (E : Nat → List zv → List zv → Mu → mR), mbk C E q_W_changeBySpy.1 q_W_changeBySpy.2.1 z q_W_changeBySpy.2.2.2 [77, 79] 400 (zfind q_W_changeBySpy.2.2.2 79) [(9, 0), (2, ((o1 : Nat) : Int)), (2, ((o2 : Nat) : Int)), (9, 0), (0, v4), (0, v5), (0, v6), (0, v7)] [] μ = (C 39 [(2, ((o2 : Nat) : Int)), (0, v6)] μ).bind fun q1 => ((C 31 [(0, v6), (0, v4), (0, v5)] q1.2).bind fun q2 => ((C 39 [(2, ((o2 : Nat) : Int)), (0, q2.1)] q2.2).bind fun q3 => ((C 78 [(2, ((o2 : Nat) : Int)), (0, q1.1), (0, q3.1)] q3.2).bind fun q4 => (bif !decide (q4.1 = 0) then (gI (zw (0 + v5)) 36 (gI (zw (0 + v5)) 36 ((C 42 [(2, ((o2 : Nat) : Int)), (0, 12), (0, v7), (0, 1)] (zup q4.2 (o1 + 3) ((zw (0 + v5)).toNat) (zw ((q4.2 (o1 + 3) ((zw (0 + v5)).toNat)) - 1)))).bind fun q5 => (some (1, q5.2))))) else (some (0, q4.2)))))) := by
    intro C E
    rcases ho1 with rfl | rfl <;> rcases ho2 with rfl | rfl <;> (rfl)
  exact key _ _
def g_W_judged_52 (E : Nat → List zv → List zv → Mu → mR) (v1 : Int) (v4 : Int) (v5 : Int) (μ : Mu) : mR := E 52 [(2, 0), (0, v1), (9, 0), (9, 0), (0, v4), (0, v5)] [] μ
noncomputable def f_W_judged_52 (z : zZ) (d : Nat) (v1 : Int) (v4 : Int) (v5 : Int) (μ : Mu) : mR := g_W_judged_52 (fun pc ls st μ => mE z d q_W_judged pc ls st μ) v1 v4 v5 μ
def g_W_judged_80 (E : Nat → List zv → List zv → Mu → mR) (v4 : Int) (v5 : Int) (μ : Mu) : mR := E 80 [(2, 0), (9, 0), (9, 0), (9, 0), (0, v4), (0, v5)] [] μ
noncomputable def f_W_judged_80 (z : zZ) (d : Nat) (v4 : Int) (v5 : Int) (μ : Mu) : mR := g_W_judged_80 (fun pc ls st μ => mE z d q_W_judged pc ls st μ) v4 v5 μ
theorem k_W_judged : zprK q_W_judged.2.2.2 = true ∧ zinc q_W_judged.2.2.2 = true := by decide +kernel
set_option maxRecDepth 100000 in
theorem c_W_judged (z : zZ) (d : Nat) (v1 : Int) (v2 : Int) (μ : Mu) : mC z (d + 1) 96 [(2, 0), (0, v1), (0, v2)] μ = (mC z d 64 [(2, 0), (0, v1), (0, v2)] μ).bind fun q1 => (bif decide (q1.1 = 0) then ((mC z d 35 [(2, 4), (2, 80)] q1.2).bind fun q2 => ((mC z d 35 [(2, 13), (2, 83)] q2.2).bind fun q3 => (f_W_judged_52 z d v1 (q1.2 0 19) 0 q3.2))) else (some (q1.1, q1.2))) := by
  rw [mC_succ q_W_judged rfl rfl rfl]
  rw [mE_bk (M := q_W_judged) k_W_judged.1 k_W_judged.2 [52, 80] 400]
  have key : ∀ (C : Nat → List zv → Mu → mR) (E : Nat → List zv → List zv → Mu → mR), mbk C E q_W_judged.1 q_W_judged.2.1 z q_W_judged.2.2.2 [52, 80] 400 (zfind q_W_judged.2.2.2 0) (zentry q_W_judged.2.2.1 [(2, 0), (0, v1), (0, v2)]) [] μ = (C 64 [(2, 0), (0, v1), (0, v2)] μ).bind fun q1 => (bif decide (q1.1 = 0) then ((C 35 [(2, 4), (2, 80)] q1.2).bind fun q2 => ((C 35 [(2, 13), (2, 83)] q2.2).bind fun q3 => (g_W_judged_52 E v1 (q1.2 0 19) 0 q3.2))) else (some (q1.1, q1.2))) := by
    intro C E
    rfl
  exact key _ _
set_option maxRecDepth 100000 in
theorem e_W_judged_52 (z : zZ) (d : Nat) (v1 : Int) (v4 : Int) (v5 : Int) (μ : Mu) : f_W_judged_52 z d v1 v4 v5 μ = bif decide (μ 36 3 ≤ v5) then (f_W_judged_80 z d v4 v5 μ) else ((mC z d 70 [(2, 0), (0, v1), (0, v5)] μ).bind fun q1 => (bif decide (q1.1 = 0) then (f_W_judged_80 z d v4 v5 q1.2) else (f_W_judged_52 z d v1 v4 (zw (v5 + 1)) q1.2))) := by
  show mE z d q_W_judged 52 [(2, 0), (0, v1), (9, 0), (9, 0), (0, v4), (0, v5)] [] μ = _
  rw [mE_bk (M := q_W_judged) k_W_judged.1 k_W_judged.2 [52, 80] 400]
  have key : ∀ (C : Nat → List zv → Mu → mR) (E : Nat → List zv → List zv → Mu → mR), mbk C E q_W_judged.1 q_W_judged.2.1 z q_W_judged.2.2.2 [52, 80] 400 (zfind q_W_judged.2.2.2 52) [(2, 0), (0, v1), (9, 0), (9, 0), (0, v4), (0, v5)] [] μ = bif decide (μ 36 3 ≤ v5) then (g_W_judged_80 E v4 v5 μ) else ((C 70 [(2, 0), (0, v1), (0, v5)] μ).bind fun q1 => (bif decide (q1.1 = 0) then (g_W_judged_80 E v4 v5 q1.2) else (g_W_judged_52 E v1 v4 (zw (v5 + 1)) q1.2))) := by
    intro C E
    rfl
  exact key _ _
set_option maxRecDepth 100000 in
theorem e_W_judged_80 (z : zZ) (d : Nat) (v4 : Int) (v5 : Int) (μ : Mu) : f_W_judged_80 z d v4 v5 μ = (mC z d 38 [(2, 4), (2, 80)] μ).bind fun q1 => ((mC z d 38 [(2, 13), (2, 83)] q1.2).bind fun q2 => (some (v5, zup q2.2 0 19 v4))) := by
  show mE z d q_W_judged 80 [(2, 0), (9, 0), (9, 0), (9, 0), (0, v4), (0, v5)] [] μ = _
  rw [mE_bk (M := q_W_judged) k_W_judged.1 k_W_judged.2 [52, 80] 400]
  have key : ∀ (C : Nat → List zv → Mu → mR) (E : Nat → List zv → List zv → Mu → mR), mbk C E q_W_judged.1 q_W_judged.2.1 z q_W_judged.2.2.2 [52, 80] 400 (zfind q_W_judged.2.2.2 80) [(2, 0), (9, 0), (9, 0), (9, 0), (0, v4), (0, v5)] [] μ = (C 38 [(2, 4), (2, 80)] μ).bind fun q1 => ((C 38 [(2, 13), (2, 83)] q1.2).bind fun q2 => (some (v5, zup q2.2 0 19 v4))) := by
    intro C E
    rfl
  exact key _ _
def g_W_turn_4 (E : Nat → List zv → List zv → Mu → mR) (v1 : Int) (v2 : Int) (μ : Mu) : mR := E 4 [(2, 0), (0, v1), (0, v2), (9, 0)] [] μ
noncomputable def f_W_turn_4 (z : zZ) (d : Nat) (v1 : Int) (v2 : Int) (μ : Mu) : mR := g_W_turn_4 (fun pc ls st μ => mE z d q_W_turn pc ls st μ) v1 v2 μ
def g_W_turn_11 (E : Nat → List zv → List zv → Mu → mR) (v1 : Int) (v2 : Int) (v3 : Int) (μ : Mu) : mR := E 11 [(2, 0), (0, v1), (0, v2), (0, v3)] [] μ
noncomputable def f_W_turn_11 (z : zZ) (d : Nat) (v1 : Int) (v2 : Int) (v3 : Int) (μ : Mu) : mR := g_W_turn_11 (fun pc ls st μ => mE z d q_W_turn pc ls st μ) v1 v2 v3 μ
def g_W_turn_26 (E : Nat → List zv → List zv → Mu → mR) (v1 : Int) (v2 : Int) (v3 : Int) (μ : Mu) : mR := E 26 [(2, 0), (0, v1), (0, v2), (0, v3)] [] μ
noncomputable def f_W_turn_26 (z : zZ) (d : Nat) (v1 : Int) (v2 : Int) (v3 : Int) (μ : Mu) : mR := g_W_turn_26 (fun pc ls st μ => mE z d q_W_turn pc ls st μ) v1 v2 v3 μ
def g_W_turn_60 (E : Nat → List zv → List zv → Mu → mR) (v1 : Int) (v2 : Int) (v3 : Int) (μ : Mu) : mR := E 60 [(2, 0), (0, v1), (0, v2), (0, v3)] [] μ
noncomputable def f_W_turn_60 (z : zZ) (d : Nat) (v1 : Int) (v2 : Int) (v3 : Int) (μ : Mu) : mR := g_W_turn_60 (fun pc ls st μ => mE z d q_W_turn pc ls st μ) v1 v2 v3 μ
theorem k_W_turn : zprK q_W_turn.2.2.2 = true ∧ zinc q_W_turn.2.2.2 = true := by decide +kernel
set_option maxRecDepth 100000 in
theorem c_W_turn (z : zZ) (d : Nat) (μ : Mu) : mC z (d + 1) 97 [(2, 0)] μ = f_W_turn_4 z d 0 0 μ := by
  rw [mC_succ q_W_turn rfl rfl rfl]
  rw [mE_bk (M := q_W_turn) k_W_turn.1 k_W_turn.2 [4, 11, 26, 60] 400]
  have key : ∀ (C : Nat → List zv → Mu → mR) (E : Nat → List zv → List zv → Mu → mR), mbk C E q_W_turn.1 q_W_turn.2.1 z q_W_turn.2.2.2 [4, 11, 26, 60] 400 (zfind q_W_turn.2.2.2 0) (zentry q_W_turn.2.2.1 [(2, 0)]) [] μ = g_W_turn_4 E 0 0 μ := by
    intro C E
    rfl
  exact key _ _
set_option maxRecDepth 100000 in
theorem e_W_turn_4 (z : zZ) (d : Nat) (v1 : Int) (v2 : Int) (μ : Mu) : f_W_turn_4 z d v1 v2 μ = bif decide (2 ≤ v2) then (some (v1, zup μ 0 18 (zw ((μ 0 18) + 1)))) else (f_W_turn_11 z d v1 v2 0 μ) := by
  show mE z d q_W_turn 4 [(2, 0), (0, v1), (0, v2), (9, 0)] [] μ = _
  rw [mE_bk (M := q_W_turn) k_W_turn.1 k_W_turn.2 [4, 11, 26, 60] 400]
  have key : ∀ (C : Nat → List zv → Mu → mR) (E : Nat → List zv → List zv → Mu → mR), mbk C E q_W_turn.1 q_W_turn.2.1 z q_W_turn.2.2.2 [4, 11, 26, 60] 400 (zfind q_W_turn.2.2.2 4) [(2, 0), (0, v1), (0, v2), (9, 0)] [] μ = bif decide (2 ≤ v2) then (some (v1, zup μ 0 18 (zw ((μ 0 18) + 1)))) else (g_W_turn_11 E v1 v2 0 μ) := by
    intro C E
    rfl
  exact key _ _
set_option maxRecDepth 100000 in
theorem e_W_turn_11 (z : zZ) (d : Nat) (v1 : Int) (v2 : Int) (v3 : Int) (μ : Mu) : f_W_turn_11 z d v1 v2 v3 μ = bif decide (12 ≤ v3) then (f_W_turn_4 z d v1 (zw (v2 + 1)) μ) else ((mC z d 98 [(2, 0), (0, v2), (0, v3)] μ).bind fun q1 => (bif decide (q1.1 = 0) then (f_W_turn_60 z d v1 v2 v3 q1.2) else (f_W_turn_26 z d v1 v2 v3 q1.2))) := by
  show mE z d q_W_turn 11 [(2, 0), (0, v1), (0, v2), (0, v3)] [] μ = _
  rw [mE_bk (M := q_W_turn) k_W_turn.1 k_W_turn.2 [4, 11, 26, 60] 400]
  have key : ∀ (C : Nat → List zv → Mu → mR) (E : Nat → List zv → List zv → Mu → mR), mbk C E q_W_turn.1 q_W_turn.2.1 z q_W_turn.2.2.2 [4, 11, 26, 60] 400 (zfind q_W_turn.2.2.2 11) [(2, 0), (0, v1), (0, v2), (0, v3)] [] μ = bif decide (12 ≤ v3) then (g_W_turn_4 E v1 (zw (v2 + 1)) μ) else ((C 98 [(2, 0), (0, v2), (0, v3)] μ).bind fun q1 => (bif decide (q1.1 = 0) then (g_W_turn_60 E v1 v2 v3 q1.2) else (g_W_turn_26 E v1 v2 v3 q1.2))) := by
    intro C E
    rfl
  exact key _ _
set_option maxRecDepth 100000 in
theorem e_W_turn_60 (z : zZ) (d : Nat) (v1 : Int) (v2 : Int) (v3 : Int) (μ : Mu) : f_W_turn_60 z d v1 v2 v3 μ = f_W_turn_11 z d v1 v2 (zw (v3 + 1)) μ := by
  show mE z d q_W_turn 60 [(2, 0), (0, v1), (0, v2), (0, v3)] [] μ = _
  rw [mE_bk (M := q_W_turn) k_W_turn.1 k_W_turn.2 [4, 11, 26, 60] 400]
  have key : ∀ (C : Nat → List zv → Mu → mR) (E : Nat → List zv → List zv → Mu → mR), mbk C E q_W_turn.1 q_W_turn.2.1 z q_W_turn.2.2.2 [4, 11, 26, 60] 400 (zfind q_W_turn.2.2.2 60) [(2, 0), (0, v1), (0, v2), (0, v3)] [] μ = g_W_turn_11 E v1 v2 (zw (v3 + 1)) μ := by
    intro C E
    rfl
  exact key _ _
set_option maxRecDepth 100000 in
theorem e_W_turn_26 (z : zZ) (d : Nat) (v1 : Int) (v2 : Int) (v3 : Int) (μ : Mu) (hv2 : v2 = 0 ∨ v2 = 1) : f_W_turn_26 z d v1 v2 v3 μ = gI (zw (0 + v3)) 36 (gI (zw (0 + v3)) 36 ((mC z d 42 [(2, (((4 + 9 * (zw (1 - v2)).toNat) : Nat) : Int)), (0, 0), (0, v3), (0, 1)] (zup μ ((4 + 9 * v2.toNat) + 3) ((zw (0 + v3)).toNat) (zw ((μ ((4 + 9 * v2.toNat) + 3) ((zw (0 + v3)).toNat)) - 1)))).bind fun q1 => (f_W_turn_60 z d (zw (v1 + 1)) v2 v3 q1.2))) := by
  show mE z d q_W_turn 26 [(2, 0), (0, v1), (0, v2), (0, v3)] [] μ = _
  rw [mE_bk (M := q_W_turn) k_W_turn.1 k_W_turn.2 [4, 11, 26, 60] 400]
  have key : ∀ (C : Nat → List zv → Mu → mR) (E : Nat → List zv → List zv → Mu → mR), mbk C E q_W_turn.1 q_W_turn.2.1 z q_W_turn.2.2.2 [4, 11, 26, 60] 400 (zfind q_W_turn.2.2.2 26) [(2, 0), (0, v1), (0, v2), (0, v3)] [] μ = gI (zw (0 + v3)) 36 (gI (zw (0 + v3)) 36 ((C 42 [(2, (((4 + 9 * (zw (1 - v2)).toNat) : Nat) : Int)), (0, 0), (0, v3), (0, 1)] (zup μ ((4 + 9 * v2.toNat) + 3) ((zw (0 + v3)).toNat) (zw ((μ ((4 + 9 * v2.toNat) + 3) ((zw (0 + v3)).toNat)) - 1)))).bind fun q1 => (g_W_turn_60 E (zw (v1 + 1)) v2 v3 q1.2))) := by
    intro C E
    rcases hv2 with rfl | rfl <;> (rfl)
  exact key _ _
def g_W_deserts_25 (E : Nat → List zv → List zv → Mu → mR) (v1 : Int) (v2 : Int) (v3 : Int) (v4 : Int) (μ : Mu) : mR := E 25 [(2, 0), (0, v1), (0, v2), (0, v3), (0, v4)] [] μ
noncomputable def f_W_deserts_25 (z : zZ) (d : Nat) (v1 : Int) (v2 : Int) (v3 : Int) (v4 : Int) (μ : Mu) : mR := g_W_deserts_25 (fun pc ls st μ => mE z d q_W_deserts pc ls st μ) v1 v2 v3 v4 μ
def g_W_deserts_68 (E : Nat → List zv → List zv → Mu → mR) (μ : Mu) : mR := E 68 [(9, 0), (9, 0), (9, 0), (9, 0), (9, 0)] [] μ
noncomputable def f_W_deserts_68 (z : zZ) (d : Nat) (μ : Mu) : mR := g_W_deserts_68 (fun pc ls st μ => mE z d q_W_deserts pc ls st μ) μ
def g_W_deserts_69 (E : Nat → List zv → List zv → Mu → mR) (v100 : Int) (μ : Mu) : mR := E 69 [(9, 0), (9, 0), (9, 0), (9, 0), (9, 0)] [(0, v100)] μ
noncomputable def f_W_deserts_69 (z : zZ) (d : Nat) (v100 : Int) (μ : Mu) : mR := g_W_deserts_69 (fun pc ls st μ => mE z d q_W_deserts pc ls st μ) v100 μ
theorem k_W_deserts : zprK q_W_deserts.2.2.2 = true ∧ zinc q_W_deserts.2.2.2 = true := by decide +kernel
set_option maxRecDepth 100000 in
theorem c_W_deserts (z : zZ) (d : Nat) (v1 : Int) (v2 : Int) (μ : Mu) (hv1 : v1 = 0 ∨ v1 = 1) : mC z (d + 1) 98 [(2, 0), (0, v1), (0, v2)] μ = (mC z d 85 [(2, 0)] μ).bind fun q1 => (gI (zw (0 + v2)) 36 ((mC z d 82 [(2, 0), (0, v1)] q1.2).bind fun q2 => (f_W_deserts_25 z d v1 v2 q1.1 (q1.2 ((4 + 9 * v1.toNat) + 3) ((zw (0 + v2)).toNat)) q2.2))) := by
  rw [mC_succ q_W_deserts rfl rfl rfl]
  rw [mE_bk (M := q_W_deserts) k_W_deserts.1 k_W_deserts.2 [25, 68, 69] 400]
  have key : ∀ (C : Nat → List zv → Mu → mR) (E : Nat → List zv → List zv → Mu → mR), mbk C E q_W_deserts.1 q_W_deserts.2.1 z q_W_deserts.2.2.2 [25, 68, 69] 400 (zfind q_W_deserts.2.2.2 0) (zentry q_W_deserts.2.2.1 [(2, 0), (0, v1), (0, v2)]) [] μ = (C 85 [(2, 0)] μ).bind fun q1 => (gI (zw (0 + v2)) 36 ((C 82 [(2, 0), (0, v1)] q1.2).bind fun q2 => (g_W_deserts_25 E v1 v2 q1.1 (q1.2 ((4 + 9 * v1.toNat) + 3) ((zw (0 + v2)).toNat)) q2.2))) := by
    intro C E
    rcases hv1 with rfl | rfl <;> (rfl)
  exact key _ _
set_option maxRecDepth 100000 in
theorem e_W_deserts_25 (z : zZ) (d : Nat) (v1 : Int) (v2 : Int) (v3 : Int) (v4 : Int) (μ : Mu) (m0_6 : Nat) (hcm0_6 : m0_6 = 41 ∨ m0_6 = 47) (hm0_6 : μ 0 6 = ((m0_6 : Nat) : Int) + 1) : f_W_deserts_25 z d v1 v2 v3 v4 μ = (mC z d 86 [(2, ((m0_6 : Nat) : Int)), (0, 100), (2, 53)] (zup (zup μ 53 7 v2) 53 8 v4)).bind fun q1 => (bif decide (q1.1 ≤ v3) then (f_W_deserts_68 z d q1.2) else (bif decide (v4 ≤ 0) then (f_W_deserts_68 z d q1.2) else (f_W_deserts_69 z d 1 q1.2))) := by
  show mE z d q_W_deserts 25 [(2, 0), (0, v1), (0, v2), (0, v3), (0, v4)] [] μ = _
  rw [mE_bk (M := q_W_deserts) k_W_deserts.1 k_W_deserts.2 [25, 68, 69] 400]
  have key : ∀ (C : Nat → List zv → Mu → mR) (E : Nat → List zv → List zv → Mu → mR), mbk C E q_W_deserts.1 q_W_deserts.2.1 z q_W_deserts.2.2.2 [25, 68, 69] 400 (zfind q_W_deserts.2.2.2 25) [(2, 0), (0, v1), (0, v2), (0, v3), (0, v4)] [] μ = (C 86 [(2, ((m0_6 : Nat) : Int)), (0, 100), (2, 53)] (zup (zup μ 53 7 v2) 53 8 v4)).bind fun q1 => (bif decide (q1.1 ≤ v3) then (g_W_deserts_68 E q1.2) else (bif decide (v4 ≤ 0) then (g_W_deserts_68 E q1.2) else (g_W_deserts_69 E 1 q1.2))) := by
    intro C E
    rcases hcm0_6 with rfl | rfl <;> (rw [← zup_self hm0_6]; rfl)
  exact key _ _
set_option maxRecDepth 100000 in
theorem e_W_deserts_68 (z : zZ) (d : Nat) (μ : Mu) : f_W_deserts_68 z d μ = f_W_deserts_69 z d 0 μ := by
  show mE z d q_W_deserts 68 [(9, 0), (9, 0), (9, 0), (9, 0), (9, 0)] [] μ = _
  rw [mE_bk (M := q_W_deserts) k_W_deserts.1 k_W_deserts.2 [25, 68, 69] 400]
  have key : ∀ (C : Nat → List zv → Mu → mR) (E : Nat → List zv → List zv → Mu → mR), mbk C E q_W_deserts.1 q_W_deserts.2.1 z q_W_deserts.2.2.2 [25, 68, 69] 400 (zfind q_W_deserts.2.2.2 68) [(9, 0), (9, 0), (9, 0), (9, 0), (9, 0)] [] μ = g_W_deserts_69 E 0 μ := by
    intro C E
    rfl
  exact key _ _
set_option maxRecDepth 100000 in
theorem e_W_deserts_69 (z : zZ) (d : Nat) (v100 : Int) (μ : Mu) : f_W_deserts_69 z d v100 μ = g01 v100 (some (v100, μ)) := by
  show mE z d q_W_deserts 69 [(9, 0), (9, 0), (9, 0), (9, 0), (9, 0)] [(0, v100)] μ = _
  rw [mE_bk (M := q_W_deserts) k_W_deserts.1 k_W_deserts.2 [25, 68, 69] 400]
  have key : ∀ (C : Nat → List zv → Mu → mR) (E : Nat → List zv → List zv → Mu → mR), mbk C E q_W_deserts.1 q_W_deserts.2.1 z q_W_deserts.2.2.2 [25, 68, 69] 400 (zfind q_W_deserts.2.2.2 69) [(9, 0), (9, 0), (9, 0), (9, 0), (9, 0)] [(0, v100)] μ = g01 v100 (some (v100, μ)) := by
    intro C E
    rfl
  exact key _ _
