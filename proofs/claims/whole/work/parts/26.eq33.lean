def g_W_home_12 (E : Nat → List zv → List zv → Mu → mR) (μ : Mu) : mR := E 12 [(9, 0), (9, 0), (9, 0), (9, 0)] [] μ
noncomputable def f_W_home_12 (z : zZ) (d : Nat) (μ : Mu) : mR := g_W_home_12 (fun pc ls st μ => mE z d q_W_home pc ls st μ) μ
def g_W_home_50 (E : Nat → List zv → List zv → Mu → mR) (μ : Mu) : mR := E 50 [(9, 0), (9, 0), (9, 0), (9, 0)] [] μ
noncomputable def f_W_home_50 (z : zZ) (d : Nat) (μ : Mu) : mR := g_W_home_50 (fun pc ls st μ => mE z d q_W_home pc ls st μ) μ
def g_W_home_52 (E : Nat → List zv → List zv → Mu → mR) (v1 : Int) (v2 : Int) (μ : Mu) : mR := E 52 [(2, 0), (0, v1), (0, v2), (9, 0)] [] μ
noncomputable def f_W_home_52 (z : zZ) (d : Nat) (v1 : Int) (v2 : Int) (μ : Mu) : mR := g_W_home_52 (fun pc ls st μ => mE z d q_W_home pc ls st μ) v1 v2 μ
def g_W_home_54 (E : Nat → List zv → List zv → Mu → mR) (v1 : Int) (v2 : Int) (v3 : Int) (μ : Mu) : mR := E 54 [(2, 0), (0, v1), (0, v2), (0, v3)] [] μ
noncomputable def f_W_home_54 (z : zZ) (d : Nat) (v1 : Int) (v2 : Int) (v3 : Int) (μ : Mu) : mR := g_W_home_54 (fun pc ls st μ => mE z d q_W_home pc ls st μ) v1 v2 v3 μ
def g_W_home_59 (E : Nat → List zv → List zv → Mu → mR) (v1 : Int) (v2 : Int) (v3 : Int) (μ : Mu) : mR := E 59 [(2, 0), (0, v1), (0, v2), (0, v3)] [] μ
noncomputable def f_W_home_59 (z : zZ) (d : Nat) (v1 : Int) (v2 : Int) (v3 : Int) (μ : Mu) : mR := g_W_home_59 (fun pc ls st μ => mE z d q_W_home pc ls st μ) v1 v2 v3 μ
theorem k_W_home : zprK q_W_home.2.2.2 = true ∧ zinc q_W_home.2.2.2 = true := by decide +kernel
set_option maxRecDepth 100000 in
theorem c_W_home (z : zZ) (d : Nat) (v1 : Int) (v2 : Int) (μ : Mu) : mC z (d + 1) 127 [(2, 0), (0, v1), (0, v2)] μ = (mC z d 13 [(0, v1)] μ).bind fun q1 => (bif decide (q1.1 = 0) then (f_W_home_12 z d q1.2) else (bif decide (1 ≤ v2) then (gI (zw (24 + v1)) 36 (bif decide (q1.2 7 ((zw (24 + v1)).toNat) < v2) then (f_W_home_50 z d q1.2) else (gI (zw (24 + v1)) 36 (bif decide (v2 ≤ q1.2 16 ((zw (24 + v1)).toNat)) then (f_W_home_52 z d v1 v2 q1.2) else (f_W_home_50 z d q1.2))))) else (f_W_home_12 z d q1.2))) := by
  rw [mC_succ q_W_home rfl rfl rfl]
  rw [mE_bk (M := q_W_home) k_W_home.1 k_W_home.2 [12, 50, 52, 54, 59] 400]
  have key : ∀ (C : Nat → List zv → Mu → mR) (E : Nat → List zv → List zv → Mu → mR), mbk C E q_W_home.1 q_W_home.2.1 z q_W_home.2.2.2 [12, 50, 52, 54, 59] 400 (zfind q_W_home.2.2.2 0) (zentry q_W_home.2.2.1 [(2, 0), (0, v1), (0, v2)]) [] μ = (C 13 [(0, v1)] μ).bind fun q1 => (bif decide (q1.1 = 0) then (g_W_home_12 E q1.2) else (bif decide (1 ≤ v2) then (gI (zw (24 + v1)) 36 (bif decide (q1.2 7 ((zw (24 + v1)).toNat) < v2) then (g_W_home_50 E q1.2) else (gI (zw (24 + v1)) 36 (bif decide (v2 ≤ q1.2 16 ((zw (24 + v1)).toNat)) then (g_W_home_52 E v1 v2 q1.2) else (g_W_home_50 E q1.2))))) else (g_W_home_12 E q1.2))) := by
    intro C E
    rfl
  exact key _ _
set_option maxRecDepth 100000 in
theorem e_W_home_12 (z : zZ) (d : Nat) (μ : Mu) : f_W_home_12 z d μ = some (0, μ) := by
  show mE z d q_W_home 12 [(9, 0), (9, 0), (9, 0), (9, 0)] [] μ = _
  rw [mE_bk (M := q_W_home) k_W_home.1 k_W_home.2 [12, 50, 52, 54, 59] 400]
  have key : ∀ (C : Nat → List zv → Mu → mR) (E : Nat → List zv → List zv → Mu → mR), mbk C E q_W_home.1 q_W_home.2.1 z q_W_home.2.2.2 [12, 50, 52, 54, 59] 400 (zfind q_W_home.2.2.2 12) [(9, 0), (9, 0), (9, 0), (9, 0)] [] μ = some (0, μ) := by
    intro C E
    rfl
  exact key _ _
set_option maxRecDepth 100000 in
theorem e_W_home_50 (z : zZ) (d : Nat) (μ : Mu) : f_W_home_50 z d μ = some (0, μ) := by
  show mE z d q_W_home 50 [(9, 0), (9, 0), (9, 0), (9, 0)] [] μ = _
  rw [mE_bk (M := q_W_home) k_W_home.1 k_W_home.2 [12, 50, 52, 54, 59] 400]
  have key : ∀ (C : Nat → List zv → Mu → mR) (E : Nat → List zv → List zv → Mu → mR), mbk C E q_W_home.1 q_W_home.2.1 z q_W_home.2.2.2 [12, 50, 52, 54, 59] 400 (zfind q_W_home.2.2.2 50) [(9, 0), (9, 0), (9, 0), (9, 0)] [] μ = some (0, μ) := by
    intro C E
    rfl
  exact key _ _
set_option maxRecDepth 100000 in
theorem e_W_home_52 (z : zZ) (d : Nat) (v1 : Int) (v2 : Int) (μ : Mu) : f_W_home_52 z d v1 v2 μ = f_W_home_54 z d v1 v2 0 μ := by
  show mE z d q_W_home 52 [(2, 0), (0, v1), (0, v2), (9, 0)] [] μ = _
  rw [mE_bk (M := q_W_home) k_W_home.1 k_W_home.2 [12, 50, 52, 54, 59] 400]
  have key : ∀ (C : Nat → List zv → Mu → mR) (E : Nat → List zv → List zv → Mu → mR), mbk C E q_W_home.1 q_W_home.2.1 z q_W_home.2.2.2 [12, 50, 52, 54, 59] 400 (zfind q_W_home.2.2.2 52) [(2, 0), (0, v1), (0, v2), (9, 0)] [] μ = g_W_home_54 E v1 v2 0 μ := by
    intro C E
    rfl
  exact key _ _
set_option maxRecDepth 100000 in
theorem e_W_home_54 (z : zZ) (d : Nat) (v1 : Int) (v2 : Int) (v3 : Int) (μ : Mu) : f_W_home_54 z d v1 v2 v3 μ = bif decide (2 ≤ v3) then (some (1, μ)) else (f_W_home_59 z d v1 v2 v3 μ) := by
  show mE z d q_W_home 54 [(2, 0), (0, v1), (0, v2), (0, v3)] [] μ = _
  rw [mE_bk (M := q_W_home) k_W_home.1 k_W_home.2 [12, 50, 52, 54, 59] 400]
  have key : ∀ (C : Nat → List zv → Mu → mR) (E : Nat → List zv → List zv → Mu → mR), mbk C E q_W_home.1 q_W_home.2.1 z q_W_home.2.2.2 [12, 50, 52, 54, 59] 400 (zfind q_W_home.2.2.2 54) [(2, 0), (0, v1), (0, v2), (0, v3)] [] μ = bif decide (2 ≤ v3) then (some (1, μ)) else (g_W_home_59 E v1 v2 v3 μ) := by
    intro C E
    rfl
  exact key _ _
set_option maxRecDepth 100000 in
theorem e_W_home_59 (z : zZ) (d : Nat) (v1 : Int) (v2 : Int) (v3 : Int) (μ : Mu) (hv3 : v3 = 0 ∨ v3 = 1) : f_W_home_59 z d v1 v2 v3 μ = gI (zw (24 + v1)) 36 (gI (zw (24 + v1)) 36 ((mC z d 42 [(2, (((4 + 9 * v3.toNat) : Nat) : Int)), (0, 0), (0, v1), (0, v2)] (zup μ ((4 + 9 * v3.toNat) + 3) ((zw (24 + v1)).toNat) (zw ((μ ((4 + 9 * v3.toNat) + 3) ((zw (24 + v1)).toNat)) - v2)))).bind fun q1 => (f_W_home_54 z d v1 v2 (zw (v3 + 1)) q1.2))) := by
  show mE z d q_W_home 59 [(2, 0), (0, v1), (0, v2), (0, v3)] [] μ = _
  rw [mE_bk (M := q_W_home) k_W_home.1 k_W_home.2 [12, 50, 52, 54, 59] 400]
  have key : ∀ (C : Nat → List zv → Mu → mR) (E : Nat → List zv → List zv → Mu → mR), mbk C E q_W_home.1 q_W_home.2.1 z q_W_home.2.2.2 [12, 50, 52, 54, 59] 400 (zfind q_W_home.2.2.2 59) [(2, 0), (0, v1), (0, v2), (0, v3)] [] μ = gI (zw (24 + v1)) 36 (gI (zw (24 + v1)) 36 ((C 42 [(2, (((4 + 9 * v3.toNat) : Nat) : Int)), (0, 0), (0, v1), (0, v2)] (zup μ ((4 + 9 * v3.toNat) + 3) ((zw (24 + v1)).toNat) (zw ((μ ((4 + 9 * v3.toNat) + 3) ((zw (24 + v1)).toNat)) - v2)))).bind fun q1 => (g_W_home_54 E v1 v2 (zw (v3 + 1)) q1.2))) := by
    intro C E
    rcases hv3 with rfl | rfl <;> (rfl)
  exact key _ _
def g_W_peace_26 (E : Nat → List zv → List zv → Mu → mR) (μ : Mu) : mR := E 26 [(9, 0), (9, 0), (9, 0), (9, 0)] [] μ
noncomputable def f_W_peace_26 (z : zZ) (d : Nat) (μ : Mu) : mR := g_W_peace_26 (fun pc ls st μ => mE z d q_W_peace pc ls st μ) μ
def g_W_peace_80 (E : Nat → List zv → List zv → Mu → mR) (v3 : Int) (μ : Mu) : mR := E 80 [(2, 0), (9, 0), (9, 0), (0, v3)] [] μ
noncomputable def f_W_peace_80 (z : zZ) (d : Nat) (v3 : Int) (μ : Mu) : mR := g_W_peace_80 (fun pc ls st μ => mE z d q_W_peace pc ls st μ) v3 μ
def g_W_peace_105 (E : Nat → List zv → List zv → Mu → mR) (v100 : Int) (μ : Mu) : mR := E 105 [(9, 0), (9, 0), (9, 0), (9, 0)] [(0, v100)] μ
noncomputable def f_W_peace_105 (z : zZ) (d : Nat) (v100 : Int) (μ : Mu) : mR := g_W_peace_105 (fun pc ls st μ => mE z d q_W_peace pc ls st μ) v100 μ
theorem k_W_peace : zprK q_W_peace.2.2.2 = true ∧ zinc q_W_peace.2.2.2 = true := by decide +kernel
set_option maxRecDepth 100000 in
theorem c_W_peace (z : zZ) (d : Nat) (v1 : Int) (v2 : Int) (v3 : Int) (μ : Mu) : mC z (d + 1) 128 [(2, 0), (0, v1), (0, v2), (0, v3)] μ = (mC z d 37 [(2, 4), (0, v1)] μ).bind fun q1 => (bif decide (q1.1 = 0) then (f_W_peace_26 z d q1.2) else ((mC z d 37 [(2, 13), (0, v2)] q1.2).bind fun q2 => (bif !decide (q2.1 = 0) then (gI v1 12 (gI v2 12 ((mC z d 129 [(2, 55), (0, q2.2 8 v1.toNat), (0, q2.2 17 v2.toNat), (2, 6)] q2.2).bind fun q3 => (bif !decide (v3 = 20) then (f_W_peace_80 z d v3 q3.2) else (some (q3.2 55 1, q3.2)))))) else (f_W_peace_26 z d q2.2)))) := by
  rw [mC_succ q_W_peace rfl rfl rfl]
  rw [mE_bk (M := q_W_peace) k_W_peace.1 k_W_peace.2 [26, 80, 105] 400]
  have key : ∀ (C : Nat → List zv → Mu → mR) (E : Nat → List zv → List zv → Mu → mR), mbk C E q_W_peace.1 q_W_peace.2.1 z q_W_peace.2.2.2 [26, 80, 105] 400 (zfind q_W_peace.2.2.2 0) (zentry q_W_peace.2.2.1 [(2, 0), (0, v1), (0, v2), (0, v3)]) [] μ = (C 37 [(2, 4), (0, v1)] μ).bind fun q1 => (bif decide (q1.1 = 0) then (g_W_peace_26 E q1.2) else ((C 37 [(2, 13), (0, v2)] q1.2).bind fun q2 => (bif !decide (q2.1 = 0) then (gI v1 12 (gI v2 12 ((C 129 [(2, 55), (0, q2.2 8 v1.toNat), (0, q2.2 17 v2.toNat), (2, 6)] q2.2).bind fun q3 => (bif !decide (v3 = 20) then (g_W_peace_80 E v3 q3.2) else (some (q3.2 55 1, q3.2)))))) else (g_W_peace_26 E q2.2)))) := by
    intro C E
    rfl
  exact key _ _
set_option maxRecDepth 100000 in
theorem e_W_peace_26 (z : zZ) (d : Nat) (μ : Mu) : f_W_peace_26 z d μ = some ((-1), μ) := by
  show mE z d q_W_peace 26 [(9, 0), (9, 0), (9, 0), (9, 0)] [] μ = _
  rw [mE_bk (M := q_W_peace) k_W_peace.1 k_W_peace.2 [26, 80, 105] 400]
  have key : ∀ (C : Nat → List zv → Mu → mR) (E : Nat → List zv → List zv → Mu → mR), mbk C E q_W_peace.1 q_W_peace.2.1 z q_W_peace.2.2.2 [26, 80, 105] 400 (zfind q_W_peace.2.2.2 26) [(9, 0), (9, 0), (9, 0), (9, 0)] [] μ = some ((-1), μ) := by
    intro C E
    rfl
  exact key _ _
set_option maxRecDepth 100000 in
theorem e_W_peace_80 (z : zZ) (d : Nat) (v3 : Int) (μ : Mu) : f_W_peace_80 z d v3 μ = (mC z d 133 [(2, 55), (0, v3)] μ).bind fun q1 => (bif decide (q1.1 = 0) then (f_W_peace_105 z d ((-2)) q1.2) else (gI v3 16 (f_W_peace_105 z d (q1.2 56 v3.toNat) q1.2))) := by
  show mE z d q_W_peace 80 [(2, 0), (9, 0), (9, 0), (0, v3)] [] μ = _
  rw [mE_bk (M := q_W_peace) k_W_peace.1 k_W_peace.2 [26, 80, 105] 400]
  have key : ∀ (C : Nat → List zv → Mu → mR) (E : Nat → List zv → List zv → Mu → mR), mbk C E q_W_peace.1 q_W_peace.2.1 z q_W_peace.2.2.2 [26, 80, 105] 400 (zfind q_W_peace.2.2.2 80) [(2, 0), (9, 0), (9, 0), (0, v3)] [] μ = (C 133 [(2, 55), (0, v3)] μ).bind fun q1 => (bif decide (q1.1 = 0) then (g_W_peace_105 E ((-2)) q1.2) else (gI v3 16 (g_W_peace_105 E (q1.2 56 v3.toNat) q1.2))) := by
    intro C E
    rfl
  exact key _ _
set_option maxRecDepth 100000 in
theorem e_W_peace_105 (z : zZ) (d : Nat) (v100 : Int) (μ : Mu) : f_W_peace_105 z d v100 μ = some (v100, μ) := by
  show mE z d q_W_peace 105 [(9, 0), (9, 0), (9, 0), (9, 0)] [(0, v100)] μ = _
  rw [mE_bk (M := q_W_peace) k_W_peace.1 k_W_peace.2 [26, 80, 105] 400]
  have key : ∀ (C : Nat → List zv → Mu → mR) (E : Nat → List zv → List zv → Mu → mR), mbk C E q_W_peace.1 q_W_peace.2.1 z q_W_peace.2.2.2 [26, 80, 105] 400 (zfind q_W_peace.2.2.2 105) [(9, 0), (9, 0), (9, 0), (9, 0)] [(0, v100)] μ = some (v100, μ) := by
    intro C E
    rfl
  exact key _ _
def g_Tre_make_33 (E : Nat → List zv → List zv → Mu → mR) (v1 : Int) (v2 : Int) (v3 : Int) (v4 : Int) (v5 : Int) (v6 : Int) (v7 : Int) (μ : Mu) : mR := E 33 [(2, 55), (0, v1), (0, v2), (2, v3), (0, v4), (0, v5), (0, v6), (0, v7), (9, 0), (9, 0), (9, 0)] [] μ
noncomputable def f_Tre_make_33 (z : zZ) (d : Nat) (v1 : Int) (v2 : Int) (v3 : Int) (v4 : Int) (v5 : Int) (v6 : Int) (v7 : Int) (μ : Mu) : mR := g_Tre_make_33 (fun pc ls st μ => mE z d q_Tre_make pc ls st μ) v1 v2 v3 v4 v5 v6 v7 μ
def g_Tre_make_59 (E : Nat → List zv → List zv → Mu → mR) (v1 : Int) (v2 : Int) (v3 : Int) (v4 : Int) (v5 : Int) (v6 : Int) (v7 : Int) (μ : Mu) : mR := E 59 [(2, 55), (0, v1), (0, v2), (2, v3), (0, v4), (0, v5), (0, v6), (0, v7), (9, 0), (9, 0), (9, 0)] [] μ
noncomputable def f_Tre_make_59 (z : zZ) (d : Nat) (v1 : Int) (v2 : Int) (v3 : Int) (v4 : Int) (v5 : Int) (v6 : Int) (v7 : Int) (μ : Mu) : mR := g_Tre_make_59 (fun pc ls st μ => mE z d q_Tre_make pc ls st μ) v1 v2 v3 v4 v5 v6 v7 μ
def g_Tre_make_115 (E : Nat → List zv → List zv → Mu → mR) (v1 : Int) (v2 : Int) (v3 : Int) (v4 : Int) (v5 : Int) (v6 : Int) (v7 : Int) (v8 : Int) (v9 : Int) (v101 : Int) (v102 : Int) (v103 : Int) (v104 : Int) (μ : Mu) : mR := E 115 [(2, 55), (0, v1), (0, v2), (2, v3), (0, v4), (0, v5), (0, v6), (0, v7), (0, v8), (0, v9), (9, 0)] [(0, v104), (0, v103), (0, v102), (0, v101), (2, 55)] μ
noncomputable def f_Tre_make_115 (z : zZ) (d : Nat) (v1 : Int) (v2 : Int) (v3 : Int) (v4 : Int) (v5 : Int) (v6 : Int) (v7 : Int) (v8 : Int) (v9 : Int) (v101 : Int) (v102 : Int) (v103 : Int) (v104 : Int) (μ : Mu) : mR := g_Tre_make_115 (fun pc ls st μ => mE z d q_Tre_make pc ls st μ) v1 v2 v3 v4 v5 v6 v7 v8 v9 v101 v102 v103 v104 μ
def g_Tre_make_116 (E : Nat → List zv → List zv → Mu → mR) (v1 : Int) (v2 : Int) (v3 : Int) (v4 : Int) (v5 : Int) (v6 : Int) (v7 : Int) (v8 : Int) (v9 : Int) (v101 : Int) (v102 : Int) (v103 : Int) (v104 : Int) (v105 : Int) (μ : Mu) : mR := E 116 [(2, 55), (0, v1), (0, v2), (2, v3), (0, v4), (0, v5), (0, v6), (0, v7), (0, v8), (0, v9), (9, 0)] [(0, v105), (0, v104), (0, v103), (0, v102), (0, v101), (2, 55)] μ
noncomputable def f_Tre_make_116 (z : zZ) (d : Nat) (v1 : Int) (v2 : Int) (v3 : Int) (v4 : Int) (v5 : Int) (v6 : Int) (v7 : Int) (v8 : Int) (v9 : Int) (v101 : Int) (v102 : Int) (v103 : Int) (v104 : Int) (v105 : Int) (μ : Mu) : mR := g_Tre_make_116 (fun pc ls st μ => mE z d q_Tre_make pc ls st μ) v1 v2 v3 v4 v5 v6 v7 v8 v9 v101 v102 v103 v104 v105 μ
def g_Tre_make_141 (E : Nat → List zv → List zv → Mu → mR) (v1 : Int) (v2 : Int) (v3 : Int) (v4 : Int) (v5 : Int) (v6 : Int) (v7 : Int) (v8 : Int) (v9 : Int) (v10 : Int) (v101 : Int) (μ : Mu) : mR := E 141 [(2, 55), (0, v1), (0, v2), (2, v3), (0, v4), (0, v5), (0, v6), (0, v7), (0, v8), (0, v9), (0, v10)] [(0, v101), (2, 56)] μ
noncomputable def f_Tre_make_141 (z : zZ) (d : Nat) (v1 : Int) (v2 : Int) (v3 : Int) (v4 : Int) (v5 : Int) (v6 : Int) (v7 : Int) (v8 : Int) (v9 : Int) (v10 : Int) (v101 : Int) (μ : Mu) : mR := g_Tre_make_141 (fun pc ls st μ => mE z d q_Tre_make pc ls st μ) v1 v2 v3 v4 v5 v6 v7 v8 v9 v10 v101 μ
def g_Tre_make_148 (E : Nat → List zv → List zv → Mu → mR) (v1 : Int) (v2 : Int) (v3 : Int) (v4 : Int) (v5 : Int) (v6 : Int) (v7 : Int) (v8 : Int) (v9 : Int) (v10 : Int) (v101 : Int) (v102 : Int) (μ : Mu) : mR := E 148 [(2, 55), (0, v1), (0, v2), (2, v3), (0, v4), (0, v5), (0, v6), (0, v7), (0, v8), (0, v9), (0, v10)] [(0, v102), (0, v101), (2, 56)] μ
noncomputable def f_Tre_make_148 (z : zZ) (d : Nat) (v1 : Int) (v2 : Int) (v3 : Int) (v4 : Int) (v5 : Int) (v6 : Int) (v7 : Int) (v8 : Int) (v9 : Int) (v10 : Int) (v101 : Int) (v102 : Int) (μ : Mu) : mR := g_Tre_make_148 (fun pc ls st μ => mE z d q_Tre_make pc ls st μ) v1 v2 v3 v4 v5 v6 v7 v8 v9 v10 v101 v102 μ
def g_Tre_make_171 (E : Nat → List zv → List zv → Mu → mR) (v1 : Int) (v2 : Int) (v3 : Int) (v4 : Int) (v5 : Int) (v6 : Int) (v7 : Int) (v8 : Int) (v9 : Int) (v10 : Int) (μ : Mu) : mR := E 171 [(2, 55), (0, v1), (0, v2), (2, v3), (0, v4), (0, v5), (0, v6), (0, v7), (0, v8), (0, v9), (0, v10)] [] μ
noncomputable def f_Tre_make_171 (z : zZ) (d : Nat) (v1 : Int) (v2 : Int) (v3 : Int) (v4 : Int) (v5 : Int) (v6 : Int) (v7 : Int) (v8 : Int) (v9 : Int) (v10 : Int) (μ : Mu) : mR := g_Tre_make_171 (fun pc ls st μ => mE z d q_Tre_make pc ls st μ) v1 v2 v3 v4 v5 v6 v7 v8 v9 v10 μ
def g_Tre_make_174 (E : Nat → List zv → List zv → Mu → mR) (v1 : Int) (v2 : Int) (v3 : Int) (v4 : Int) (v5 : Int) (v6 : Int) (v7 : Int) (v8 : Int) (v9 : Int) (v10 : Int) (μ : Mu) : mR := E 174 [(2, 55), (0, v1), (0, v2), (2, v3), (0, v4), (0, v5), (0, v6), (0, v7), (0, v8), (0, v9), (0, v10)] [] μ
noncomputable def f_Tre_make_174 (z : zZ) (d : Nat) (v1 : Int) (v2 : Int) (v3 : Int) (v4 : Int) (v5 : Int) (v6 : Int) (v7 : Int) (v8 : Int) (v9 : Int) (v10 : Int) (μ : Mu) : mR := g_Tre_make_174 (fun pc ls st μ => mE z d q_Tre_make pc ls st μ) v1 v2 v3 v4 v5 v6 v7 v8 v9 v10 μ
def g_Tre_make_186 (E : Nat → List zv → List zv → Mu → mR) (v1 : Int) (v2 : Int) (v3 : Int) (v4 : Int) (v5 : Int) (v6 : Int) (v7 : Int) (μ : Mu) : mR := E 186 [(2, 55), (0, v1), (0, v2), (2, v3), (0, v4), (0, v5), (0, v6), (0, v7), (9, 0), (9, 0), (9, 0)] [] μ
noncomputable def f_Tre_make_186 (z : zZ) (d : Nat) (v1 : Int) (v2 : Int) (v3 : Int) (v4 : Int) (v5 : Int) (v6 : Int) (v7 : Int) (μ : Mu) : mR := g_Tre_make_186 (fun pc ls st μ => mE z d q_Tre_make pc ls st μ) v1 v2 v3 v4 v5 v6 v7 μ
def g_Tre_make_189 (E : Nat → List zv → List zv → Mu → mR) (v1 : Int) (v2 : Int) (v3 : Int) (v4 : Int) (v5 : Int) (v6 : Int) (v7 : Int) (μ : Mu) : mR := E 189 [(2, 55), (0, v1), (0, v2), (2, v3), (0, v4), (0, v5), (0, v6), (0, v7), (9, 0), (9, 0), (9, 0)] [] μ
noncomputable def f_Tre_make_189 (z : zZ) (d : Nat) (v1 : Int) (v2 : Int) (v3 : Int) (v4 : Int) (v5 : Int) (v6 : Int) (v7 : Int) (μ : Mu) : mR := g_Tre_make_189 (fun pc ls st μ => mE z d q_Tre_make pc ls st μ) v1 v2 v3 v4 v5 v6 v7 μ
def g_Tre_make_192 (E : Nat → List zv → List zv → Mu → mR) (μ : Mu) : mR := E 192 [(9, 0), (9, 0), (9, 0), (9, 0), (9, 0), (9, 0), (9, 0), (9, 0), (9, 0), (9, 0), (9, 0)] [] μ
noncomputable def f_Tre_make_192 (z : zZ) (d : Nat) (μ : Mu) : mR := g_Tre_make_192 (fun pc ls st μ => mE z d q_Tre_make pc ls st μ) μ
theorem k_Tre_make : zprK q_Tre_make.2.2.2 = true ∧ zinc q_Tre_make.2.2.2 = true := by decide +kernel
set_option maxRecDepth 100000 in
theorem c_Tre_make (z : zZ) (d : Nat) (v1 : Int) (v2 : Int) (v3 : Int) (μ : Mu) : mC z (d + 1) 129 [(2, 55), (0, v1), (0, v2), (2, v3)] μ = (mC z d 68 [(0, v1)] μ).bind fun q1 => ((mC z d 68 [(0, v2)] q1.2).bind fun q2 => ((mC z d 130 [(2, 55), (0, v1), (0, v2), (0, q1.1), (0, q2.1)] q2.2).bind fun q3 => (f_Tre_make_33 z d v1 v2 v3 q1.1 q2.1 0 0 (zup q3.2 55 1 0)))) := by
  rw [mC_succ q_Tre_make rfl rfl rfl]
  rw [mE_bk (M := q_Tre_make) k_Tre_make.1 k_Tre_make.2 [33, 59, 115, 116, 141, 148, 171, 174, 186, 189, 192] 400]
  have key : ∀ (C : Nat → List zv → Mu → mR) (E : Nat → List zv → List zv → Mu → mR), mbk C E q_Tre_make.1 q_Tre_make.2.1 z q_Tre_make.2.2.2 [33, 59, 115, 116, 141, 148, 171, 174, 186, 189, 192] 400 (zfind q_Tre_make.2.2.2 0) (zentry q_Tre_make.2.2.1 [(2, 55), (0, v1), (0, v2), (2, v3)]) [] μ = (C 68 [(0, v1)] μ).bind fun q1 => ((C 68 [(0, v2)] q1.2).bind fun q2 => ((C 130 [(2, 55), (0, v1), (0, v2), (0, q1.1), (0, q2.1)] q2.2).bind fun q3 => (g_Tre_make_33 E v1 v2 v3 q1.1 q2.1 0 0 (zup q3.2 55 1 0)))) := by
    intro C E
    rfl
  exact key _ _
set_option maxRecDepth 100000 in
theorem e_Tre_make_33 (z : zZ) (d : Nat) (v1 : Int) (v2 : Int) (v3 : Int) (v4 : Int) (v5 : Int) (v6 : Int) (v7 : Int) (μ : Mu) : f_Tre_make_33 z d v1 v2 v3 v4 v5 v6 v7 μ = bif decide (16 ≤ μ 55 1) then (f_Tre_make_192 z d μ) else (bif decide (v6 < v4) then (f_Tre_make_59 z d v1 v2 v3 v4 v5 v6 v7 μ) else (bif decide (v5 ≤ v7) then (f_Tre_make_192 z d μ) else (f_Tre_make_59 z d v1 v2 v3 v4 v5 v6 v7 μ))) := by
  show mE z d q_Tre_make 33 [(2, 55), (0, v1), (0, v2), (2, v3), (0, v4), (0, v5), (0, v6), (0, v7), (9, 0), (9, 0), (9, 0)] [] μ = _
  rw [mE_bk (M := q_Tre_make) k_Tre_make.1 k_Tre_make.2 [33, 59, 115, 116, 141, 148, 171, 174, 186, 189, 192] 400]
  have key : ∀ (C : Nat → List zv → Mu → mR) (E : Nat → List zv → List zv → Mu → mR), mbk C E q_Tre_make.1 q_Tre_make.2.1 z q_Tre_make.2.2.2 [33, 59, 115, 116, 141, 148, 171, 174, 186, 189, 192] 400 (zfind q_Tre_make.2.2.2 33) [(2, 55), (0, v1), (0, v2), (2, v3), (0, v4), (0, v5), (0, v6), (0, v7), (9, 0), (9, 0), (9, 0)] [] μ = bif decide (16 ≤ μ 55 1) then (g_Tre_make_192 E μ) else (bif decide (v6 < v4) then (g_Tre_make_59 E v1 v2 v3 v4 v5 v6 v7 μ) else (bif decide (v5 ≤ v7) then (g_Tre_make_192 E μ) else (g_Tre_make_59 E v1 v2 v3 v4 v5 v6 v7 μ))) := by
    intro C E
    rfl
  exact key _ _
set_option maxRecDepth 100000 in
theorem e_Tre_make_192 (z : zZ) (d : Nat) (μ : Mu) : f_Tre_make_192 z d μ = some (0, μ) := by
  show mE z d q_Tre_make 192 [(9, 0), (9, 0), (9, 0), (9, 0), (9, 0), (9, 0), (9, 0), (9, 0), (9, 0), (9, 0), (9, 0)] [] μ = _
  rw [mE_bk (M := q_Tre_make) k_Tre_make.1 k_Tre_make.2 [33, 59, 115, 116, 141, 148, 171, 174, 186, 189, 192] 400]
  have key : ∀ (C : Nat → List zv → Mu → mR) (E : Nat → List zv → List zv → Mu → mR), mbk C E q_Tre_make.1 q_Tre_make.2.1 z q_Tre_make.2.2.2 [33, 59, 115, 116, 141, 148, 171, 174, 186, 189, 192] 400 (zfind q_Tre_make.2.2.2 192) [(9, 0), (9, 0), (9, 0), (9, 0), (9, 0), (9, 0), (9, 0), (9, 0), (9, 0), (9, 0), (9, 0)] [] μ = some (0, μ) := by
    intro C E
    rfl
  exact key _ _
set_option maxRecDepth 100000 in
theorem e_Tre_make_59 (z : zZ) (d : Nat) (v1 : Int) (v2 : Int) (v3 : Int) (v4 : Int) (v5 : Int) (v6 : Int) (v7 : Int) (μ : Mu) : f_Tre_make_59 z d v1 v2 v3 v4 v5 v6 v7 μ = (mC z d 41 [(0, v1), (0, v6)] μ).bind fun q1 => ((mC z d 41 [(0, v2), (0, v7)] q1.2).bind fun q2 => ((mC z d 13 [(0, q1.1)] q2.2).bind fun q3 => (bif decide (q3.1 = 0) then (f_Tre_make_115 z d v1 v2 v3 v4 v5 v6 v7 q1.1 q2.1 v6 v7 v4 v5 q3.2) else ((mC z d 13 [(0, q2.1)] q3.2).bind fun q4 => (bif decide (q4.1 = 0) then (f_Tre_make_115 z d v1 v2 v3 v4 v5 v6 v7 q1.1 q2.1 v6 v7 v4 v5 q4.2) else (gA v3 q1.1 (gA v3 q2.1 (bif decide (q4.2 v3.toNat q2.1.toNat ≤ q4.2 v3.toNat q1.1.toNat) then (f_Tre_make_115 z d v1 v2 v3 v4 v5 v6 v7 q1.1 q2.1 v6 v7 v4 v5 q4.2) else (f_Tre_make_116 z d v1 v2 v3 v4 v5 v6 v7 q1.1 q2.1 v6 v7 v4 v5 1 q4.2))))))))) := by
  show mE z d q_Tre_make 59 [(2, 55), (0, v1), (0, v2), (2, v3), (0, v4), (0, v5), (0, v6), (0, v7), (9, 0), (9, 0), (9, 0)] [] μ = _
  rw [mE_bk (M := q_Tre_make) k_Tre_make.1 k_Tre_make.2 [33, 59, 115, 116, 141, 148, 171, 174, 186, 189, 192] 400]
  have key : ∀ (C : Nat → List zv → Mu → mR) (E : Nat → List zv → List zv → Mu → mR), mbk C E q_Tre_make.1 q_Tre_make.2.1 z q_Tre_make.2.2.2 [33, 59, 115, 116, 141, 148, 171, 174, 186, 189, 192] 400 (zfind q_Tre_make.2.2.2 59) [(2, 55), (0, v1), (0, v2), (2, v3), (0, v4), (0, v5), (0, v6), (0, v7), (9, 0), (9, 0), (9, 0)] [] μ = (C 41 [(0, v1), (0, v6)] μ).bind fun q1 => ((C 41 [(0, v2), (0, v7)] q1.2).bind fun q2 => ((C 13 [(0, q1.1)] q2.2).bind fun q3 => (bif decide (q3.1 = 0) then (g_Tre_make_115 E v1 v2 v3 v4 v5 v6 v7 q1.1 q2.1 v6 v7 v4 v5 q3.2) else ((C 13 [(0, q2.1)] q3.2).bind fun q4 => (bif decide (q4.1 = 0) then (g_Tre_make_115 E v1 v2 v3 v4 v5 v6 v7 q1.1 q2.1 v6 v7 v4 v5 q4.2) else (gA v3 q1.1 (gA v3 q2.1 (bif decide (q4.2 v3.toNat q2.1.toNat ≤ q4.2 v3.toNat q1.1.toNat) then (g_Tre_make_115 E v1 v2 v3 v4 v5 v6 v7 q1.1 q2.1 v6 v7 v4 v5 q4.2) else (g_Tre_make_116 E v1 v2 v3 v4 v5 v6 v7 q1.1 q2.1 v6 v7 v4 v5 1 q4.2))))))))) := by
    intro C E
    rfl
  exact key _ _
set_option maxRecDepth 100000 in
theorem e_Tre_make_115 (z : zZ) (d : Nat) (v1 : Int) (v2 : Int) (v3 : Int) (v4 : Int) (v5 : Int) (v6 : Int) (v7 : Int) (v8 : Int) (v9 : Int) (v101 : Int) (v102 : Int) (v103 : Int) (v104 : Int) (μ : Mu) : f_Tre_make_115 z d v1 v2 v3 v4 v5 v6 v7 v8 v9 v101 v102 v103 v104 μ = f_Tre_make_116 z d v1 v2 v3 v4 v5 v6 v7 v8 v9 v101 v102 v103 v104 0 μ := by
  show mE z d q_Tre_make 115 [(2, 55), (0, v1), (0, v2), (2, v3), (0, v4), (0, v5), (0, v6), (0, v7), (0, v8), (0, v9), (9, 0)] [(0, v104), (0, v103), (0, v102), (0, v101), (2, 55)] μ = _
  rw [mE_bk (M := q_Tre_make) k_Tre_make.1 k_Tre_make.2 [33, 59, 115, 116, 141, 148, 171, 174, 186, 189, 192] 400]
  have key : ∀ (C : Nat → List zv → Mu → mR) (E : Nat → List zv → List zv → Mu → mR), mbk C E q_Tre_make.1 q_Tre_make.2.1 z q_Tre_make.2.2.2 [33, 59, 115, 116, 141, 148, 171, 174, 186, 189, 192] 400 (zfind q_Tre_make.2.2.2 115) [(2, 55), (0, v1), (0, v2), (2, v3), (0, v4), (0, v5), (0, v6), (0, v7), (0, v8), (0, v9), (9, 0)] [(0, v104), (0, v103), (0, v102), (0, v101), (2, 55)] μ = g_Tre_make_116 E v1 v2 v3 v4 v5 v6 v7 v8 v9 v101 v102 v103 v104 0 μ := by
    intro C E
    rfl
  exact key _ _
set_option maxRecDepth 100000 in
theorem e_Tre_make_116 (z : zZ) (d : Nat) (v1 : Int) (v2 : Int) (v3 : Int) (v4 : Int) (v5 : Int) (v6 : Int) (v7 : Int) (v8 : Int) (v9 : Int) (v101 : Int) (v102 : Int) (v103 : Int) (v104 : Int) (v105 : Int) (μ : Mu) : f_Tre_make_116 z d v1 v2 v3 v4 v5 v6 v7 v8 v9 v101 v102 v103 v104 v105 μ = (mC z d 132 [(2, 55), (0, v101), (0, v102), (0, v103), (0, v104), (0, v105)] μ).bind fun q1 => (bif decide (v8 = v9) then (f_Tre_make_141 z d v1 v2 v3 v4 v5 v6 v7 v8 v9 q1.1 (q1.2 55 1) q1.2) else (bif decide (q1.1 = 0) then (f_Tre_make_148 z d v1 v2 v3 v4 v5 v6 v7 v8 v9 q1.1 (q1.2 55 1) v9 q1.2) else (f_Tre_make_141 z d v1 v2 v3 v4 v5 v6 v7 v8 v9 q1.1 (q1.2 55 1) q1.2))) := by
  show mE z d q_Tre_make 116 [(2, 55), (0, v1), (0, v2), (2, v3), (0, v4), (0, v5), (0, v6), (0, v7), (0, v8), (0, v9), (9, 0)] [(0, v105), (0, v104), (0, v103), (0, v102), (0, v101), (2, 55)] μ = _
  rw [mE_bk (M := q_Tre_make) k_Tre_make.1 k_Tre_make.2 [33, 59, 115, 116, 141, 148, 171, 174, 186, 189, 192] 400]
  have key : ∀ (C : Nat → List zv → Mu → mR) (E : Nat → List zv → List zv → Mu → mR), mbk C E q_Tre_make.1 q_Tre_make.2.1 z q_Tre_make.2.2.2 [33, 59, 115, 116, 141, 148, 171, 174, 186, 189, 192] 400 (zfind q_Tre_make.2.2.2 116) [(2, 55), (0, v1), (0, v2), (2, v3), (0, v4), (0, v5), (0, v6), (0, v7), (0, v8), (0, v9), (9, 0)] [(0, v105), (0, v104), (0, v103), (0, v102), (0, v101), (2, 55)] μ = (C 132 [(2, 55), (0, v101), (0, v102), (0, v103), (0, v104), (0, v105)] μ).bind fun q1 => (bif decide (v8 = v9) then (g_Tre_make_141 E v1 v2 v3 v4 v5 v6 v7 v8 v9 q1.1 (q1.2 55 1) q1.2) else (bif decide (q1.1 = 0) then (g_Tre_make_148 E v1 v2 v3 v4 v5 v6 v7 v8 v9 q1.1 (q1.2 55 1) v9 q1.2) else (g_Tre_make_141 E v1 v2 v3 v4 v5 v6 v7 v8 v9 q1.1 (q1.2 55 1) q1.2))) := by
    intro C E
    rfl
  exact key _ _
set_option maxRecDepth 100000 in
theorem e_Tre_make_141 (z : zZ) (d : Nat) (v1 : Int) (v2 : Int) (v3 : Int) (v4 : Int) (v5 : Int) (v6 : Int) (v7 : Int) (v8 : Int) (v9 : Int) (v10 : Int) (v101 : Int) (μ : Mu) : f_Tre_make_141 z d v1 v2 v3 v4 v5 v6 v7 v8 v9 v10 v101 μ = f_Tre_make_148 z d v1 v2 v3 v4 v5 v6 v7 v8 v9 v10 v101 v8 μ := by
  show mE z d q_Tre_make 141 [(2, 55), (0, v1), (0, v2), (2, v3), (0, v4), (0, v5), (0, v6), (0, v7), (0, v8), (0, v9), (0, v10)] [(0, v101), (2, 56)] μ = _
  rw [mE_bk (M := q_Tre_make) k_Tre_make.1 k_Tre_make.2 [33, 59, 115, 116, 141, 148, 171, 174, 186, 189, 192] 400]
  have key : ∀ (C : Nat → List zv → Mu → mR) (E : Nat → List zv → List zv → Mu → mR), mbk C E q_Tre_make.1 q_Tre_make.2.1 z q_Tre_make.2.2.2 [33, 59, 115, 116, 141, 148, 171, 174, 186, 189, 192] 400 (zfind q_Tre_make.2.2.2 141) [(2, 55), (0, v1), (0, v2), (2, v3), (0, v4), (0, v5), (0, v6), (0, v7), (0, v8), (0, v9), (0, v10)] [(0, v101), (2, 56)] μ = g_Tre_make_148 E v1 v2 v3 v4 v5 v6 v7 v8 v9 v10 v101 v8 μ := by
    intro C E
    rfl
  exact key _ _
set_option maxRecDepth 100000 in
theorem e_Tre_make_148 (z : zZ) (d : Nat) (v1 : Int) (v2 : Int) (v3 : Int) (v4 : Int) (v5 : Int) (v6 : Int) (v7 : Int) (v8 : Int) (v9 : Int) (v10 : Int) (v101 : Int) (v102 : Int) (μ : Mu) : f_Tre_make_148 z d v1 v2 v3 v4 v5 v6 v7 v8 v9 v10 v101 v102 μ = gI v101 16 (bif decide (v8 = v9) then (f_Tre_make_171 z d v1 v2 v3 v4 v5 v6 v7 v8 v9 v10 (zup (zup μ 56 v101.toNat v102) 55 1 (zw ((μ 55 1) + 1)))) else (bif decide (v10 = 0) then (f_Tre_make_174 z d v1 v2 v3 v4 v5 v6 v7 v8 v9 v10 (zup (zup μ 56 v101.toNat v102) 55 1 (zw ((μ 55 1) + 1)))) else (f_Tre_make_171 z d v1 v2 v3 v4 v5 v6 v7 v8 v9 v10 (zup (zup μ 56 v101.toNat v102) 55 1 (zw ((μ 55 1) + 1)))))) := by
  show mE z d q_Tre_make 148 [(2, 55), (0, v1), (0, v2), (2, v3), (0, v4), (0, v5), (0, v6), (0, v7), (0, v8), (0, v9), (0, v10)] [(0, v102), (0, v101), (2, 56)] μ = _
  rw [mE_bk (M := q_Tre_make) k_Tre_make.1 k_Tre_make.2 [33, 59, 115, 116, 141, 148, 171, 174, 186, 189, 192] 400]
  have key : ∀ (C : Nat → List zv → Mu → mR) (E : Nat → List zv → List zv → Mu → mR), mbk C E q_Tre_make.1 q_Tre_make.2.1 z q_Tre_make.2.2.2 [33, 59, 115, 116, 141, 148, 171, 174, 186, 189, 192] 400 (zfind q_Tre_make.2.2.2 148) [(2, 55), (0, v1), (0, v2), (2, v3), (0, v4), (0, v5), (0, v6), (0, v7), (0, v8), (0, v9), (0, v10)] [(0, v102), (0, v101), (2, 56)] μ = gI v101 16 (bif decide (v8 = v9) then (g_Tre_make_171 E v1 v2 v3 v4 v5 v6 v7 v8 v9 v10 (zup (zup μ 56 v101.toNat v102) 55 1 (zw ((μ 55 1) + 1)))) else (bif decide (v10 = 0) then (g_Tre_make_174 E v1 v2 v3 v4 v5 v6 v7 v8 v9 v10 (zup (zup μ 56 v101.toNat v102) 55 1 (zw ((μ 55 1) + 1)))) else (g_Tre_make_171 E v1 v2 v3 v4 v5 v6 v7 v8 v9 v10 (zup (zup μ 56 v101.toNat v102) 55 1 (zw ((μ 55 1) + 1)))))) := by
    intro C E
    rfl
  exact key _ _
set_option maxRecDepth 100000 in
theorem e_Tre_make_171 (z : zZ) (d : Nat) (v1 : Int) (v2 : Int) (v3 : Int) (v4 : Int) (v5 : Int) (v6 : Int) (v7 : Int) (v8 : Int) (v9 : Int) (v10 : Int) (μ : Mu) : f_Tre_make_171 z d v1 v2 v3 v4 v5 v6 v7 v8 v9 v10 μ = f_Tre_make_174 z d v1 v2 v3 v4 v5 (zw (v6 + 1)) v7 v8 v9 v10 μ := by
  show mE z d q_Tre_make 171 [(2, 55), (0, v1), (0, v2), (2, v3), (0, v4), (0, v5), (0, v6), (0, v7), (0, v8), (0, v9), (0, v10)] [] μ = _
  rw [mE_bk (M := q_Tre_make) k_Tre_make.1 k_Tre_make.2 [33, 59, 115, 116, 141, 148, 171, 174, 186, 189, 192] 400]
  have key : ∀ (C : Nat → List zv → Mu → mR) (E : Nat → List zv → List zv → Mu → mR), mbk C E q_Tre_make.1 q_Tre_make.2.1 z q_Tre_make.2.2.2 [33, 59, 115, 116, 141, 148, 171, 174, 186, 189, 192] 400 (zfind q_Tre_make.2.2.2 171) [(2, 55), (0, v1), (0, v2), (2, v3), (0, v4), (0, v5), (0, v6), (0, v7), (0, v8), (0, v9), (0, v10)] [] μ = g_Tre_make_174 E v1 v2 v3 v4 v5 (zw (v6 + 1)) v7 v8 v9 v10 μ := by
    intro C E
    rfl
  exact key _ _
set_option maxRecDepth 100000 in
theorem e_Tre_make_174 (z : zZ) (d : Nat) (v1 : Int) (v2 : Int) (v3 : Int) (v4 : Int) (v5 : Int) (v6 : Int) (v7 : Int) (v8 : Int) (v9 : Int) (v10 : Int) (μ : Mu) : f_Tre_make_174 z d v1 v2 v3 v4 v5 v6 v7 v8 v9 v10 μ = bif decide (v8 = v9) then (f_Tre_make_186 z d v1 v2 v3 v4 v5 v6 v7 μ) else (bif !decide (v10 = 0) then (f_Tre_make_189 z d v1 v2 v3 v4 v5 v6 v7 μ) else (f_Tre_make_186 z d v1 v2 v3 v4 v5 v6 v7 μ)) := by
  show mE z d q_Tre_make 174 [(2, 55), (0, v1), (0, v2), (2, v3), (0, v4), (0, v5), (0, v6), (0, v7), (0, v8), (0, v9), (0, v10)] [] μ = _
  rw [mE_bk (M := q_Tre_make) k_Tre_make.1 k_Tre_make.2 [33, 59, 115, 116, 141, 148, 171, 174, 186, 189, 192] 400]
  have key : ∀ (C : Nat → List zv → Mu → mR) (E : Nat → List zv → List zv → Mu → mR), mbk C E q_Tre_make.1 q_Tre_make.2.1 z q_Tre_make.2.2.2 [33, 59, 115, 116, 141, 148, 171, 174, 186, 189, 192] 400 (zfind q_Tre_make.2.2.2 174) [(2, 55), (0, v1), (0, v2), (2, v3), (0, v4), (0, v5), (0, v6), (0, v7), (0, v8), (0, v9), (0, v10)] [] μ = bif decide (v8 = v9) then (g_Tre_make_186 E v1 v2 v3 v4 v5 v6 v7 μ) else (bif !decide (v10 = 0) then (g_Tre_make_189 E v1 v2 v3 v4 v5 v6 v7 μ) else (g_Tre_make_186 E v1 v2 v3 v4 v5 v6 v7 μ)) := by
    intro C E
    rfl
  exact key _ _
set_option maxRecDepth 100000 in
theorem e_Tre_make_186 (z : zZ) (d : Nat) (v1 : Int) (v2 : Int) (v3 : Int) (v4 : Int) (v5 : Int) (v6 : Int) (v7 : Int) (μ : Mu) : f_Tre_make_186 z d v1 v2 v3 v4 v5 v6 v7 μ = f_Tre_make_189 z d v1 v2 v3 v4 v5 v6 (zw (v7 + 1)) μ := by
  show mE z d q_Tre_make 186 [(2, 55), (0, v1), (0, v2), (2, v3), (0, v4), (0, v5), (0, v6), (0, v7), (9, 0), (9, 0), (9, 0)] [] μ = _
  rw [mE_bk (M := q_Tre_make) k_Tre_make.1 k_Tre_make.2 [33, 59, 115, 116, 141, 148, 171, 174, 186, 189, 192] 400]
  have key : ∀ (C : Nat → List zv → Mu → mR) (E : Nat → List zv → List zv → Mu → mR), mbk C E q_Tre_make.1 q_Tre_make.2.1 z q_Tre_make.2.2.2 [33, 59, 115, 116, 141, 148, 171, 174, 186, 189, 192] 400 (zfind q_Tre_make.2.2.2 186) [(2, 55), (0, v1), (0, v2), (2, v3), (0, v4), (0, v5), (0, v6), (0, v7), (9, 0), (9, 0), (9, 0)] [] μ = g_Tre_make_189 E v1 v2 v3 v4 v5 v6 (zw (v7 + 1)) μ := by
    intro C E
    rfl
  exact key _ _
set_option maxRecDepth 100000 in
theorem e_Tre_make_189 (z : zZ) (d : Nat) (v1 : Int) (v2 : Int) (v3 : Int) (v4 : Int) (v5 : Int) (v6 : Int) (v7 : Int) (μ : Mu) : f_Tre_make_189 z d v1 v2 v3 v4 v5 v6 v7 μ = f_Tre_make_33 z d v1 v2 v3 v4 v5 v6 v7 μ := by
  show mE z d q_Tre_make 189 [(2, 55), (0, v1), (0, v2), (2, v3), (0, v4), (0, v5), (0, v6), (0, v7), (9, 0), (9, 0), (9, 0)] [] μ = _
  rw [mE_bk (M := q_Tre_make) k_Tre_make.1 k_Tre_make.2 [33, 59, 115, 116, 141, 148, 171, 174, 186, 189, 192] 400]
  have key : ∀ (C : Nat → List zv → Mu → mR) (E : Nat → List zv → List zv → Mu → mR), mbk C E q_Tre_make.1 q_Tre_make.2.1 z q_Tre_make.2.2.2 [33, 59, 115, 116, 141, 148, 171, 174, 186, 189, 192] 400 (zfind q_Tre_make.2.2.2 189) [(2, 55), (0, v1), (0, v2), (2, v3), (0, v4), (0, v5), (0, v6), (0, v7), (9, 0), (9, 0), (9, 0)] [] μ = g_Tre_make_33 E v1 v2 v3 v4 v5 v6 v7 μ := by
    intro C E
    rfl
  exact key _ _
def g_Tre_fillLeft_3 (E : Nat → List zv → List zv → Mu → mR) (v1 : Int) (v2 : Int) (v3 : Int) (v4 : Int) (v5 : Int) (μ : Mu) : mR := E 3 [(2, 55), (0, v1), (0, v2), (0, v3), (0, v4), (0, v5), (9, 0)] [] μ
noncomputable def f_Tre_fillLeft_3 (z : zZ) (d : Nat) (v1 : Int) (v2 : Int) (v3 : Int) (v4 : Int) (v5 : Int) (μ : Mu) : mR := g_Tre_fillLeft_3 (fun pc ls st μ => mE z d q_Tre_fillLeft pc ls st μ) v1 v2 v3 v4 v5 μ
def g_Tre_fillLeft_12 (E : Nat → List zv → List zv → Mu → mR) (v1 : Int) (v2 : Int) (v3 : Int) (v4 : Int) (v5 : Int) (v6 : Int) (μ : Mu) : mR := E 12 [(2, 55), (0, v1), (0, v2), (0, v3), (0, v4), (0, v5), (0, v6)] [] μ
noncomputable def f_Tre_fillLeft_12 (z : zZ) (d : Nat) (v1 : Int) (v2 : Int) (v3 : Int) (v4 : Int) (v5 : Int) (v6 : Int) (μ : Mu) : mR := g_Tre_fillLeft_12 (fun pc ls st μ => mE z d q_Tre_fillLeft pc ls st μ) v1 v2 v3 v4 v5 v6 μ
theorem k_Tre_fillLeft : zprK q_Tre_fillLeft.2.2.2 = true ∧ zinc q_Tre_fillLeft.2.2.2 = true := by decide +kernel
set_option maxRecDepth 100000 in
theorem c_Tre_fillLeft (z : zZ) (d : Nat) (v1 : Int) (v2 : Int) (v3 : Int) (v4 : Int) (μ : Mu) : mC z (d + 1) 130 [(2, 55), (0, v1), (0, v2), (0, v3), (0, v4)] μ = f_Tre_fillLeft_3 z d v1 v2 v3 v4 v3 μ := by
  rw [mC_succ q_Tre_fillLeft rfl rfl rfl]
  rw [mE_bk (M := q_Tre_fillLeft) k_Tre_fillLeft.1 k_Tre_fillLeft.2 [3, 12] 400]
  have key : ∀ (C : Nat → List zv → Mu → mR) (E : Nat → List zv → List zv → Mu → mR), mbk C E q_Tre_fillLeft.1 q_Tre_fillLeft.2.1 z q_Tre_fillLeft.2.2.2 [3, 12] 400 (zfind q_Tre_fillLeft.2.2.2 0) (zentry q_Tre_fillLeft.2.2.1 [(2, 55), (0, v1), (0, v2), (0, v3), (0, v4)]) [] μ = g_Tre_fillLeft_3 E v1 v2 v3 v4 v3 μ := by
    intro C E
    rfl
  exact key _ _
set_option maxRecDepth 100000 in
theorem e_Tre_fillLeft_3 (z : zZ) (d : Nat) (v1 : Int) (v2 : Int) (v3 : Int) (v4 : Int) (v5 : Int) (μ : Mu) : f_Tre_fillLeft_3 z d v1 v2 v3 v4 v5 μ = bif decide (v5 < 0) then (some (0, μ)) else (f_Tre_fillLeft_12 z d v1 v2 v3 v4 v5 v4 μ) := by
  show mE z d q_Tre_fillLeft 3 [(2, 55), (0, v1), (0, v2), (0, v3), (0, v4), (0, v5), (9, 0)] [] μ = _
  rw [mE_bk (M := q_Tre_fillLeft) k_Tre_fillLeft.1 k_Tre_fillLeft.2 [3, 12] 400]
  have key : ∀ (C : Nat → List zv → Mu → mR) (E : Nat → List zv → List zv → Mu → mR), mbk C E q_Tre_fillLeft.1 q_Tre_fillLeft.2.1 z q_Tre_fillLeft.2.2.2 [3, 12] 400 (zfind q_Tre_fillLeft.2.2.2 3) [(2, 55), (0, v1), (0, v2), (0, v3), (0, v4), (0, v5), (9, 0)] [] μ = bif decide (v5 < 0) then (some (0, μ)) else (g_Tre_fillLeft_12 E v1 v2 v3 v4 v5 v4 μ) := by
    intro C E
    rfl
  exact key _ _
set_option maxRecDepth 100000 in
theorem e_Tre_fillLeft_12 (z : zZ) (d : Nat) (v1 : Int) (v2 : Int) (v3 : Int) (v4 : Int) (v5 : Int) (v6 : Int) (μ : Mu) : f_Tre_fillLeft_12 z d v1 v2 v3 v4 v5 v6 μ = bif decide (v6 < 0) then (f_Tre_fillLeft_3 z d v1 v2 v3 v4 (zw (v5 + (-1))) μ) else ((mC z d 131 [(2, 55), (0, v1), (0, v2), (0, v5), (0, v6), (0, v3), (0, v4)] μ).bind fun q1 => (gI (zw ((zw (v5 * 9)) + v6)) 81 (f_Tre_fillLeft_12 z d v1 v2 v3 v4 v5 (zw (v6 + (-1))) (zup q1.2 57 ((zw ((zw (v5 * 9)) + v6)).toNat) q1.1)))) := by
  show mE z d q_Tre_fillLeft 12 [(2, 55), (0, v1), (0, v2), (0, v3), (0, v4), (0, v5), (0, v6)] [] μ = _
  rw [mE_bk (M := q_Tre_fillLeft) k_Tre_fillLeft.1 k_Tre_fillLeft.2 [3, 12] 400]
  have key : ∀ (C : Nat → List zv → Mu → mR) (E : Nat → List zv → List zv → Mu → mR), mbk C E q_Tre_fillLeft.1 q_Tre_fillLeft.2.1 z q_Tre_fillLeft.2.2.2 [3, 12] 400 (zfind q_Tre_fillLeft.2.2.2 12) [(2, 55), (0, v1), (0, v2), (0, v3), (0, v4), (0, v5), (0, v6)] [] μ = bif decide (v6 < 0) then (g_Tre_fillLeft_3 E v1 v2 v3 v4 (zw (v5 + (-1))) μ) else ((C 131 [(2, 55), (0, v1), (0, v2), (0, v5), (0, v6), (0, v3), (0, v4)] μ).bind fun q1 => (gI (zw ((zw (v5 * 9)) + v6)) 81 (g_Tre_fillLeft_12 E v1 v2 v3 v4 v5 (zw (v6 + (-1))) (zup q1.2 57 ((zw ((zw (v5 * 9)) + v6)).toNat) q1.1)))) := by
    intro C E
    rfl
  exact key _ _
theorem k_Tre_leftAt : zprK q_Tre_leftAt.2.2.2 = true ∧ zinc q_Tre_leftAt.2.2.2 = true := by decide +kernel
set_option maxRecDepth 100000 in
theorem c_Tre_leftAt (z : zZ) (d : Nat) (v1 : Int) (v2 : Int) (v3 : Int) (v4 : Int) (v5 : Int) (v6 : Int) (μ : Mu) : mC z (d + 1) 131 [(2, 55), (0, v1), (0, v2), (0, v3), (0, v4), (0, v5), (0, v6)] μ = bif decide (v3 < v5) then (bif decide (v4 < v6) then ((mC z d 41 [(0, v1), (0, v3)] μ).bind fun q1 => ((mC z d 41 [(0, v2), (0, v4)] q1.2).bind fun q2 => (bif !decide (q1.1 = q2.1) then (gI (zw ((zw ((zw (v3 + 1)) * 9)) + v4)) 81 (gI (zw ((zw ((zw (v3 * 9)) + v4)) + 1)) 81 (some (zw (1 + (if q2.2 57 ((zw ((zw ((zw (v3 * 9)) + v4)) + 1)).toNat) < q2.2 57 ((zw ((zw ((zw (v3 + 1)) * 9)) + v4)).toNat) then q2.2 57 ((zw ((zw ((zw (v3 * 9)) + v4)) + 1)).toNat) else q2.2 57 ((zw ((zw ((zw (v3 + 1)) * 9)) + v4)).toNat))), q2.2)))) else (gI (zw ((zw ((zw ((zw (v3 + 1)) * 9)) + v4)) + 1)) 81 (some (zw (1 + (q2.2 57 ((zw ((zw ((zw ((zw (v3 + 1)) * 9)) + v4)) + 1)).toNat))), q2.2)))))) else (some (zw (v5 - v3), μ))) else (some (zw (v6 - v4), μ)) := by
  rw [mC_succ q_Tre_leftAt rfl rfl rfl]
  rw [mE_bk (M := q_Tre_leftAt) k_Tre_leftAt.1 k_Tre_leftAt.2 [] 400]
  have key : ∀ (C : Nat → List zv → Mu → mR) (E : Nat → List zv → List zv → Mu → mR), mbk C E q_Tre_leftAt.1 q_Tre_leftAt.2.1 z q_Tre_leftAt.2.2.2 [] 400 (zfind q_Tre_leftAt.2.2.2 0) (zentry q_Tre_leftAt.2.2.1 [(2, 55), (0, v1), (0, v2), (0, v3), (0, v4), (0, v5), (0, v6)]) [] μ = bif decide (v3 < v5) then (bif decide (v4 < v6) then ((C 41 [(0, v1), (0, v3)] μ).bind fun q1 => ((C 41 [(0, v2), (0, v4)] q1.2).bind fun q2 => (bif !decide (q1.1 = q2.1) then (gI (zw ((zw ((zw (v3 + 1)) * 9)) + v4)) 81 (gI (zw ((zw ((zw (v3 * 9)) + v4)) + 1)) 81 (some (zw (1 + (if q2.2 57 ((zw ((zw ((zw (v3 * 9)) + v4)) + 1)).toNat) < q2.2 57 ((zw ((zw ((zw (v3 + 1)) * 9)) + v4)).toNat) then q2.2 57 ((zw ((zw ((zw (v3 * 9)) + v4)) + 1)).toNat) else q2.2 57 ((zw ((zw ((zw (v3 + 1)) * 9)) + v4)).toNat))), q2.2)))) else (gI (zw ((zw ((zw ((zw (v3 + 1)) * 9)) + v4)) + 1)) 81 (some (zw (1 + (q2.2 57 ((zw ((zw ((zw ((zw (v3 + 1)) * 9)) + v4)) + 1)).toNat))), q2.2)))))) else (some (zw (v5 - v3), μ))) else (some (zw (v6 - v4), μ)) := by
    intro C E
    rfl
  exact key _ _
def g_Tre_takesFirst_11 (E : Nat → List zv → List zv → Mu → mR) (v1 : Int) (v3 : Int) (μ : Mu) : mR := E 11 [(9, 0), (0, v1), (9, 0), (0, v3), (9, 0), (9, 0), (9, 0), (9, 0)] [] μ
noncomputable def f_Tre_takesFirst_11 (z : zZ) (d : Nat) (v1 : Int) (v3 : Int) (μ : Mu) : mR := g_Tre_takesFirst_11 (fun pc ls st μ => mE z d q_Tre_takesFirst pc ls st μ) v1 v3 μ
def g_Tre_takesFirst_21 (E : Nat → List zv → List zv → Mu → mR) (v100 : Int) (μ : Mu) : mR := E 21 [(9, 0), (9, 0), (9, 0), (9, 0), (9, 0), (9, 0), (9, 0), (9, 0)] [(0, v100)] μ
noncomputable def f_Tre_takesFirst_21 (z : zZ) (d : Nat) (v100 : Int) (μ : Mu) : mR := g_Tre_takesFirst_21 (fun pc ls st μ => mE z d q_Tre_takesFirst pc ls st μ) v100 μ
def g_Tre_takesFirst_64 (E : Nat → List zv → List zv → Mu → mR) (v6 : Int) (v7 : Int) (μ : Mu) : mR := E 64 [(9, 0), (9, 0), (9, 0), (9, 0), (9, 0), (9, 0), (0, v6), (0, v7)] [] μ
noncomputable def f_Tre_takesFirst_64 (z : zZ) (d : Nat) (v6 : Int) (v7 : Int) (μ : Mu) : mR := g_Tre_takesFirst_64 (fun pc ls st μ => mE z d q_Tre_takesFirst pc ls st μ) v6 v7 μ
def g_Tre_takesFirst_76 (E : Nat → List zv → List zv → Mu → mR) (v100 : Int) (μ : Mu) : mR := E 76 [(9, 0), (9, 0), (9, 0), (9, 0), (9, 0), (9, 0), (9, 0), (9, 0)] [(0, v100)] μ
noncomputable def f_Tre_takesFirst_76 (z : zZ) (d : Nat) (v100 : Int) (μ : Mu) : mR := g_Tre_takesFirst_76 (fun pc ls st μ => mE z d q_Tre_takesFirst pc ls st μ) v100 μ
theorem k_Tre_takesFirst : zprK q_Tre_takesFirst.2.2.2 = true ∧ zinc q_Tre_takesFirst.2.2.2 = true := by decide +kernel
set_option maxRecDepth 100000 in
theorem c_Tre_takesFirst (z : zZ) (d : Nat) (v1 : Int) (v2 : Int) (v3 : Int) (v4 : Int) (v5 : Int) (μ : Mu) : mC z (d + 1) 132 [(2, 55), (0, v1), (0, v2), (0, v3), (0, v4), (0, v5)] μ = bif decide (v3 ≤ v1) then (f_Tre_takesFirst_11 z d v1 v3 μ) else (bif decide (v2 < v4) then (gI (zw ((zw ((zw (v1 + 1)) * 9)) + v2)) 81 (gI (zw ((zw ((zw (v1 * 9)) + v2)) + 1)) 81 (bif !decide (μ 57 ((zw ((zw ((zw (v1 + 1)) * 9)) + v2)).toNat) = μ 57 ((zw ((zw ((zw (v1 * 9)) + v2)) + 1)).toNat)) then (f_Tre_takesFirst_64 z d (μ 57 ((zw ((zw ((zw (v1 + 1)) * 9)) + v2)).toNat)) (μ 57 ((zw ((zw ((zw (v1 * 9)) + v2)) + 1)).toNat)) μ) else (f_Tre_takesFirst_76 z d v5 μ)))) else (f_Tre_takesFirst_11 z d v1 v3 μ)) := by
  rw [mC_succ q_Tre_takesFirst rfl rfl rfl]
  rw [mE_bk (M := q_Tre_takesFirst) k_Tre_takesFirst.1 k_Tre_takesFirst.2 [11, 21, 64, 76] 400]
  have key : ∀ (C : Nat → List zv → Mu → mR) (E : Nat → List zv → List zv → Mu → mR), mbk C E q_Tre_takesFirst.1 q_Tre_takesFirst.2.1 z q_Tre_takesFirst.2.2.2 [11, 21, 64, 76] 400 (zfind q_Tre_takesFirst.2.2.2 0) (zentry q_Tre_takesFirst.2.2.1 [(2, 55), (0, v1), (0, v2), (0, v3), (0, v4), (0, v5)]) [] μ = bif decide (v3 ≤ v1) then (g_Tre_takesFirst_11 E v1 v3 μ) else (bif decide (v2 < v4) then (gI (zw ((zw ((zw (v1 + 1)) * 9)) + v2)) 81 (gI (zw ((zw ((zw (v1 * 9)) + v2)) + 1)) 81 (bif !decide (μ 57 ((zw ((zw ((zw (v1 + 1)) * 9)) + v2)).toNat) = μ 57 ((zw ((zw ((zw (v1 * 9)) + v2)) + 1)).toNat)) then (g_Tre_takesFirst_64 E (μ 57 ((zw ((zw ((zw (v1 + 1)) * 9)) + v2)).toNat)) (μ 57 ((zw ((zw ((zw (v1 * 9)) + v2)) + 1)).toNat)) μ) else (g_Tre_takesFirst_76 E v5 μ)))) else (g_Tre_takesFirst_11 E v1 v3 μ)) := by
    intro C E
    rfl
  exact key _ _
set_option maxRecDepth 100000 in
theorem e_Tre_takesFirst_11 (z : zZ) (d : Nat) (v1 : Int) (v3 : Int) (μ : Mu) : f_Tre_takesFirst_11 z d v1 v3 μ = bif decide (v3 ≤ v1) then (f_Tre_takesFirst_21 z d 0 μ) else (f_Tre_takesFirst_21 z d 1 μ) := by
  show mE z d q_Tre_takesFirst 11 [(9, 0), (0, v1), (9, 0), (0, v3), (9, 0), (9, 0), (9, 0), (9, 0)] [] μ = _
  rw [mE_bk (M := q_Tre_takesFirst) k_Tre_takesFirst.1 k_Tre_takesFirst.2 [11, 21, 64, 76] 400]
  have key : ∀ (C : Nat → List zv → Mu → mR) (E : Nat → List zv → List zv → Mu → mR), mbk C E q_Tre_takesFirst.1 q_Tre_takesFirst.2.1 z q_Tre_takesFirst.2.2.2 [11, 21, 64, 76] 400 (zfind q_Tre_takesFirst.2.2.2 11) [(9, 0), (0, v1), (9, 0), (0, v3), (9, 0), (9, 0), (9, 0), (9, 0)] [] μ = bif decide (v3 ≤ v1) then (g_Tre_takesFirst_21 E 0 μ) else (g_Tre_takesFirst_21 E 1 μ) := by
    intro C E
    rfl
  exact key _ _
set_option maxRecDepth 100000 in
theorem e_Tre_takesFirst_64 (z : zZ) (d : Nat) (v6 : Int) (v7 : Int) (μ : Mu) : f_Tre_takesFirst_64 z d v6 v7 μ = bif decide (v7 ≤ v6) then (f_Tre_takesFirst_76 z d 0 μ) else (f_Tre_takesFirst_76 z d 1 μ) := by
  show mE z d q_Tre_takesFirst 64 [(9, 0), (9, 0), (9, 0), (9, 0), (9, 0), (9, 0), (0, v6), (0, v7)] [] μ = _
  rw [mE_bk (M := q_Tre_takesFirst) k_Tre_takesFirst.1 k_Tre_takesFirst.2 [11, 21, 64, 76] 400]
  have key : ∀ (C : Nat → List zv → Mu → mR) (E : Nat → List zv → List zv → Mu → mR), mbk C E q_Tre_takesFirst.1 q_Tre_takesFirst.2.1 z q_Tre_takesFirst.2.2.2 [11, 21, 64, 76] 400 (zfind q_Tre_takesFirst.2.2.2 64) [(9, 0), (9, 0), (9, 0), (9, 0), (9, 0), (9, 0), (0, v6), (0, v7)] [] μ = bif decide (v7 ≤ v6) then (g_Tre_takesFirst_76 E 0 μ) else (g_Tre_takesFirst_76 E 1 μ) := by
    intro C E
    rfl
  exact key _ _
set_option maxRecDepth 100000 in
theorem e_Tre_takesFirst_76 (z : zZ) (d : Nat) (v100 : Int) (μ : Mu) : f_Tre_takesFirst_76 z d v100 μ = g01 v100 (some (v100, μ)) := by
  show mE z d q_Tre_takesFirst 76 [(9, 0), (9, 0), (9, 0), (9, 0), (9, 0), (9, 0), (9, 0), (9, 0)] [(0, v100)] μ = _
  rw [mE_bk (M := q_Tre_takesFirst) k_Tre_takesFirst.1 k_Tre_takesFirst.2 [11, 21, 64, 76] 400]
  have key : ∀ (C : Nat → List zv → Mu → mR) (E : Nat → List zv → List zv → Mu → mR), mbk C E q_Tre_takesFirst.1 q_Tre_takesFirst.2.1 z q_Tre_takesFirst.2.2.2 [11, 21, 64, 76] 400 (zfind q_Tre_takesFirst.2.2.2 76) [(9, 0), (9, 0), (9, 0), (9, 0), (9, 0), (9, 0), (9, 0), (9, 0)] [(0, v100)] μ = g01 v100 (some (v100, μ)) := by
    intro C E
    rfl
  exact key _ _
set_option maxRecDepth 100000 in
theorem e_Tre_takesFirst_21 (z : zZ) (d : Nat) (v100 : Int) (μ : Mu) : f_Tre_takesFirst_21 z d v100 μ = g01 v100 (some (v100, μ)) := by
  show mE z d q_Tre_takesFirst 21 [(9, 0), (9, 0), (9, 0), (9, 0), (9, 0), (9, 0), (9, 0), (9, 0)] [(0, v100)] μ = _
  rw [mE_bk (M := q_Tre_takesFirst) k_Tre_takesFirst.1 k_Tre_takesFirst.2 [11, 21, 64, 76] 400]
  have key : ∀ (C : Nat → List zv → Mu → mR) (E : Nat → List zv → List zv → Mu → mR), mbk C E q_Tre_takesFirst.1 q_Tre_takesFirst.2.1 z q_Tre_takesFirst.2.2.2 [11, 21, 64, 76] 400 (zfind q_Tre_takesFirst.2.2.2 21) [(9, 0), (9, 0), (9, 0), (9, 0), (9, 0), (9, 0), (9, 0), (9, 0)] [(0, v100)] μ = g01 v100 (some (v100, μ)) := by
    intro C E
    rfl
  exact key _ _
