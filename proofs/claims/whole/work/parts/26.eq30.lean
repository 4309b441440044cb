def g_Cho_fillBounds_2 (E : Nat → List zv → List zv → Mu → mR) (o0 : Nat) (v1 : Int) (v2 : Int) (μ : Mu) : mR := E 2 [(2, ((o0 : Nat) : Int)), (0, v1), (0, v2), (9, 0), (9, 0), (9, 0), (9, 0), (9, 0)] [] μ
noncomputable def f_Cho_fillBounds_2 (z : zZ) (d : Nat) (o0 : Nat) (v1 : Int) (v2 : Int) (μ : Mu) : mR := g_Cho_fillBounds_2 (fun pc ls st μ => mE z d q_Cho_fillBounds pc ls st μ) o0 v1 v2 μ
def g_Cho_fillBounds_28 (E : Nat → List zv → List zv → Mu → mR) (o0 : Nat) (v1 : Int) (v2 : Int) (μ : Mu) : mR := E 28 [(2, ((o0 : Nat) : Int)), (0, v1), (0, v2), (9, 0), (9, 0), (9, 0), (9, 0), (9, 0)] [] μ
noncomputable def f_Cho_fillBounds_28 (z : zZ) (d : Nat) (o0 : Nat) (v1 : Int) (v2 : Int) (μ : Mu) : mR := g_Cho_fillBounds_28 (fun pc ls st μ => mE z d q_Cho_fillBounds pc ls st μ) o0 v1 v2 μ
def g_Cho_fillBounds_29 (E : Nat → List zv → List zv → Mu → mR) (o0 : Nat) (v1 : Int) (v2 : Int) (v100 : Int) (μ : Mu) : mR := E 29 [(2, ((o0 : Nat) : Int)), (0, v1), (0, v2), (9, 0), (9, 0), (9, 0), (9, 0), (9, 0)] [(0, v100)] μ
noncomputable def f_Cho_fillBounds_29 (z : zZ) (d : Nat) (o0 : Nat) (v1 : Int) (v2 : Int) (v100 : Int) (μ : Mu) : mR := g_Cho_fillBounds_29 (fun pc ls st μ => mE z d q_Cho_fillBounds pc ls st μ) o0 v1 v2 v100 μ
def g_Cho_fillBounds_47 (E : Nat → List zv → List zv → Mu → mR) (o0 : Nat) (v1 : Int) (v2 : Int) (v3 : Int) (v4 : Int) (v5 : Int) (μ : Mu) : mR := E 47 [(2, ((o0 : Nat) : Int)), (0, v1), (0, v2), (0, v3), (0, v4), (0, v5), (9, 0), (9, 0)] [] μ
noncomputable def f_Cho_fillBounds_47 (z : zZ) (d : Nat) (o0 : Nat) (v1 : Int) (v2 : Int) (v3 : Int) (v4 : Int) (v5 : Int) (μ : Mu) : mR := g_Cho_fillBounds_47 (fun pc ls st μ => mE z d q_Cho_fillBounds pc ls st μ) o0 v1 v2 v3 v4 v5 μ
def g_Cho_fillBounds_81 (E : Nat → List zv → List zv → Mu → mR) (o0 : Nat) (v1 : Int) (v2 : Int) (v3 : Int) (v4 : Int) (v5 : Int) (v100 : Int) (μ : Mu) : mR := E 81 [(2, ((o0 : Nat) : Int)), (0, v1), (0, v2), (0, v3), (0, v4), (0, v5), (9, 0), (9, 0)] [(0, v100)] μ
noncomputable def f_Cho_fillBounds_81 (z : zZ) (d : Nat) (o0 : Nat) (v1 : Int) (v2 : Int) (v3 : Int) (v4 : Int) (v5 : Int) (v100 : Int) (μ : Mu) : mR := g_Cho_fillBounds_81 (fun pc ls st μ => mE z d q_Cho_fillBounds pc ls st μ) o0 v1 v2 v3 v4 v5 v100 μ
def g_Cho_fillBounds_107 (E : Nat → List zv → List zv → Mu → mR) (o0 : Nat) (v1 : Int) (v2 : Int) (v3 : Int) (v4 : Int) (v5 : Int) (v6 : Int) (v100 : Int) (v101 : Int) (μ : Mu) : mR := E 107 [(2, ((o0 : Nat) : Int)), (0, v1), (0, v2), (0, v3), (0, v4), (0, v5), (0, v6), (9, 0)] [(0, v101), (0, v100)] μ
noncomputable def f_Cho_fillBounds_107 (z : zZ) (d : Nat) (o0 : Nat) (v1 : Int) (v2 : Int) (v3 : Int) (v4 : Int) (v5 : Int) (v6 : Int) (v100 : Int) (v101 : Int) (μ : Mu) : mR := g_Cho_fillBounds_107 (fun pc ls st μ => mE z d q_Cho_fillBounds pc ls st μ) o0 v1 v2 v3 v4 v5 v6 v100 v101 μ
def g_Cho_fillBounds_133 (E : Nat → List zv → List zv → Mu → mR) (o0 : Nat) (v1 : Int) (v2 : Int) (μ : Mu) : mR := E 133 [(2, ((o0 : Nat) : Int)), (0, v1), (0, v2), (9, 0), (9, 0), (9, 0), (9, 0), (9, 0)] [] μ
noncomputable def f_Cho_fillBounds_133 (z : zZ) (d : Nat) (o0 : Nat) (v1 : Int) (v2 : Int) (μ : Mu) : mR := g_Cho_fillBounds_133 (fun pc ls st μ => mE z d q_Cho_fillBounds pc ls st μ) o0 v1 v2 μ
theorem k_Cho_fillBounds : zprK q_Cho_fillBounds.2.2.2 = true ∧ zinc q_Cho_fillBounds.2.2.2 = true := by decide +kernel
set_option maxRecDepth 100000 in
theorem c_Cho_fillBounds (z : zZ) (d : Nat) (o0 : Nat) (v1 : Int) (μ : Mu) (ho0 : o0 = 23 ∨ o0 = 29) : mC z (d + 1) 113 [(2, ((o0 : Nat) : Int)), (0, v1)] μ = f_Cho_fillBounds_2 z d o0 v1 0 μ := by
  rw [mC_succ q_Cho_fillBounds rfl rfl rfl]
  rw [mE_bk (M := q_Cho_fillBounds) k_Cho_fillBounds.1 k_Cho_fillBounds.2 [2, 28, 29, 47, 81, 107, 133] 400]
  have key : ∀ (C : Nat → List zv → Mu → mR) (E : Nat → List zv → List zv → Mu → mR), mbk C E q_Cho_fillBounds.1 q_Cho_fillBounds.2.1 z q_Cho_fillBounds.2.2.2 [2, 28, 29, 47, 81, 107, 133] 400 (zfind q_Cho_fillBounds.2.2.2 0) (zentry q_Cho_fillBounds.2.2.1 [(2, ((o0 : Nat) : Int)), (0, v1)]) [] μ = g_Cho_fillBounds_2 E o0 v1 0 μ := by
    intro C E
    rcases ho0 with rfl | rfl <;> (rfl)
  exact key _ _
set_option maxRecDepth 100000 in
theorem e_Cho_fillBounds_2 (z : zZ) (d : Nat) (o0 : Nat) (v1 : Int) (v2 : Int) (μ : Mu) (ho0 : o0 = 23 ∨ o0 = 29) : f_Cho_fillBounds_2 z d o0 v1 v2 μ = bif decide (12 ≤ v2) then (some (0, μ)) else ((mC z d 23 [(0, μ o0 6), (0, v2)] μ).bind fun q1 => (bif decide (q1.1 = 0) then (f_Cho_fillBounds_28 z d o0 v1 v2 q1.2) else (gI v2 12 (f_Cho_fillBounds_29 z d o0 v1 v2 (q1.2 (o0 + 1) v2.toNat) q1.2)))) := by
  show mE z d q_Cho_fillBounds 2 [(2, ((o0 : Nat) : Int)), (0, v1), (0, v2), (9, 0), (9, 0), (9, 0), (9, 0), (9, 0)] [] μ = _
  rw [mE_bk (M := q_Cho_fillBounds) k_Cho_fillBounds.1 k_Cho_fillBounds.2 [2, 28, 29, 47, 81, 107, 133] 400]
  have key : ∀ (C : Nat → List zv → Mu → mR) (E : Nat → List zv → List zv → Mu → mR), mbk C E q_Cho_fillBounds.1 q_Cho_fillBounds.2.1 z q_Cho_fillBounds.2.2.2 [2, 28, 29, 47, 81, 107, 133] 400 (zfind q_Cho_fillBounds.2.2.2 2) [(2, ((o0 : Nat) : Int)), (0, v1), (0, v2), (9, 0), (9, 0), (9, 0), (9, 0), (9, 0)] [] μ = bif decide (12 ≤ v2) then (some (0, μ)) else ((C 23 [(0, μ o0 6), (0, v2)] μ).bind fun q1 => (bif decide (q1.1 = 0) then (g_Cho_fillBounds_28 E o0 v1 v2 q1.2) else (gI v2 12 (g_Cho_fillBounds_29 E o0 v1 v2 (q1.2 (o0 + 1) v2.toNat) q1.2)))) := by
    intro C E
    rcases ho0 with rfl | rfl <;> (rfl)
  exact key _ _
set_option maxRecDepth 100000 in
theorem e_Cho_fillBounds_28 (z : zZ) (d : Nat) (o0 : Nat) (v1 : Int) (v2 : Int) (μ : Mu) (ho0 : o0 = 23 ∨ o0 = 29) : f_Cho_fillBounds_28 z d o0 v1 v2 μ = f_Cho_fillBounds_29 z d o0 v1 v2 0 μ := by
  show mE z d q_Cho_fillBounds 28 [(2, ((o0 : Nat) : Int)), (0, v1), (0, v2), (9, 0), (9, 0), (9, 0), (9, 0), (9, 0)] [] μ = _
  rw [mE_bk (M := q_Cho_fillBounds) k_Cho_fillBounds.1 k_Cho_fillBounds.2 [2, 28, 29, 47, 81, 107, 133] 400]
  have key : ∀ (C : Nat → List zv → Mu → mR) (E : Nat → List zv → List zv → Mu → mR), mbk C E q_Cho_fillBounds.1 q_Cho_fillBounds.2.1 z q_Cho_fillBounds.2.2.2 [2, 28, 29, 47, 81, 107, 133] 400 (zfind q_Cho_fillBounds.2.2.2 28) [(2, ((o0 : Nat) : Int)), (0, v1), (0, v2), (9, 0), (9, 0), (9, 0), (9, 0), (9, 0)] [] μ = g_Cho_fillBounds_29 E o0 v1 v2 0 μ := by
    intro C E
    rcases ho0 with rfl | rfl <;> (rfl)
  exact key _ _
set_option maxRecDepth 100000 in
theorem e_Cho_fillBounds_29 (z : zZ) (d : Nat) (o0 : Nat) (v1 : Int) (v2 : Int) (v100 : Int) (μ : Mu) (ho0 : o0 = 23 ∨ o0 = 29) : f_Cho_fillBounds_29 z d o0 v1 v2 v100 μ = gI (zw (v2 * 13)) 156 (f_Cho_fillBounds_47 z d o0 v1 v2 v100 (zw (v2 * 13)) 1 (zup μ (o0 + 5) ((zw (v2 * 13)).toNat) 0)) := by
  show mE z d q_Cho_fillBounds 29 [(2, ((o0 : Nat) : Int)), (0, v1), (0, v2), (9, 0), (9, 0), (9, 0), (9, 0), (9, 0)] [(0, v100)] μ = _
  rw [mE_bk (M := q_Cho_fillBounds) k_Cho_fillBounds.1 k_Cho_fillBounds.2 [2, 28, 29, 47, 81, 107, 133] 400]
  have key : ∀ (C : Nat → List zv → Mu → mR) (E : Nat → List zv → List zv → Mu → mR), mbk C E q_Cho_fillBounds.1 q_Cho_fillBounds.2.1 z q_Cho_fillBounds.2.2.2 [2, 28, 29, 47, 81, 107, 133] 400 (zfind q_Cho_fillBounds.2.2.2 29) [(2, ((o0 : Nat) : Int)), (0, v1), (0, v2), (9, 0), (9, 0), (9, 0), (9, 0), (9, 0)] [(0, v100)] μ = gI (zw (v2 * 13)) 156 (g_Cho_fillBounds_47 E o0 v1 v2 v100 (zw (v2 * 13)) 1 (zup μ (o0 + 5) ((zw (v2 * 13)).toNat) 0)) := by
    intro C E
    rcases ho0 with rfl | rfl <;> (rfl)
  exact key _ _
set_option maxRecDepth 100000 in
theorem e_Cho_fillBounds_47 (z : zZ) (d : Nat) (o0 : Nat) (v1 : Int) (v2 : Int) (v3 : Int) (v4 : Int) (v5 : Int) (μ : Mu) (ho0 : o0 = 23 ∨ o0 = 29) : f_Cho_fillBounds_47 z d o0 v1 v2 v3 v4 v5 μ = bif decide (v1 < v5) then (f_Cho_fillBounds_133 z d o0 v1 v2 μ) else (bif decide (13 ≤ v5) then (f_Cho_fillBounds_133 z d o0 v1 v2 μ) else (bif !decide (v2 = 0) then (gI (zw ((zw (v4 - 13)) + v5)) 156 (f_Cho_fillBounds_81 z d o0 v1 v2 v3 v4 v5 (μ (o0 + 5) ((zw ((zw (v4 - 13)) + v5)).toNat)) μ)) else (f_Cho_fillBounds_81 z d o0 v1 v2 v3 v4 v5 0 μ))) := by
  show mE z d q_Cho_fillBounds 47 [(2, ((o0 : Nat) : Int)), (0, v1), (0, v2), (0, v3), (0, v4), (0, v5), (9, 0), (9, 0)] [] μ = _
  rw [mE_bk (M := q_Cho_fillBounds) k_Cho_fillBounds.1 k_Cho_fillBounds.2 [2, 28, 29, 47, 81, 107, 133] 400]
  have key : ∀ (C : Nat → List zv → Mu → mR) (E : Nat → List zv → List zv → Mu → mR), mbk C E q_Cho_fillBounds.1 q_Cho_fillBounds.2.1 z q_Cho_fillBounds.2.2.2 [2, 28, 29, 47, 81, 107, 133] 400 (zfind q_Cho_fillBounds.2.2.2 47) [(2, ((o0 : Nat) : Int)), (0, v1), (0, v2), (0, v3), (0, v4), (0, v5), (9, 0), (9, 0)] [] μ = bif decide (v1 < v5) then (g_Cho_fillBounds_133 E o0 v1 v2 μ) else (bif decide (13 ≤ v5) then (g_Cho_fillBounds_133 E o0 v1 v2 μ) else (bif !decide (v2 = 0) then (gI (zw ((zw (v4 - 13)) + v5)) 156 (g_Cho_fillBounds_81 E o0 v1 v2 v3 v4 v5 (μ (o0 + 5) ((zw ((zw (v4 - 13)) + v5)).toNat)) μ)) else (g_Cho_fillBounds_81 E o0 v1 v2 v3 v4 v5 0 μ))) := by
    intro C E
    rcases ho0 with rfl | rfl <;> (rfl)
  exact key _ _
set_option maxRecDepth 100000 in
theorem e_Cho_fillBounds_133 (z : zZ) (d : Nat) (o0 : Nat) (v1 : Int) (v2 : Int) (μ : Mu) (ho0 : o0 = 23 ∨ o0 = 29) : f_Cho_fillBounds_133 z d o0 v1 v2 μ = f_Cho_fillBounds_2 z d o0 v1 (zw (v2 + 1)) μ := by
  show mE z d q_Cho_fillBounds 133 [(2, ((o0 : Nat) : Int)), (0, v1), (0, v2), (9, 0), (9, 0), (9, 0), (9, 0), (9, 0)] [] μ = _
  rw [mE_bk (M := q_Cho_fillBounds) k_Cho_fillBounds.1 k_Cho_fillBounds.2 [2, 28, 29, 47, 81, 107, 133] 400]
  have key : ∀ (C : Nat → List zv → Mu → mR) (E : Nat → List zv → List zv → Mu → mR), mbk C E q_Cho_fillBounds.1 q_Cho_fillBounds.2.1 z q_Cho_fillBounds.2.2.2 [2, 28, 29, 47, 81, 107, 133] 400 (zfind q_Cho_fillBounds.2.2.2 133) [(2, ((o0 : Nat) : Int)), (0, v1), (0, v2), (9, 0), (9, 0), (9, 0), (9, 0), (9, 0)] [] μ = g_Cho_fillBounds_2 E o0 v1 (zw (v2 + 1)) μ := by
    intro C E
    rcases ho0 with rfl | rfl <;> (rfl)
  exact key _ _
set_option maxRecDepth 100000 in
theorem e_Cho_fillBounds_81 (z : zZ) (d : Nat) (o0 : Nat) (v1 : Int) (v2 : Int) (v3 : Int) (v4 : Int) (v5 : Int) (v100 : Int) (μ : Mu) (ho0 : o0 = 23 ∨ o0 = 29) : f_Cho_fillBounds_81 z d o0 v1 v2 v3 v4 v5 v100 μ = bif !decide (v2 = 0) then (gI (zw ((zw ((zw (v4 - 13)) + v5)) - 1)) 156 (f_Cho_fillBounds_107 z d o0 v1 v2 v3 v4 v5 v100 v3 (μ (o0 + 5) ((zw ((zw ((zw (v4 - 13)) + v5)) - 1)).toNat)) μ)) else (f_Cho_fillBounds_107 z d o0 v1 v2 v3 v4 v5 v100 v3 0 μ) := by
  show mE z d q_Cho_fillBounds 81 [(2, ((o0 : Nat) : Int)), (0, v1), (0, v2), (0, v3), (0, v4), (0, v5), (9, 0), (9, 0)] [(0, v100)] μ = _
  rw [mE_bk (M := q_Cho_fillBounds) k_Cho_fillBounds.1 k_Cho_fillBounds.2 [2, 28, 29, 47, 81, 107, 133] 400]
  have key : ∀ (C : Nat → List zv → Mu → mR) (E : Nat → List zv → List zv → Mu → mR), mbk C E q_Cho_fillBounds.1 q_Cho_fillBounds.2.1 z q_Cho_fillBounds.2.2.2 [2, 28, 29, 47, 81, 107, 133] 400 (zfind q_Cho_fillBounds.2.2.2 81) [(2, ((o0 : Nat) : Int)), (0, v1), (0, v2), (0, v3), (0, v4), (0, v5), (9, 0), (9, 0)] [(0, v100)] μ = bif !decide (v2 = 0) then (gI (zw ((zw ((zw (v4 - 13)) + v5)) - 1)) 156 (g_Cho_fillBounds_107 E o0 v1 v2 v3 v4 v5 v100 v3 (μ (o0 + 5) ((zw ((zw ((zw (v4 - 13)) + v5)) - 1)).toNat)) μ)) else (g_Cho_fillBounds_107 E o0 v1 v2 v3 v4 v5 v100 v3 0 μ) := by
    intro C E
    rcases ho0 with rfl | rfl <;> (rfl)
  exact key _ _
set_option maxRecDepth 100000 in
theorem e_Cho_fillBounds_107 (z : zZ) (d : Nat) (o0 : Nat) (v1 : Int) (v2 : Int) (v3 : Int) (v4 : Int) (v5 : Int) (v6 : Int) (v100 : Int) (v101 : Int) (μ : Mu) (ho0 : o0 = 23 ∨ o0 = 29) : f_Cho_fillBounds_107 z d o0 v1 v2 v3 v4 v5 v6 v100 v101 μ = gI (zw (v4 + v5)) 156 (f_Cho_fillBounds_47 z d o0 v1 v2 v3 v4 (zw (v5 + 1)) (zup μ (o0 + 5) ((zw (v4 + v5)).toNat) (if v6 < zw (v100 + v101) then zw (v100 + v101) else v6))) := by
  show mE z d q_Cho_fillBounds 107 [(2, ((o0 : Nat) : Int)), (0, v1), (0, v2), (0, v3), (0, v4), (0, v5), (0, v6), (9, 0)] [(0, v101), (0, v100)] μ = _
  rw [mE_bk (M := q_Cho_fillBounds) k_Cho_fillBounds.1 k_Cho_fillBounds.2 [2, 28, 29, 47, 81, 107, 133] 400]
  have key : ∀ (C : Nat → List zv → Mu → mR) (E : Nat → List zv → List zv → Mu → mR), mbk C E q_Cho_fillBounds.1 q_Cho_fillBounds.2.1 z q_Cho_fillBounds.2.2.2 [2, 28, 29, 47, 81, 107, 133] 400 (zfind q_Cho_fillBounds.2.2.2 107) [(2, ((o0 : Nat) : Int)), (0, v1), (0, v2), (0, v3), (0, v4), (0, v5), (0, v6), (9, 0)] [(0, v101), (0, v100)] μ = gI (zw (v4 + v5)) 156 (g_Cho_fillBounds_47 E o0 v1 v2 v3 v4 (zw (v5 + 1)) (zup μ (o0 + 5) ((zw (v4 + v5)).toNat) (if v6 < zw (v100 + v101) then zw (v100 + v101) else v6))) := by
    intro C E
    rcases ho0 with rfl | rfl <;> (rfl)
  exact key _ _
def g_Cho_choose_21 (E : Nat → List zv → List zv → Mu → mR) (o0 : Nat) (v1 : Int) (v2 : Int) (v3 : Int) (v5 : Int) (v7 : Int) (v8 : Int) (μ : Mu) : mR := E 21 [(2, ((o0 : Nat) : Int)), (0, v1), (0, v2), (1, v3), (9, 0), (1, v5), (9, 0), (0, v7), (0, v8), (9, 0), (9, 0), (9, 0), (9, 0)] [] μ
noncomputable def f_Cho_choose_21 (z : zZ) (d : Nat) (o0 : Nat) (v1 : Int) (v2 : Int) (v3 : Int) (v5 : Int) (v7 : Int) (v8 : Int) (μ : Mu) : mR := g_Cho_choose_21 (fun pc ls st μ => mE z d q_Cho_choose pc ls st μ) o0 v1 v2 v3 v5 v7 v8 μ
def g_Cho_choose_51 (E : Nat → List zv → List zv → Mu → mR) (μ : Mu) : mR := E 51 [(9, 0), (9, 0), (9, 0), (9, 0), (9, 0), (9, 0), (9, 0), (9, 0), (9, 0), (9, 0), (9, 0), (9, 0), (9, 0)] [] μ
noncomputable def f_Cho_choose_51 (z : zZ) (d : Nat) (μ : Mu) : mR := g_Cho_choose_51 (fun pc ls st μ => mE z d q_Cho_choose pc ls st μ) μ
def g_Cho_choose_52 (E : Nat → List zv → List zv → Mu → mR) (o0 : Nat) (v1 : Int) (v2 : Int) (v3 : Int) (v5 : Int) (v7 : Int) (v8 : Int) (μ : Mu) : mR := E 52 [(2, ((o0 : Nat) : Int)), (0, v1), (0, v2), (1, v3), (9, 0), (1, v5), (9, 0), (0, v7), (0, v8), (9, 0), (9, 0), (9, 0), (9, 0)] [] μ
noncomputable def f_Cho_choose_52 (z : zZ) (d : Nat) (o0 : Nat) (v1 : Int) (v2 : Int) (v3 : Int) (v5 : Int) (v7 : Int) (v8 : Int) (μ : Mu) : mR := g_Cho_choose_52 (fun pc ls st μ => mE z d q_Cho_choose pc ls st μ) o0 v1 v2 v3 v5 v7 v8 μ
def g_Cho_choose_150 (E : Nat → List zv → List zv → Mu → mR) (μ : Mu) : mR := E 150 [(9, 0), (9, 0), (9, 0), (9, 0), (9, 0), (9, 0), (9, 0), (9, 0), (9, 0), (9, 0), (9, 0), (9, 0), (9, 0)] [] μ
noncomputable def f_Cho_choose_150 (z : zZ) (d : Nat) (μ : Mu) : mR := g_Cho_choose_150 (fun pc ls st μ => mE z d q_Cho_choose pc ls st μ) μ
theorem k_Cho_choose : zprK q_Cho_choose.2.2.2 = true ∧ zinc q_Cho_choose.2.2.2 = true := by decide +kernel
set_option maxRecDepth 100000 in
theorem c_Cho_choose (z : zZ) (d : Nat) (o0 : Nat) (v1 : Int) (v2 : Int) (v3 : Int) (v5 : Int) (v7 : Int) (v8 : Int) (μ : Mu) (ho0 : o0 = 23 ∨ o0 = 29) : mC z (d + 1) 114 [(2, ((o0 : Nat) : Int)), (0, v1), (0, v2), (1, v3), (1, v5), (0, v7), (0, v8)] μ = bif decide (v7 ≤ μ o0 7) then (f_Cho_choose_21 z d o0 v1 v2 v3 v5 v7 v8 μ) else (f_Cho_choose_21 z d o0 v1 v2 v3 v5 v7 v8 (zup (zup μ o0 7 v7) o0 8 v8)) := by
  rw [mC_succ q_Cho_choose rfl rfl rfl]
  rw [mE_bk (M := q_Cho_choose) k_Cho_choose.1 k_Cho_choose.2 [21, 51, 52, 150] 400]
  have key : ∀ (C : Nat → List zv → Mu → mR) (E : Nat → List zv → List zv → Mu → mR), mbk C E q_Cho_choose.1 q_Cho_choose.2.1 z q_Cho_choose.2.2.2 [21, 51, 52, 150] 400 (zfind q_Cho_choose.2.2.2 0) (zentry q_Cho_choose.2.2.1 [(2, ((o0 : Nat) : Int)), (0, v1), (0, v2), (1, v3), (1, v5), (0, v7), (0, v8)]) [] μ = bif decide (v7 ≤ μ o0 7) then (g_Cho_choose_21 E o0 v1 v2 v3 v5 v7 v8 μ) else (g_Cho_choose_21 E o0 v1 v2 v3 v5 v7 v8 (zup (zup μ o0 7 v7) o0 8 v8)) := by
    intro C E
    rcases ho0 with rfl | rfl <;> (rfl)
  exact key _ _
set_option maxRecDepth 100000 in
theorem e_Cho_choose_21 (z : zZ) (d : Nat) (o0 : Nat) (v1 : Int) (v2 : Int) (v3 : Int) (v5 : Int) (v7 : Int) (v8 : Int) (μ : Mu) (ho0 : o0 = 23 ∨ o0 = 29) : f_Cho_choose_21 z d o0 v1 v2 v3 v5 v7 v8 μ = bif decide (v1 < 0) then (f_Cho_choose_51 z d μ) else (bif decide (v2 < 1) then (f_Cho_choose_51 z d μ) else (gI (zw ((zw (v1 * 13)) + v2)) 156 (bif decide (μ o0 7 < zw (v7 + (μ (o0 + 5) ((zw ((zw (v1 * 13)) + v2)).toNat)))) then (f_Cho_choose_52 z d o0 v1 v2 v3 v5 v7 v8 μ) else (f_Cho_choose_51 z d μ)))) := by
  show mE z d q_Cho_choose 21 [(2, ((o0 : Nat) : Int)), (0, v1), (0, v2), (1, v3), (9, 0), (1, v5), (9, 0), (0, v7), (0, v8), (9, 0), (9, 0), (9, 0), (9, 0)] [] μ = _
  rw [mE_bk (M := q_Cho_choose) k_Cho_choose.1 k_Cho_choose.2 [21, 51, 52, 150] 400]
  have key : ∀ (C : Nat → List zv → Mu → mR) (E : Nat → List zv → List zv → Mu → mR), mbk C E q_Cho_choose.1 q_Cho_choose.2.1 z q_Cho_choose.2.2.2 [21, 51, 52, 150] 400 (zfind q_Cho_choose.2.2.2 21) [(2, ((o0 : Nat) : Int)), (0, v1), (0, v2), (1, v3), (9, 0), (1, v5), (9, 0), (0, v7), (0, v8), (9, 0), (9, 0), (9, 0), (9, 0)] [] μ = bif decide (v1 < 0) then (g_Cho_choose_51 E μ) else (bif decide (v2 < 1) then (g_Cho_choose_51 E μ) else (gI (zw ((zw (v1 * 13)) + v2)) 156 (bif decide (μ o0 7 < zw (v7 + (μ (o0 + 5) ((zw ((zw (v1 * 13)) + v2)).toNat)))) then (g_Cho_choose_52 E o0 v1 v2 v3 v5 v7 v8 μ) else (g_Cho_choose_51 E μ)))) := by
    intro C E
    rcases ho0 with rfl | rfl <;> (rfl)
  exact key _ _
set_option maxRecDepth 100000 in
theorem e_Cho_choose_51 (z : zZ) (d : Nat) (μ : Mu) : f_Cho_choose_51 z d μ = some (0, μ) := by
  show mE z d q_Cho_choose 51 [(9, 0), (9, 0), (9, 0), (9, 0), (9, 0), (9, 0), (9, 0), (9, 0), (9, 0), (9, 0), (9, 0), (9, 0), (9, 0)] [] μ = _
  rw [mE_bk (M := q_Cho_choose) k_Cho_choose.1 k_Cho_choose.2 [21, 51, 52, 150] 400]
  have key : ∀ (C : Nat → List zv → Mu → mR) (E : Nat → List zv → List zv → Mu → mR), mbk C E q_Cho_choose.1 q_Cho_choose.2.1 z q_Cho_choose.2.2.2 [21, 51, 52, 150] 400 (zfind q_Cho_choose.2.2.2 51) [(9, 0), (9, 0), (9, 0), (9, 0), (9, 0), (9, 0), (9, 0), (9, 0), (9, 0), (9, 0), (9, 0), (9, 0), (9, 0)] [] μ = some (0, μ) := by
    intro C E
    rfl
  exact key _ _
set_option maxRecDepth 100000 in
theorem e_Cho_choose_52 (z : zZ) (d : Nat) (o0 : Nat) (v1 : Int) (v2 : Int) (v3 : Int) (v5 : Int) (v7 : Int) (v8 : Int) (μ : Mu) (ho0 : o0 = 23 ∨ o0 = 29) : f_Cho_choose_52 z d o0 v1 v2 v3 v5 v7 v8 μ = (mC z d 114 [(2, ((o0 : Nat) : Int)), (0, zw (v1 - 1)), (0, v2), (1, v3), (1, v5), (0, v7), (0, v8)] μ).bind fun q1 => ((mC z d 23 [(0, q1.2 o0 6), (0, v1)] q1.2).bind fun q2 => (bif decide (q2.1 = 0) then (f_Cho_choose_150 z d q2.2) else (gI v1 12 (bif !decide (z_and (q2.2 (o0 + 2) v1.toNat) v8 = 0) then (f_Cho_choose_150 z d q2.2) else (gI v1 12 (gI v1 12 ((mC z d 112 [(1, zwl (v3 - (q2.2 (o0 + 3) v1.toNat))), (1, zwl (v5 - (q2.2 (o0 + 4) v1.toNat)))] q2.2).bind fun q3 => (bif decide (q3.1 = 0) then (f_Cho_choose_150 z d q3.2) else (gI v1 12 ((mC z d 114 [(2, ((o0 : Nat) : Int)), (0, zw (v1 - 1)), (0, zw (v2 - 1)), (1, zwl (v3 - (q2.2 (o0 + 3) v1.toNat))), (1, zwl (v5 - (q2.2 (o0 + 4) v1.toNat))), (0, zw (v7 + (q3.2 (o0 + 1) v1.toNat))), (0, z_or v8 (z_shl 1 v1))] q3.2).bind fun q4 => (f_Cho_choose_150 z d q4.2))))))))))) := by
  show mE z d q_Cho_choose 52 [(2, ((o0 : Nat) : Int)), (0, v1), (0, v2), (1, v3), (9, 0), (1, v5), (9, 0), (0, v7), (0, v8), (9, 0), (9, 0), (9, 0), (9, 0)] [] μ = _
  rw [mE_bk (M := q_Cho_choose) k_Cho_choose.1 k_Cho_choose.2 [21, 51, 52, 150] 400]
  have key : ∀ (C : Nat → List zv → Mu → mR) (E : Nat → List zv → List zv → Mu → mR), mbk C E q_Cho_choose.1 q_Cho_choose.2.1 z q_Cho_choose.2.2.2 [21, 51, 52, 150] 400 (zfind q_Cho_choose.2.2.2 52) [(2, ((o0 : Nat) : Int)), (0, v1), (0, v2), (1, v3), (9, 0), (1, v5), (9, 0), (0, v7), (0, v8), (9, 0), (9, 0), (9, 0), (9, 0)] [] μ = (C 114 [(2, ((o0 : Nat) : Int)), (0, zw (v1 - 1)), (0, v2), (1, v3), (1, v5), (0, v7), (0, v8)] μ).bind fun q1 => ((C 23 [(0, q1.2 o0 6), (0, v1)] q1.2).bind fun q2 => (bif decide (q2.1 = 0) then (g_Cho_choose_150 E q2.2) else (gI v1 12 (bif !decide (z_and (q2.2 (o0 + 2) v1.toNat) v8 = 0) then (g_Cho_choose_150 E q2.2) else (gI v1 12 (gI v1 12 ((C 112 [(1, zwl (v3 - (q2.2 (o0 + 3) v1.toNat))), (1, zwl (v5 - (q2.2 (o0 + 4) v1.toNat)))] q2.2).bind fun q3 => (bif decide (q3.1 = 0) then (g_Cho_choose_150 E q3.2) else (gI v1 12 ((C 114 [(2, ((o0 : Nat) : Int)), (0, zw (v1 - 1)), (0, zw (v2 - 1)), (1, zwl (v3 - (q2.2 (o0 + 3) v1.toNat))), (1, zwl (v5 - (q2.2 (o0 + 4) v1.toNat))), (0, zw (v7 + (q3.2 (o0 + 1) v1.toNat))), (0, z_or v8 (z_shl 1 v1))] q3.2).bind fun q4 => (g_Cho_choose_150 E q4.2))))))))))) := by
    intro C E
    rcases ho0 with rfl | rfl <;> (rfl)
  exact key _ _
set_option maxRecDepth 100000 in
theorem e_Cho_choose_150 (z : zZ) (d : Nat) (μ : Mu) : f_Cho_choose_150 z d μ = some (0, μ) := by
  show mE z d q_Cho_choose 150 [(9, 0), (9, 0), (9, 0), (9, 0), (9, 0), (9, 0), (9, 0), (9, 0), (9, 0), (9, 0), (9, 0), (9, 0), (9, 0)] [] μ = _
  rw [mE_bk (M := q_Cho_choose) k_Cho_choose.1 k_Cho_choose.2 [21, 51, 52, 150] 400]
  have key : ∀ (C : Nat → List zv → Mu → mR) (E : Nat → List zv → List zv → Mu → mR), mbk C E q_Cho_choose.1 q_Cho_choose.2.1 z q_Cho_choose.2.2.2 [21, 51, 52, 150] 400 (zfind q_Cho_choose.2.2.2 150) [(9, 0), (9, 0), (9, 0), (9, 0), (9, 0), (9, 0), (9, 0), (9, 0), (9, 0), (9, 0), (9, 0), (9, 0), (9, 0)] [] μ = some (0, μ) := by
    intro C E
    rfl
  exact key _ _
def g_W_against_16 (E : Nat → List zv → List zv → Mu → mR) (μ : Mu) : mR := E 16 [(9, 0), (9, 0), (9, 0), (9, 0), (9, 0), (9, 0), (9, 0), (9, 0)] [] μ
noncomputable def f_W_against_16 (z : zZ) (d : Nat) (μ : Mu) : mR := g_W_against_16 (fun pc ls st μ => mE z d q_W_against pc ls st μ) μ
def g_W_against_18 (E : Nat → List zv → List zv → Mu → mR) (v1 : Int) (v2 : Int) (μ : Mu) : mR := E 18 [(2, 0), (0, v1), (0, v2), (9, 0), (9, 0), (9, 0), (9, 0), (9, 0)] [] μ
noncomputable def f_W_against_18 (z : zZ) (d : Nat) (v1 : Int) (v2 : Int) (μ : Mu) : mR := g_W_against_18 (fun pc ls st μ => mE z d q_W_against pc ls st μ) v1 v2 μ
def g_W_against_34 (E : Nat → List zv → List zv → Mu → mR) (v1 : Int) (v2 : Int) (o3 : Nat) (v4 : Int) (v5 : Int) (v6 : Int) (μ : Mu) : mR := E 34 [(2, 0), (0, v1), (0, v2), (2, ((o3 : Nat) : Int)), (0, v4), (0, v5), (0, v6), (9, 0)] [] μ
noncomputable def f_W_against_34 (z : zZ) (d : Nat) (v1 : Int) (v2 : Int) (o3 : Nat) (v4 : Int) (v5 : Int) (v6 : Int) (μ : Mu) : mR := g_W_against_34 (fun pc ls st μ => mE z d q_W_against pc ls st μ) v1 v2 o3 v4 v5 v6 μ
def g_W_against_52 (E : Nat → List zv → List zv → Mu → mR) (v1 : Int) (v2 : Int) (o3 : Nat) (v4 : Int) (v5 : Int) (v6 : Int) (μ : Mu) : mR := E 52 [(2, 0), (0, v1), (0, v2), (2, ((o3 : Nat) : Int)), (0, v4), (0, v5), (0, v6), (9, 0)] [] μ
noncomputable def f_W_against_52 (z : zZ) (d : Nat) (v1 : Int) (v2 : Int) (o3 : Nat) (v4 : Int) (v5 : Int) (v6 : Int) (μ : Mu) : mR := g_W_against_52 (fun pc ls st μ => mE z d q_W_against pc ls st μ) v1 v2 o3 v4 v5 v6 μ
def g_W_against_89 (E : Nat → List zv → List zv → Mu → mR) (v1 : Int) (v2 : Int) (o3 : Nat) (v4 : Int) (v5 : Int) (v6 : Int) (μ : Mu) : mR := E 89 [(2, 0), (0, v1), (0, v2), (2, ((o3 : Nat) : Int)), (0, v4), (0, v5), (0, v6), (9, 0)] [] μ
noncomputable def f_W_against_89 (z : zZ) (d : Nat) (v1 : Int) (v2 : Int) (o3 : Nat) (v4 : Int) (v5 : Int) (v6 : Int) (μ : Mu) : mR := g_W_against_89 (fun pc ls st μ => mE z d q_W_against pc ls st μ) v1 v2 o3 v4 v5 v6 μ
def g_W_against_104 (E : Nat → List zv → List zv → Mu → mR) (v5 : Int) (μ : Mu) : mR := E 104 [(9, 0), (9, 0), (9, 0), (9, 0), (9, 0), (0, v5), (9, 0), (9, 0)] [] μ
noncomputable def f_W_against_104 (z : zZ) (d : Nat) (v5 : Int) (μ : Mu) : mR := g_W_against_104 (fun pc ls st μ => mE z d q_W_against pc ls st μ) v5 μ
def g_W_against_106 (E : Nat → List zv → List zv → Mu → mR) (v100 : Int) (μ : Mu) : mR := E 106 [(9, 0), (9, 0), (9, 0), (9, 0), (9, 0), (9, 0), (9, 0), (9, 0)] [(0, v100)] μ
noncomputable def f_W_against_106 (z : zZ) (d : Nat) (v100 : Int) (μ : Mu) : mR := g_W_against_106 (fun pc ls st μ => mE z d q_W_against pc ls st μ) v100 μ
theorem k_W_against : zprK q_W_against.2.2.2 = true ∧ zinc q_W_against.2.2.2 = true := by decide +kernel
set_option maxRecDepth 100000 in
theorem c_W_against (z : zZ) (d : Nat) (v1 : Int) (v2 : Int) (μ : Mu) : mC z (d + 1) 115 [(2, 0), (0, v1), (0, v2)] μ = (mC z d 15 [(0, v1)] μ).bind fun q1 => (bif decide (q1.1 = 0) then (f_W_against_16 z d q1.2) else (bif decide (v2 < 0) then (f_W_against_16 z d q1.2) else (bif decide (v2 ≤ 1) then (f_W_against_18 z d v1 v2 q1.2) else (f_W_against_16 z d q1.2)))) := by
  rw [mC_succ q_W_against rfl rfl rfl]
  rw [mE_bk (M := q_W_against) k_W_against.1 k_W_against.2 [16, 18, 34, 52, 89, 104, 106] 400]
  have key : ∀ (C : Nat → List zv → Mu → mR) (E : Nat → List zv → List zv → Mu → mR), mbk C E q_W_against.1 q_W_against.2.1 z q_W_against.2.2.2 [16, 18, 34, 52, 89, 104, 106] 400 (zfind q_W_against.2.2.2 0) (zentry q_W_against.2.2.1 [(2, 0), (0, v1), (0, v2)]) [] μ = (C 15 [(0, v1)] μ).bind fun q1 => (bif decide (q1.1 = 0) then (g_W_against_16 E q1.2) else (bif decide (v2 < 0) then (g_W_against_16 E q1.2) else (bif decide (v2 ≤ 1) then (g_W_against_18 E v1 v2 q1.2) else (g_W_against_16 E q1.2)))) := by
    intro C E
    rfl
  exact key _ _
set_option maxRecDepth 100000 in
theorem e_W_against_16 (z : zZ) (d : Nat) (μ : Mu) : f_W_against_16 z d μ = some ((-1), μ) := by
  show mE z d q_W_against 16 [(9, 0), (9, 0), (9, 0), (9, 0), (9, 0), (9, 0), (9, 0), (9, 0)] [] μ = _
  rw [mE_bk (M := q_W_against) k_W_against.1 k_W_against.2 [16, 18, 34, 52, 89, 104, 106] 400]
  have key : ∀ (C : Nat → List zv → Mu → mR) (E : Nat → List zv → List zv → Mu → mR), mbk C E q_W_against.1 q_W_against.2.1 z q_W_against.2.2.2 [16, 18, 34, 52, 89, 104, 106] 400 (zfind q_W_against.2.2.2 16) [(9, 0), (9, 0), (9, 0), (9, 0), (9, 0), (9, 0), (9, 0), (9, 0)] [] μ = some ((-1), μ) := by
    intro C E
    rfl
  exact key _ _
set_option maxRecDepth 100000 in
theorem e_W_against_18 (z : zZ) (d : Nat) (v1 : Int) (v2 : Int) (μ : Mu) (hv1 : v1 = 0 ∨ v1 = 1) : f_W_against_18 z d v1 v2 μ = f_W_against_34 z d v1 v2 (4 + 9 * v1.toNat) 0 0 0 μ := by
  show mE z d q_W_against 18 [(2, 0), (0, v1), (0, v2), (9, 0), (9, 0), (9, 0), (9, 0), (9, 0)] [] μ = _
  rw [mE_bk (M := q_W_against) k_W_against.1 k_W_against.2 [16, 18, 34, 52, 89, 104, 106] 400]
  have key : ∀ (C : Nat → List zv → Mu → mR) (E : Nat → List zv → List zv → Mu → mR), mbk C E q_W_against.1 q_W_against.2.1 z q_W_against.2.2.2 [16, 18, 34, 52, 89, 104, 106] 400 (zfind q_W_against.2.2.2 18) [(2, 0), (0, v1), (0, v2), (9, 0), (9, 0), (9, 0), (9, 0), (9, 0)] [] μ = g_W_against_34 E v1 v2 (4 + 9 * v1.toNat) 0 0 0 μ := by
    intro C E
    rcases hv1 with rfl | rfl <;> (rfl)
  exact key _ _
set_option maxRecDepth 100000 in
theorem e_W_against_34 (z : zZ) (d : Nat) (v1 : Int) (v2 : Int) (o3 : Nat) (v4 : Int) (v5 : Int) (v6 : Int) (μ : Mu) (ho3 : o3 = 4 ∨ o3 = 13) : f_W_against_34 z d v1 v2 o3 v4 v5 v6 μ = bif decide (μ o3 6 ≤ v6) then (bif !decide (v2 = 0) then (f_W_against_104 z d v5 μ) else (f_W_against_106 z d v4 μ)) else ((mC z d 72 [(2, ((o3 : Nat) : Int)), (0, v6)] μ).bind fun q1 => (bif decide (q1.1 = 0) then (f_W_against_89 z d v1 v2 o3 v4 v5 v6 q1.2) else (f_W_against_52 z d v1 v2 o3 v4 v5 v6 q1.2))) := by
  show mE z d q_W_against 34 [(2, 0), (0, v1), (0, v2), (2, ((o3 : Nat) : Int)), (0, v4), (0, v5), (0, v6), (9, 0)] [] μ = _
  rw [mE_bk (M := q_W_against) k_W_against.1 k_W_against.2 [16, 18, 34, 52, 89, 104, 106] 400]
  have key : ∀ (C : Nat → List zv → Mu → mR) (E : Nat → List zv → List zv → Mu → mR), mbk C E q_W_against.1 q_W_against.2.1 z q_W_against.2.2.2 [16, 18, 34, 52, 89, 104, 106] 400 (zfind q_W_against.2.2.2 34) [(2, 0), (0, v1), (0, v2), (2, ((o3 : Nat) : Int)), (0, v4), (0, v5), (0, v6), (9, 0)] [] μ = bif decide (μ o3 6 ≤ v6) then (bif !decide (v2 = 0) then (g_W_against_104 E v5 μ) else (g_W_against_106 E v4 μ)) else ((C 72 [(2, ((o3 : Nat) : Int)), (0, v6)] μ).bind fun q1 => (bif decide (q1.1 = 0) then (g_W_against_89 E v1 v2 o3 v4 v5 v6 q1.2) else (g_W_against_52 E v1 v2 o3 v4 v5 v6 q1.2))) := by
    intro C E
    rcases ho3 with rfl | rfl <;> (rfl)
  exact key _ _
set_option maxRecDepth 100000 in
theorem e_W_against_104 (z : zZ) (d : Nat) (v5 : Int) (μ : Mu) : f_W_against_104 z d v5 μ = f_W_against_106 z d v5 μ := by
  show mE z d q_W_against 104 [(9, 0), (9, 0), (9, 0), (9, 0), (9, 0), (0, v5), (9, 0), (9, 0)] [] μ = _
  rw [mE_bk (M := q_W_against) k_W_against.1 k_W_against.2 [16, 18, 34, 52, 89, 104, 106] 400]
  have key : ∀ (C : Nat → List zv → Mu → mR) (E : Nat → List zv → List zv → Mu → mR), mbk C E q_W_against.1 q_W_against.2.1 z q_W_against.2.2.2 [16, 18, 34, 52, 89, 104, 106] 400 (zfind q_W_against.2.2.2 104) [(9, 0), (9, 0), (9, 0), (9, 0), (9, 0), (0, v5), (9, 0), (9, 0)] [] μ = g_W_against_106 E v5 μ := by
    intro C E
    rfl
  exact key _ _
set_option maxRecDepth 100000 in
theorem e_W_against_106 (z : zZ) (d : Nat) (v100 : Int) (μ : Mu) : f_W_against_106 z d v100 μ = some (v100, μ) := by
  show mE z d q_W_against 106 [(9, 0), (9, 0), (9, 0), (9, 0), (9, 0), (9, 0), (9, 0), (9, 0)] [(0, v100)] μ = _
  rw [mE_bk (M := q_W_against) k_W_against.1 k_W_against.2 [16, 18, 34, 52, 89, 104, 106] 400]
  have key : ∀ (C : Nat → List zv → Mu → mR) (E : Nat → List zv → List zv → Mu → mR), mbk C E q_W_against.1 q_W_against.2.1 z q_W_against.2.2.2 [16, 18, 34, 52, 89, 104, 106] 400 (zfind q_W_against.2.2.2 106) [(9, 0), (9, 0), (9, 0), (9, 0), (9, 0), (9, 0), (9, 0), (9, 0)] [(0, v100)] μ = some (v100, μ) := by
    intro C E
    rfl
  exact key _ _
set_option maxRecDepth 100000 in
theorem e_W_against_89 (z : zZ) (d : Nat) (v1 : Int) (v2 : Int) (o3 : Nat) (v4 : Int) (v5 : Int) (v6 : Int) (μ : Mu) (ho3 : o3 = 4 ∨ o3 = 13) : f_W_against_89 z d v1 v2 o3 v4 v5 v6 μ = f_W_against_34 z d v1 v2 o3 v4 v5 (zw (v6 + 1)) μ := by
  show mE z d q_W_against 89 [(2, 0), (0, v1), (0, v2), (2, ((o3 : Nat) : Int)), (0, v4), (0, v5), (0, v6), (9, 0)] [] μ = _
  rw [mE_bk (M := q_W_against) k_W_against.1 k_W_against.2 [16, 18, 34, 52, 89, 104, 106] 400]
  have key : ∀ (C : Nat → List zv → Mu → mR) (E : Nat → List zv → List zv → Mu → mR), mbk C E q_W_against.1 q_W_against.2.1 z q_W_against.2.2.2 [16, 18, 34, 52, 89, 104, 106] 400 (zfind q_W_against.2.2.2 89) [(2, 0), (0, v1), (0, v2), (2, ((o3 : Nat) : Int)), (0, v4), (0, v5), (0, v6), (9, 0)] [] μ = g_W_against_34 E v1 v2 o3 v4 v5 (zw (v6 + 1)) μ := by
    intro C E
    rcases ho3 with rfl | rfl <;> (rfl)
  exact key _ _
set_option maxRecDepth 100000 in
theorem e_W_against_52 (z : zZ) (d : Nat) (v1 : Int) (v2 : Int) (o3 : Nat) (v4 : Int) (v5 : Int) (v6 : Int) (μ : Mu) (ho3 : o3 = 4 ∨ o3 = 13) (hv1 : v1 = 0 ∨ v1 = 1) : f_W_against_52 z d v1 v2 o3 v4 v5 v6 μ = gI v6 12 ((mC z d 116 [(0, μ (o3 + 4) v6.toNat), (2, (((4 + 9 * (zw (1 - v1)).toNat) : Nat) : Int))] μ).bind fun q1 => (bif decide (q1.1 ≤ v4) then (f_W_against_89 z d v1 v2 o3 v4 v5 v6 q1.2) else (f_W_against_89 z d v1 v2 o3 q1.1 (z_shl 1 v6) v6 q1.2))) := by
  show mE z d q_W_against 52 [(2, 0), (0, v1), (0, v2), (2, ((o3 : Nat) : Int)), (0, v4), (0, v5), (0, v6), (9, 0)] [] μ = _
  rw [mE_bk (M := q_W_against) k_W_against.1 k_W_against.2 [16, 18, 34, 52, 89, 104, 106] 400]
  have key : ∀ (C : Nat → List zv → Mu → mR) (E : Nat → List zv → List zv → Mu → mR), mbk C E q_W_against.1 q_W_against.2.1 z q_W_against.2.2.2 [16, 18, 34, 52, 89, 104, 106] 400 (zfind q_W_against.2.2.2 52) [(2, 0), (0, v1), (0, v2), (2, ((o3 : Nat) : Int)), (0, v4), (0, v5), (0, v6), (9, 0)] [] μ = gI v6 12 ((C 116 [(0, μ (o3 + 4) v6.toNat), (2, (((4 + 9 * (zw (1 - v1)).toNat) : Nat) : Int))] μ).bind fun q1 => (bif decide (q1.1 ≤ v4) then (g_W_against_89 E v1 v2 o3 v4 v5 v6 q1.2) else (g_W_against_89 E v1 v2 o3 q1.1 (z_shl 1 v6) v6 q1.2))) := by
    intro C E
    rcases ho3 with rfl | rfl <;> rcases hv1 with rfl | rfl <;> (rfl)
  exact key _ _
def g_W_beatenBy_4 (E : Nat → List zv → List zv → Mu → mR) (v0 : Int) (o1 : Nat) (v2 : Int) (v3 : Int) (μ : Mu) : mR := E 4 [(0, v0), (2, ((o1 : Nat) : Int)), (0, v2), (0, v3)] [] μ
noncomputable def f_W_beatenBy_4 (z : zZ) (d : Nat) (v0 : Int) (o1 : Nat) (v2 : Int) (v3 : Int) (μ : Mu) : mR := g_W_beatenBy_4 (fun pc ls st μ => mE z d q_W_beatenBy pc ls st μ) v0 o1 v2 v3 μ
def g_W_beatenBy_37 (E : Nat → List zv → List zv → Mu → mR) (v0 : Int) (o1 : Nat) (v2 : Int) (v3 : Int) (μ : Mu) : mR := E 37 [(0, v0), (2, ((o1 : Nat) : Int)), (0, v2), (0, v3)] [] μ
noncomputable def f_W_beatenBy_37 (z : zZ) (d : Nat) (v0 : Int) (o1 : Nat) (v2 : Int) (v3 : Int) (μ : Mu) : mR := g_W_beatenBy_37 (fun pc ls st μ => mE z d q_W_beatenBy pc ls st μ) v0 o1 v2 v3 μ
theorem k_W_beatenBy : zprK q_W_beatenBy.2.2.2 = true ∧ zinc q_W_beatenBy.2.2.2 = true := by decide +kernel
set_option maxRecDepth 100000 in
theorem c_W_beatenBy (z : zZ) (d : Nat) (v0 : Int) (o1 : Nat) (μ : Mu) (ho1 : o1 = 4 ∨ o1 = 13) : mC z (d + 1) 116 [(0, v0), (2, ((o1 : Nat) : Int))] μ = f_W_beatenBy_4 z d v0 o1 0 0 μ := by
  rw [mC_succ q_W_beatenBy rfl rfl rfl]
  rw [mE_bk (M := q_W_beatenBy) k_W_beatenBy.1 k_W_beatenBy.2 [4, 37] 400]
  have key : ∀ (C : Nat → List zv → Mu → mR) (E : Nat → List zv → List zv → Mu → mR), mbk C E q_W_beatenBy.1 q_W_beatenBy.2.1 z q_W_beatenBy.2.2.2 [4, 37] 400 (zfind q_W_beatenBy.2.2.2 0) (zentry q_W_beatenBy.2.2.1 [(0, v0), (2, ((o1 : Nat) : Int))]) [] μ = g_W_beatenBy_4 E v0 o1 0 0 μ := by
    intro C E
    rcases ho1 with rfl | rfl <;> (rfl)
  exact key _ _
set_option maxRecDepth 100000 in
theorem e_W_beatenBy_4 (z : zZ) (d : Nat) (v0 : Int) (o1 : Nat) (v2 : Int) (v3 : Int) (μ : Mu) (ho1 : o1 = 4 ∨ o1 = 13) : f_W_beatenBy_4 z d v0 o1 v2 v3 μ = bif decide (μ o1 6 ≤ v3) then (some (v2, μ)) else ((mC z d 36 [(2, ((o1 : Nat) : Int)), (0, v3)] μ).bind fun q1 => (bif decide (q1.1 = 0) then (f_W_beatenBy_37 z d v0 o1 v2 v3 q1.2) else (gI v3 12 ((mC z d 80 [(0, v0), (0, q1.2 (o1 + 4) v3.toNat), (2, ((o1 : Nat) : Int))] q1.2).bind fun q2 => (bif decide (q2.1 = 0) then (f_W_beatenBy_37 z d v0 o1 v2 v3 q2.2) else (f_W_beatenBy_37 z d v0 o1 (zw (v2 + 1)) v3 q2.2)))))) := by
  show mE z d q_W_beatenBy 4 [(0, v0), (2, ((o1 : Nat) : Int)), (0, v2), (0, v3)] [] μ = _
  rw [mE_bk (M := q_W_beatenBy) k_W_beatenBy.1 k_W_beatenBy.2 [4, 37] 400]
  have key : ∀ (C : Nat → List zv → Mu → mR) (E : Nat → List zv → List zv → Mu → mR), mbk C E q_W_beatenBy.1 q_W_beatenBy.2.1 z q_W_beatenBy.2.2.2 [4, 37] 400 (zfind q_W_beatenBy.2.2.2 4) [(0, v0), (2, ((o1 : Nat) : Int)), (0, v2), (0, v3)] [] μ = bif decide (μ o1 6 ≤ v3) then (some (v2, μ)) else ((C 36 [(2, ((o1 : Nat) : Int)), (0, v3)] μ).bind fun q1 => (bif decide (q1.1 = 0) then (g_W_beatenBy_37 E v0 o1 v2 v3 q1.2) else (gI v3 12 ((C 80 [(0, v0), (0, q1.2 (o1 + 4) v3.toNat), (2, ((o1 : Nat) : Int))] q1.2).bind fun q2 => (bif decide (q2.1 = 0) then (g_W_beatenBy_37 E v0 o1 v2 v3 q2.2) else (g_W_beatenBy_37 E v0 o1 (zw (v2 + 1)) v3 q2.2)))))) := by
    intro C E
    rcases ho1 with rfl | rfl <;> (rfl)
  exact key _ _
set_option maxRecDepth 100000 in
theorem e_W_beatenBy_37 (z : zZ) (d : Nat) (v0 : Int) (o1 : Nat) (v2 : Int) (v3 : Int) (μ : Mu) (ho1 : o1 = 4 ∨ o1 = 13) : f_W_beatenBy_37 z d v0 o1 v2 v3 μ = f_W_beatenBy_4 z d v0 o1 v2 (zw (v3 + 1)) μ := by
  show mE z d q_W_beatenBy 37 [(0, v0), (2, ((o1 : Nat) : Int)), (0, v2), (0, v3)] [] μ = _
  rw [mE_bk (M := q_W_beatenBy) k_W_beatenBy.1 k_W_beatenBy.2 [4, 37] 400]
  have key : ∀ (C : Nat → List zv → Mu → mR) (E : Nat → List zv → List zv → Mu → mR), mbk C E q_W_beatenBy.1 q_W_beatenBy.2.1 z q_W_beatenBy.2.2.2 [4, 37] 400 (zfind q_W_beatenBy.2.2.2 37) [(0, v0), (2, ((o1 : Nat) : Int)), (0, v2), (0, v3)] [] μ = g_W_beatenBy_4 E v0 o1 v2 (zw (v3 + 1)) μ := by
    intro C E
    rcases ho1 with rfl | rfl <;> (rfl)
  exact key _ _
