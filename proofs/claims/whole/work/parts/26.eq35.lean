def g_W_wants_13 (E : Nat → List zv → List zv → Mu → mR) (v2 : Int) (o3 : Nat) (v4 : Int) (v5 : Int) (μ : Mu) : mR := E 13 [(9, 0), (9, 0), (0, v2), (2, ((o3 : Nat) : Int)), (0, v4), (0, v5)] [] μ
noncomputable def f_W_wants_13 (z : zZ) (d : Nat) (v2 : Int) (o3 : Nat) (v4 : Int) (v5 : Int) (μ : Mu) : mR := g_W_wants_13 (fun pc ls st μ => mE z d q_W_wants pc ls st μ) v2 o3 v4 v5 μ
def g_W_wants_47 (E : Nat → List zv → List zv → Mu → mR) (v2 : Int) (o3 : Nat) (v4 : Int) (v5 : Int) (μ : Mu) : mR := E 47 [(9, 0), (9, 0), (0, v2), (2, ((o3 : Nat) : Int)), (0, v4), (0, v5)] [] μ
noncomputable def f_W_wants_47 (z : zZ) (d : Nat) (v2 : Int) (o3 : Nat) (v4 : Int) (v5 : Int) (μ : Mu) : mR := g_W_wants_47 (fun pc ls st μ => mE z d q_W_wants pc ls st μ) v2 o3 v4 v5 μ
def g_W_wants_53 (E : Nat → List zv → List zv → Mu → mR) (v2 : Int) (o3 : Nat) (v4 : Int) (μ : Mu) : mR := E 53 [(9, 0), (9, 0), (0, v2), (2, ((o3 : Nat) : Int)), (0, v4), (9, 0)] [] μ
noncomputable def f_W_wants_53 (z : zZ) (d : Nat) (v2 : Int) (o3 : Nat) (v4 : Int) (μ : Mu) : mR := g_W_wants_53 (fun pc ls st μ => mE z d q_W_wants pc ls st μ) v2 o3 v4 μ
def g_W_wants_70 (E : Nat → List zv → List zv → Mu → mR) (μ : Mu) : mR := E 70 [(9, 0), (9, 0), (9, 0), (9, 0), (9, 0), (9, 0)] [] μ
noncomputable def f_W_wants_70 (z : zZ) (d : Nat) (μ : Mu) : mR := g_W_wants_70 (fun pc ls st μ => mE z d q_W_wants pc ls st μ) μ
def g_W_wants_71 (E : Nat → List zv → List zv → Mu → mR) (v100 : Int) (μ : Mu) : mR := E 71 [(9, 0), (9, 0), (9, 0), (9, 0), (9, 0), (9, 0)] [(0, v100)] μ
noncomputable def f_W_wants_71 (z : zZ) (d : Nat) (v100 : Int) (μ : Mu) : mR := g_W_wants_71 (fun pc ls st μ => mE z d q_W_wants pc ls st μ) v100 μ
theorem k_W_wants : zprK q_W_wants.2.2.2 = true ∧ zinc q_W_wants.2.2.2 = true := by decide +kernel
set_option maxRecDepth 100000 in
theorem c_W_wants (z : zZ) (d : Nat) (v1 : Int) (v2 : Int) (μ : Mu) (hv1 : v1 = 0 ∨ v1 = 1) : mC z (d + 1) 125 [(2, 0), (0, v1), (0, v2)] μ = f_W_wants_13 z d v2 (4 + 9 * v1.toNat) 0 0 μ := by
  rw [mC_succ q_W_wants rfl rfl rfl]
  rw [mE_bk (M := q_W_wants) k_W_wants.1 k_W_wants.2 [13, 47, 53, 70, 71] 400]
  have key : ∀ (C : Nat → List zv → Mu → mR) (E : Nat → List zv → List zv → Mu → mR), mbk C E q_W_wants.1 q_W_wants.2.1 z q_W_wants.2.2.2 [13, 47, 53, 70, 71] 400 (zfind q_W_wants.2.2.2 0) (zentry q_W_wants.2.2.1 [(2, 0), (0, v1), (0, v2)]) [] μ = g_W_wants_13 E v2 (4 + 9 * v1.toNat) 0 0 μ := by
    intro C E
    rcases hv1 with rfl | rfl <;> (rfl)
  exact key _ _
set_option maxRecDepth 100000 in
theorem e_W_wants_13 (z : zZ) (d : Nat) (v2 : Int) (o3 : Nat) (v4 : Int) (v5 : Int) (μ : Mu) (ho3 : o3 = 4 ∨ o3 = 13) : f_W_wants_13 z d v2 o3 v4 v5 μ = bif decide (μ o3 6 ≤ v5) then (f_W_wants_53 z d v2 o3 v4 μ) else ((mC z d 36 [(2, ((o3 : Nat) : Int)), (0, v5)] μ).bind fun q1 => (bif !decide (q1.1 = 0) then (f_W_wants_47 z d v2 o3 v4 v5 q1.2) else (gI v5 12 ((mC z d 75 [(0, q1.2 (o3 + 4) v5.toNat), (0, v2)] q1.2).bind fun q2 => (f_W_wants_47 z d v2 o3 (zw (v4 + q2.1)) v5 q2.2))))) := by
  show mE z d q_W_wants 13 [(9, 0), (9, 0), (0, v2), (2, ((o3 : Nat) : Int)), (0, v4), (0, v5)] [] μ = _
  rw [mE_bk (M := q_W_wants) k_W_wants.1 k_W_wants.2 [13, 47, 53, 70, 71] 400]
  have key : ∀ (C : Nat → List zv → Mu → mR) (E : Nat → List zv → List zv → Mu → mR), mbk C E q_W_wants.1 q_W_wants.2.1 z q_W_wants.2.2.2 [13, 47, 53, 70, 71] 400 (zfind q_W_wants.2.2.2 13) [(9, 0), (9, 0), (0, v2), (2, ((o3 : Nat) : Int)), (0, v4), (0, v5)] [] μ = bif decide (μ o3 6 ≤ v5) then (g_W_wants_53 E v2 o3 v4 μ) else ((C 36 [(2, ((o3 : Nat) : Int)), (0, v5)] μ).bind fun q1 => (bif !decide (q1.1 = 0) then (g_W_wants_47 E v2 o3 v4 v5 q1.2) else (gI v5 12 ((C 75 [(0, q1.2 (o3 + 4) v5.toNat), (0, v2)] q1.2).bind fun q2 => (g_W_wants_47 E v2 o3 (zw (v4 + q2.1)) v5 q2.2))))) := by
    intro C E
    rcases ho3 with rfl | rfl <;> (rfl)
  exact key _ _
set_option maxRecDepth 100000 in
theorem e_W_wants_53 (z : zZ) (d : Nat) (v2 : Int) (o3 : Nat) (v4 : Int) (μ : Mu) (ho3 : o3 = 4 ∨ o3 = 13) : f_W_wants_53 z d v2 o3 v4 μ = gI (zw (0 + v2)) 36 (bif decide (v4 ≤ μ (o3 + 3) ((zw (0 + v2)).toNat)) then (f_W_wants_70 z d μ) else (f_W_wants_71 z d 1 μ)) := by
  show mE z d q_W_wants 53 [(9, 0), (9, 0), (0, v2), (2, ((o3 : Nat) : Int)), (0, v4), (9, 0)] [] μ = _
  rw [mE_bk (M := q_W_wants) k_W_wants.1 k_W_wants.2 [13, 47, 53, 70, 71] 400]
  have key : ∀ (C : Nat → List zv → Mu → mR) (E : Nat → List zv → List zv → Mu → mR), mbk C E q_W_wants.1 q_W_wants.2.1 z q_W_wants.2.2.2 [13, 47, 53, 70, 71] 400 (zfind q_W_wants.2.2.2 53) [(9, 0), (9, 0), (0, v2), (2, ((o3 : Nat) : Int)), (0, v4), (9, 0)] [] μ = gI (zw (0 + v2)) 36 (bif decide (v4 ≤ μ (o3 + 3) ((zw (0 + v2)).toNat)) then (g_W_wants_70 E μ) else (g_W_wants_71 E 1 μ)) := by
    intro C E
    rcases ho3 with rfl | rfl <;> (rfl)
  exact key _ _
set_option maxRecDepth 100000 in
theorem e_W_wants_47 (z : zZ) (d : Nat) (v2 : Int) (o3 : Nat) (v4 : Int) (v5 : Int) (μ : Mu) (ho3 : o3 = 4 ∨ o3 = 13) : f_W_wants_47 z d v2 o3 v4 v5 μ = f_W_wants_13 z d v2 o3 v4 (zw (v5 + 1)) μ := by
  show mE z d q_W_wants 47 [(9, 0), (9, 0), (0, v2), (2, ((o3 : Nat) : Int)), (0, v4), (0, v5)] [] μ = _
  rw [mE_bk (M := q_W_wants) k_W_wants.1 k_W_wants.2 [13, 47, 53, 70, 71] 400]
  have key : ∀ (C : Nat → List zv → Mu → mR) (E : Nat → List zv → List zv → Mu → mR), mbk C E q_W_wants.1 q_W_wants.2.1 z q_W_wants.2.2.2 [13, 47, 53, 70, 71] 400 (zfind q_W_wants.2.2.2 47) [(9, 0), (9, 0), (0, v2), (2, ((o3 : Nat) : Int)), (0, v4), (0, v5)] [] μ = g_W_wants_13 E v2 o3 v4 (zw (v5 + 1)) μ := by
    intro C E
    rcases ho3 with rfl | rfl <;> (rfl)
  exact key _ _
set_option maxRecDepth 100000 in
theorem e_W_wants_70 (z : zZ) (d : Nat) (μ : Mu) : f_W_wants_70 z d μ = f_W_wants_71 z d 0 μ := by
  show mE z d q_W_wants 70 [(9, 0), (9, 0), (9, 0), (9, 0), (9, 0), (9, 0)] [] μ = _
  rw [mE_bk (M := q_W_wants) k_W_wants.1 k_W_wants.2 [13, 47, 53, 70, 71] 400]
  have key : ∀ (C : Nat → List zv → Mu → mR) (E : Nat → List zv → List zv → Mu → mR), mbk C E q_W_wants.1 q_W_wants.2.1 z q_W_wants.2.2.2 [13, 47, 53, 70, 71] 400 (zfind q_W_wants.2.2.2 70) [(9, 0), (9, 0), (9, 0), (9, 0), (9, 0), (9, 0)] [] μ = g_W_wants_71 E 0 μ := by
    intro C E
    rfl
  exact key _ _
set_option maxRecDepth 100000 in
theorem e_W_wants_71 (z : zZ) (d : Nat) (v100 : Int) (μ : Mu) : f_W_wants_71 z d v100 μ = g01 v100 (some (v100, μ)) := by
  show mE z d q_W_wants 71 [(9, 0), (9, 0), (9, 0), (9, 0), (9, 0), (9, 0)] [(0, v100)] μ = _
  rw [mE_bk (M := q_W_wants) k_W_wants.1 k_W_wants.2 [13, 47, 53, 70, 71] 400]
  have key : ∀ (C : Nat → List zv → Mu → mR) (E : Nat → List zv → List zv → Mu → mR), mbk C E q_W_wants.1 q_W_wants.2.1 z q_W_wants.2.2.2 [13, 47, 53, 70, 71] 400 (zfind q_W_wants.2.2.2 71) [(9, 0), (9, 0), (9, 0), (9, 0), (9, 0), (9, 0)] [(0, v100)] μ = g01 v100 (some (v100, μ)) := by
    intro C E
    rfl
  exact key _ _
def g_W_exchanged_31 (E : Nat → List zv → List zv → Mu → mR) (μ : Mu) : mR := E 31 [(9, 0), (9, 0), (9, 0), (9, 0)] [] μ
noncomputable def f_W_exchanged_31 (z : zZ) (d : Nat) (μ : Mu) : mR := g_W_exchanged_31 (fun pc ls st μ => mE z d q_W_exchanged pc ls st μ) μ
def g_W_exchanged_33 (E : Nat → List zv → List zv → Mu → mR) (v1 : Int) (v2 : Int) (v3 : Int) (μ : Mu) : mR := E 33 [(2, 0), (0, v1), (0, v2), (0, v3)] [] μ
noncomputable def f_W_exchanged_33 (z : zZ) (d : Nat) (v1 : Int) (v2 : Int) (v3 : Int) (μ : Mu) : mR := g_W_exchanged_33 (fun pc ls st μ => mE z d q_W_exchanged pc ls st μ) v1 v2 v3 μ
def g_W_exchanged_95 (E : Nat → List zv → List zv → Mu → mR) (v1 : Int) (v2 : Int) (v3 : Int) (μ : Mu) : mR := E 95 [(2, 0), (0, v1), (0, v2), (0, v3)] [] μ
noncomputable def f_W_exchanged_95 (z : zZ) (d : Nat) (v1 : Int) (v2 : Int) (v3 : Int) (μ : Mu) : mR := g_W_exchanged_95 (fun pc ls st μ => mE z d q_W_exchanged pc ls st μ) v1 v2 v3 μ
theorem k_W_exchanged : zprK q_W_exchanged.2.2.2 = true ∧ zinc q_W_exchanged.2.2.2 = true := by decide +kernel
set_option maxRecDepth 100000 in
theorem c_W_exchanged (z : zZ) (d : Nat) (v1 : Int) (v2 : Int) (v3 : Int) (μ : Mu) : mC z (d + 1) 126 [(2, 0), (0, v1), (0, v2), (0, v3)] μ = (mC z d 15 [(0, v1)] μ).bind fun q1 => (bif decide (q1.1 = 0) then (f_W_exchanged_31 z d q1.2) else ((mC z d 13 [(0, v2)] q1.2).bind fun q2 => (bif decide (q2.1 = 0) then (f_W_exchanged_31 z d q2.2) else ((mC z d 13 [(0, v3)] q2.2).bind fun q3 => (bif decide (q3.1 = 0) then (f_W_exchanged_31 z d q3.2) else ((mC z d 124 [(2, 0), (0, v1), (0, v2), (0, v3)] q3.2).bind fun q4 => (bif !decide (q4.1 = 0) then (f_W_exchanged_33 z d v1 v2 v3 q4.2) else (f_W_exchanged_31 z d q4.2)))))))) := by
  rw [mC_succ q_W_exchanged rfl rfl rfl]
  rw [mE_bk (M := q_W_exchanged) k_W_exchanged.1 k_W_exchanged.2 [31, 33, 95] 400]
  have key : ∀ (C : Nat → List zv → Mu → mR) (E : Nat → List zv → List zv → Mu → mR), mbk C E q_W_exchanged.1 q_W_exchanged.2.1 z q_W_exchanged.2.2.2 [31, 33, 95] 400 (zfind q_W_exchanged.2.2.2 0) (zentry q_W_exchanged.2.2.1 [(2, 0), (0, v1), (0, v2), (0, v3)]) [] μ = (C 15 [(0, v1)] μ).bind fun q1 => (bif decide (q1.1 = 0) then (g_W_exchanged_31 E q1.2) else ((C 13 [(0, v2)] q1.2).bind fun q2 => (bif decide (q2.1 = 0) then (g_W_exchanged_31 E q2.2) else ((C 13 [(0, v3)] q2.2).bind fun q3 => (bif decide (q3.1 = 0) then (g_W_exchanged_31 E q3.2) else ((C 124 [(2, 0), (0, v1), (0, v2), (0, v3)] q3.2).bind fun q4 => (bif !decide (q4.1 = 0) then (g_W_exchanged_33 E v1 v2 v3 q4.2) else (g_W_exchanged_31 E q4.2)))))))) := by
    intro C E
    rfl
  exact key _ _
set_option maxRecDepth 100000 in
theorem e_W_exchanged_31 (z : zZ) (d : Nat) (μ : Mu) : f_W_exchanged_31 z d μ = some (0, μ) := by
  show mE z d q_W_exchanged 31 [(9, 0), (9, 0), (9, 0), (9, 0)] [] μ = _
  rw [mE_bk (M := q_W_exchanged) k_W_exchanged.1 k_W_exchanged.2 [31, 33, 95] 400]
  have key : ∀ (C : Nat → List zv → Mu → mR) (E : Nat → List zv → List zv → Mu → mR), mbk C E q_W_exchanged.1 q_W_exchanged.2.1 z q_W_exchanged.2.2.2 [31, 33, 95] 400 (zfind q_W_exchanged.2.2.2 31) [(9, 0), (9, 0), (9, 0), (9, 0)] [] μ = some (0, μ) := by
    intro C E
    rfl
  exact key _ _
set_option maxRecDepth 100000 in
theorem e_W_exchanged_33 (z : zZ) (d : Nat) (v1 : Int) (v2 : Int) (v3 : Int) (μ : Mu) (hv1 : v1 = 0 ∨ v1 = 1) : f_W_exchanged_33 z d v1 v2 v3 μ = gI (zw (0 + v2)) 36 (gI (zw (0 + v2)) 36 ((mC z d 42 [(2, (((4 + 9 * (zw (1 - v1)).toNat) : Nat) : Int)), (0, 0), (0, v2), (0, 1)] (zup μ ((4 + 9 * v1.toNat) + 3) ((zw (0 + v2)).toNat) (zw ((μ ((4 + 9 * v1.toNat) + 3) ((zw (0 + v2)).toNat)) - 1)))).bind fun q1 => (gI (zw (0 + v3)) 36 (gI (zw (0 + v3)) 36 ((mC z d 42 [(2, (((4 + 9 * v1.toNat) : Nat) : Int)), (0, 0), (0, v3), (0, 1)] (zup q1.2 ((4 + 9 * (zw (1 - v1)).toNat) + 3) ((zw (0 + v3)).toNat) (zw ((q1.2 ((4 + 9 * (zw (1 - v1)).toNat) + 3) ((zw (0 + v3)).toNat)) - 1)))).bind fun q2 => (f_W_exchanged_95 z d v1 v2 v3 q2.2)))))) := by
  show mE z d q_W_exchanged 33 [(2, 0), (0, v1), (0, v2), (0, v3)] [] μ = _
  rw [mE_bk (M := q_W_exchanged) k_W_exchanged.1 k_W_exchanged.2 [31, 33, 95] 400]
  have key : ∀ (C : Nat → List zv → Mu → mR) (E : Nat → List zv → List zv → Mu → mR), mbk C E q_W_exchanged.1 q_W_exchanged.2.1 z q_W_exchanged.2.2.2 [31, 33, 95] 400 (zfind q_W_exchanged.2.2.2 33) [(2, 0), (0, v1), (0, v2), (0, v3)] [] μ = gI (zw (0 + v2)) 36 (gI (zw (0 + v2)) 36 ((C 42 [(2, (((4 + 9 * (zw (1 - v1)).toNat) : Nat) : Int)), (0, 0), (0, v2), (0, 1)] (zup μ ((4 + 9 * v1.toNat) + 3) ((zw (0 + v2)).toNat) (zw ((μ ((4 + 9 * v1.toNat) + 3) ((zw (0 + v2)).toNat)) - 1)))).bind fun q1 => (gI (zw (0 + v3)) 36 (gI (zw (0 + v3)) 36 ((C 42 [(2, (((4 + 9 * v1.toNat) : Nat) : Int)), (0, 0), (0, v3), (0, 1)] (zup q1.2 ((4 + 9 * (zw (1 - v1)).toNat) + 3) ((zw (0 + v3)).toNat) (zw ((q1.2 ((4 + 9 * (zw (1 - v1)).toNat) + 3) ((zw (0 + v3)).toNat)) - 1)))).bind fun q2 => (g_W_exchanged_95 E v1 v2 v3 q2.2)))))) := by
    intro C E
    rcases hv1 with rfl | rfl <;> (rfl)
  exact key _ _
set_option maxRecDepth 100000 in
theorem e_W_exchanged_95 (z : zZ) (d : Nat) (v1 : Int) (v2 : Int) (v3 : Int) (μ : Mu) : f_W_exchanged_95 z d v1 v2 v3 μ = some (1, μ) := by
  show mE z d q_W_exchanged 95 [(2, 0), (0, v1), (0, v2), (0, v3)] [] μ = _
  rw [mE_bk (M := q_W_exchanged) k_W_exchanged.1 k_W_exchanged.2 [31, 33, 95] 400]
  have key : ∀ (C : Nat → List zv → Mu → mR) (E : Nat → List zv → List zv → Mu → mR), mbk C E q_W_exchanged.1 q_W_exchanged.2.1 z q_W_exchanged.2.2.2 [31, 33, 95] 400 (zfind q_W_exchanged.2.2.2 95) [(2, 0), (0, v1), (0, v2), (0, v3)] [] μ = some (1, μ) := by
    intro C E
    rfl
  exact key _ _
def g_W_home_12 (E : Nat → List zv → List zv → Mu → mR) (μ : Mu) : mR := E 12 [(9, 0), (9, 0), (9, 0), (9, 0)] [] μ
noncomputable def f_W_home_12 (z : zZ) (d : Nat) (μ : Mu) : mR := g_W_home_12 (fun pc ls st μ => mE z d q_W_home pc ls st μ) μ
def g_W_home_14 (E : Nat → List zv → List zv → Mu → mR) (v1 : Int) (v2 : Int) (μ : Mu) : mR := E 14 [(2, 0), (0, v1), (0, v2), (9, 0)] [] μ
noncomputable def f_W_home_14 (z : zZ) (d : Nat) (v1 : Int) (v2 : Int) (μ : Mu) : mR := g_W_home_14 (fun pc ls st μ => mE z d q_W_home pc ls st μ) v1 v2 μ
def g_W_home_50 (E : Nat → List zv → List zv → Mu → mR) (μ : Mu) : mR := E 50 [(9, 0), (9, 0), (9, 0), (9, 0)] [] μ
noncomputable def f_W_home_50 (z : zZ) (d : Nat) (μ : Mu) : mR := g_W_home_50 (fun pc ls st μ => mE z d q_W_home pc ls st μ) μ
def g_W_home_52 (E : Nat → List zv → List zv → Mu → mR) (v1 : Int) (v2 : Int) (μ : Mu) : mR := E 52 [(2, 0), (0, v1), (0, v2), (9, 0)] [] μ
noncomputable def f_W_home_52 (z : zZ) (d : Nat) (v1 : Int) (v2 : Int) (μ : Mu) : mR := g_W_home_52 (fun pc ls st μ => mE z d q_W_home pc ls st μ) v1 v2 μ
def g_W_home_54 (E : Nat → List zv → List zv → Mu → mR) (v1 : Int) (v2 : Int) (v3 : Int) (μ : Mu) : mR := E 54 [(2, 0), (0, v1), (0, v2), (0, v3)] [] μ
noncomputable def f_W_home_54 (z : zZ) (d : Nat) (v1 : Int) (v2 : Int) (v3 : Int) (μ : Mu) : mR := g_W_home_54 (fun pc ls st μ => mE z d q_W_home pc ls st μ) v1 v2 v3 μ
def g_W_home_95 (E : Nat → List zv → List zv → Mu → mR) (μ : Mu) : mR := E 95 [(9, 0), (9, 0), (9, 0), (9, 0)] [] μ
noncomputable def f_W_home_95 (z : zZ) (d : Nat) (μ : Mu) : mR := g_W_home_95 (fun pc ls st μ => mE z d q_W_home pc ls st μ) μ
theorem k_W_home : zprK q_W_home.2.2.2 = true ∧ zinc q_W_home.2.2.2 = true := by decide +kernel
set_option maxRecDepth 100000 in
theorem c_W_home (z : zZ) (d : Nat) (v1 : Int) (v2 : Int) (μ : Mu) : mC z (d + 1) 127 [(2, 0), (0, v1), (0, v2)] μ = (mC z d 13 [(0, v1)] μ).bind fun q1 => (bif decide (q1.1 = 0) then (f_W_home_12 z d q1.2) else (bif decide (1 ≤ v2) then (f_W_home_14 z d v1 v2 q1.2) else (f_W_home_12 z d q1.2))) := by
  rw [mC_succ q_W_home rfl rfl rfl]
  rw [mE_bk (M := q_W_home) k_W_home.1 k_W_home.2 [12, 14, 50, 52, 54, 95] 400]
  have key : ∀ (C : Nat → List zv → Mu → mR) (E : Nat → List zv → List zv → Mu → mR), mbk C E q_W_home.1 q_W_home.2.1 z q_W_home.2.2.2 [12, 14, 50, 52, 54, 95] 400 (zfind q_W_home.2.2.2 0) (zentry q_W_home.2.2.1 [(2, 0), (0, v1), (0, v2)]) [] μ = (C 13 [(0, v1)] μ).bind fun q1 => (bif decide (q1.1 = 0) then (g_W_home_12 E q1.2) else (bif decide (1 ≤ v2) then (g_W_home_14 E v1 v2 q1.2) else (g_W_home_12 E q1.2))) := by
    intro C E
    rfl
  exact key _ _
set_option maxRecDepth 100000 in
theorem e_W_home_12 (z : zZ) (d : Nat) (μ : Mu) : f_W_home_12 z d μ = some (0, μ) := by
  show mE z d q_W_home 12 [(9, 0), (9, 0), (9, 0), (9, 0)] [] μ = _
  rw [mE_bk (M := q_W_home) k_W_home.1 k_W_home.2 [12, 14, 50, 52, 54, 95] 400]
  have key : ∀ (C : Nat → List zv → Mu → mR) (E : Nat → List zv → List zv → Mu → mR), mbk C E q_W_home.1 q_W_home.2.1 z q_W_home.2.2.2 [12, 14, 50, 52, 54, 95] 400 (zfind q_W_home.2.2.2 12) [(9, 0), (9, 0), (9, 0), (9, 0)] [] μ = some (0, μ) := by
    intro C E
    rfl
  exact key _ _
set_option maxRecDepth 100000 in
theorem e_W_home_14 (z : zZ) (d : Nat) (v1 : Int) (v2 : Int) (μ : Mu) : f_W_home_14 z d v1 v2 μ = gI (zw (24 + v1)) 36 (bif decide (μ 7 ((zw (24 + v1)).toNat) < v2) then (f_W_home_50 z d μ) else (gI (zw (24 + v1)) 36 (bif decide (v2 ≤ μ 16 ((zw (24 + v1)).toNat)) then (f_W_home_52 z d v1 v2 μ) else (f_W_home_50 z d μ)))) := by
  show mE z d q_W_home 14 [(2, 0), (0, v1), (0, v2), (9, 0)] [] μ = _
  rw [mE_bk (M := q_W_home) k_W_home.1 k_W_home.2 [12, 14, 50, 52, 54, 95] 400]
  have key : ∀ (C : Nat → List zv → Mu → mR) (E : Nat → List zv → List zv → Mu → mR), mbk C E q_W_home.1 q_W_home.2.1 z q_W_home.2.2.2 [12, 14, 50, 52, 54, 95] 400 (zfind q_W_home.2.2.2 14) [(2, 0), (0, v1), (0, v2), (9, 0)] [] μ = gI (zw (24 + v1)) 36 (bif decide (μ 7 ((zw (24 + v1)).toNat) < v2) then (g_W_home_50 E μ) else (gI (zw (24 + v1)) 36 (bif decide (v2 ≤ μ 16 ((zw (24 + v1)).toNat)) then (g_W_home_52 E v1 v2 μ) else (g_W_home_50 E μ)))) := by
    intro C E
    rfl
  exact key _ _
set_option maxRecDepth 100000 in
theorem e_W_home_50 (z : zZ) (d : Nat) (μ : Mu) : f_W_home_50 z d μ = some (0, μ) := by
  show mE z d q_W_home 50 [(9, 0), (9, 0), (9, 0), (9, 0)] [] μ = _
  rw [mE_bk (M := q_W_home) k_W_home.1 k_W_home.2 [12, 14, 50, 52, 54, 95] 400]
  have key : ∀ (C : Nat → List zv → Mu → mR) (E : Nat → List zv → List zv → Mu → mR), mbk C E q_W_home.1 q_W_home.2.1 z q_W_home.2.2.2 [12, 14, 50, 52, 54, 95] 400 (zfind q_W_home.2.2.2 50) [(9, 0), (9, 0), (9, 0), (9, 0)] [] μ = some (0, μ) := by
    intro C E
    rfl
  exact key _ _
set_option maxRecDepth 100000 in
theorem e_W_home_52 (z : zZ) (d : Nat) (v1 : Int) (v2 : Int) (μ : Mu) : f_W_home_52 z d v1 v2 μ = f_W_home_54 z d v1 v2 0 μ := by
  show mE z d q_W_home 52 [(2, 0), (0, v1), (0, v2), (9, 0)] [] μ = _
  rw [mE_bk (M := q_W_home) k_W_home.1 k_W_home.2 [12, 14, 50, 52, 54, 95] 400]
  have key : ∀ (C : Nat → List zv → Mu → mR) (E : Nat → List zv → List zv → Mu → mR), mbk C E q_W_home.1 q_W_home.2.1 z q_W_home.2.2.2 [12, 14, 50, 52, 54, 95] 400 (zfind q_W_home.2.2.2 52) [(2, 0), (0, v1), (0, v2), (9, 0)] [] μ = g_W_home_54 E v1 v2 0 μ := by
    intro C E
    rfl
  exact key _ _
set_option maxRecDepth 100000 in
theorem e_W_home_54 (z : zZ) (d : Nat) (v1 : Int) (v2 : Int) (v3 : Int) (μ : Mu) (hv3 : v3 = 0 ∨ v3 = 1) : f_W_home_54 z d v1 v2 v3 μ = bif decide (2 ≤ v3) then (f_W_home_95 z d μ) else (gI (zw (24 + v1)) 36 (gI (zw (24 + v1)) 36 ((mC z d 42 [(2, (((4 + 9 * v3.toNat) : Nat) : Int)), (0, 0), (0, v1), (0, v2)] (zup μ ((4 + 9 * v3.toNat) + 3) ((zw (24 + v1)).toNat) (zw ((μ ((4 + 9 * v3.toNat) + 3) ((zw (24 + v1)).toNat)) - v2)))).bind fun q1 => (f_W_home_54 z d v1 v2 (zw (v3 + 1)) q1.2)))) := by
  show mE z d q_W_home 54 [(2, 0), (0, v1), (0, v2), (0, v3)] [] μ = _
  rw [mE_bk (M := q_W_home) k_W_home.1 k_W_home.2 [12, 14, 50, 52, 54, 95] 400]
  have key : ∀ (C : Nat → List zv → Mu → mR) (E : Nat → List zv → List zv → Mu → mR), mbk C E q_W_home.1 q_W_home.2.1 z q_W_home.2.2.2 [12, 14, 50, 52, 54, 95] 400 (zfind q_W_home.2.2.2 54) [(2, 0), (0, v1), (0, v2), (0, v3)] [] μ = bif decide (2 ≤ v3) then (g_W_home_95 E μ) else (gI (zw (24 + v1)) 36 (gI (zw (24 + v1)) 36 ((C 42 [(2, (((4 + 9 * v3.toNat) : Nat) : Int)), (0, 0), (0, v1), (0, v2)] (zup μ ((4 + 9 * v3.toNat) + 3) ((zw (24 + v1)).toNat) (zw ((μ ((4 + 9 * v3.toNat) + 3) ((zw (24 + v1)).toNat)) - v2)))).bind fun q1 => (g_W_home_54 E v1 v2 (zw (v3 + 1)) q1.2)))) := by
    intro C E
    rcases hv3 with rfl | rfl <;> (rfl)
  exact key _ _
set_option maxRecDepth 100000 in
theorem e_W_home_95 (z : zZ) (d : Nat) (μ : Mu) : f_W_home_95 z d μ = some (1, μ) := by
  show mE z d q_W_home 95 [(9, 0), (9, 0), (9, 0), (9, 0)] [] μ = _
  rw [mE_bk (M := q_W_home) k_W_home.1 k_W_home.2 [12, 14, 50, 52, 54, 95] 400]
  have key : ∀ (C : Nat → List zv → Mu → mR) (E : Nat → List zv → List zv → Mu → mR), mbk C E q_W_home.1 q_W_home.2.1 z q_W_home.2.2.2 [12, 14, 50, 52, 54, 95] 400 (zfind q_W_home.2.2.2 95) [(9, 0), (9, 0), (9, 0), (9, 0)] [] μ = some (1, μ) := by
    intro C E
    rfl
  exact key _ _
def g_W_peace_26 (E : Nat → List zv → List zv → Mu → mR) (μ : Mu) : mR := E 26 [(9, 0), (9, 0), (9, 0), (9, 0)] [] μ
noncomputable def f_W_peace_26 (z : zZ) (d : Nat) (μ : Mu) : mR := g_W_peace_26 (fun pc ls st μ => mE z d q_W_peace pc ls st μ) μ
def g_W_peace_28 (E : Nat → List zv → List zv → Mu → mR) (v1 : Int) (v2 : Int) (v3 : Int) (μ : Mu) : mR := E 28 [(2, 0), (0, v1), (0, v2), (0, v3)] [] μ
noncomputable def f_W_peace_28 (z : zZ) (d : Nat) (v1 : Int) (v2 : Int) (v3 : Int) (μ : Mu) : mR := g_W_peace_28 (fun pc ls st μ => mE z d q_W_peace pc ls st μ) v1 v2 v3 μ
def g_W_peace_80 (E : Nat → List zv → List zv → Mu → mR) (v3 : Int) (μ : Mu) : mR := E 80 [(2, 0), (9, 0), (9, 0), (0, v3)] [] μ
noncomputable def f_W_peace_80 (z : zZ) (d : Nat) (v3 : Int) (μ : Mu) : mR := g_W_peace_80 (fun pc ls st μ => mE z d q_W_peace pc ls st μ) v3 μ
def g_W_peace_103 (E : Nat → List zv → List zv → Mu → mR) (μ : Mu) : mR := E 103 [(9, 0), (9, 0), (9, 0), (9, 0)] [] μ
noncomputable def f_W_peace_103 (z : zZ) (d : Nat) (μ : Mu) : mR := g_W_peace_103 (fun pc ls st μ => mE z d q_W_peace pc ls st μ) μ
def g_W_peace_105 (E : Nat → List zv → List zv → Mu → mR) (v100 : Int) (μ : Mu) : mR := E 105 [(9, 0), (9, 0), (9, 0), (9, 0)] [(0, v100)] μ
noncomputable def f_W_peace_105 (z : zZ) (d : Nat) (v100 : Int) (μ : Mu) : mR := g_W_peace_105 (fun pc ls st μ => mE z d q_W_peace pc ls st μ) v100 μ
theorem k_W_peace : zprK q_W_peace.2.2.2 = true ∧ zinc q_W_peace.2.2.2 = true := by decide +kernel
set_option maxRecDepth 100000 in
theorem c_W_peace (z : zZ) (d : Nat) (v1 : Int) (v2 : Int) (v3 : Int) (μ : Mu) : mC z (d + 1) 128 [(2, 0), (0, v1), (0, v2), (0, v3)] μ = (mC z d 37 [(2, 4), (0, v1)] μ).bind fun q1 => (bif decide (q1.1 = 0) then (f_W_peace_26 z d q1.2) else ((mC z d 37 [(2, 13), (0, v2)] q1.2).bind fun q2 => (bif !decide (q2.1 = 0) then (f_W_peace_28 z d v1 v2 v3 q2.2) else (f_W_peace_26 z d q2.2)))) := by
  rw [mC_succ q_W_peace rfl rfl rfl]
  rw [mE_bk (M := q_W_peace) k_W_peace.1 k_W_peace.2 [26, 28, 80, 103, 105] 400]
  have key : ∀ (C : Nat → List zv → Mu → mR) (E : Nat → List zv → List zv → Mu → mR), mbk C E q_W_peace.1 q_W_peace.2.1 z q_W_peace.2.2.2 [26, 28, 80, 103, 105] 400 (zfind q_W_peace.2.2.2 0) (zentry q_W_peace.2.2.1 [(2, 0), (0, v1), (0, v2), (0, v3)]) [] μ = (C 37 [(2, 4), (0, v1)] μ).bind fun q1 => (bif decide (q1.1 = 0) then (g_W_peace_26 E q1.2) else ((C 37 [(2, 13), (0, v2)] q1.2).bind fun q2 => (bif !decide (q2.1 = 0) then (g_W_peace_28 E v1 v2 v3 q2.2) else (g_W_peace_26 E q2.2)))) := by
    intro C E
    rfl
  exact key _ _
set_option maxRecDepth 100000 in
theorem e_W_peace_26 (z : zZ) (d : Nat) (μ : Mu) : f_W_peace_26 z d μ = some ((-1), μ) := by
  show mE z d q_W_peace 26 [(9, 0), (9, 0), (9, 0), (9, 0)] [] μ = _
  rw [mE_bk (M := q_W_peace) k_W_peace.1 k_W_peace.2 [26, 28, 80, 103, 105] 400]
  have key : ∀ (C : Nat → List zv → Mu → mR) (E : Nat → List zv → List zv → Mu → mR), mbk C E q_W_peace.1 q_W_peace.2.1 z q_W_peace.2.2.2 [26, 28, 80, 103, 105] 400 (zfind q_W_peace.2.2.2 26) [(9, 0), (9, 0), (9, 0), (9, 0)] [] μ = some ((-1), μ) := by
    intro C E
    rfl
  exact key _ _
set_option maxRecDepth 100000 in
theorem e_W_peace_28 (z : zZ) (d : Nat) (v1 : Int) (v2 : Int) (v3 : Int) (μ : Mu) : f_W_peace_28 z d v1 v2 v3 μ = gI v1 12 (gI v2 12 ((mC z d 129 [(2, 55), (0, μ 8 v1.toNat), (0, μ 17 v2.toNat), (2, 6)] μ).bind fun q1 => (bif !decide (v3 = 20) then (f_W_peace_80 z d v3 q1.2) else (some (q1.2 55 1, q1.2))))) := by
  show mE z d q_W_peace 28 [(2, 0), (0, v1), (0, v2), (0, v3)] [] μ = _
  rw [mE_bk (M := q_W_peace) k_W_peace.1 k_W_peace.2 [26, 28, 80, 103, 105] 400]
  have key : ∀ (C : Nat → List zv → Mu → mR) (E : Nat → List zv → List zv → Mu → mR), mbk C E q_W_peace.1 q_W_peace.2.1 z q_W_peace.2.2.2 [26, 28, 80, 103, 105] 400 (zfind q_W_peace.2.2.2 28) [(2, 0), (0, v1), (0, v2), (0, v3)] [] μ = gI v1 12 (gI v2 12 ((C 129 [(2, 55), (0, μ 8 v1.toNat), (0, μ 17 v2.toNat), (2, 6)] μ).bind fun q1 => (bif !decide (v3 = 20) then (g_W_peace_80 E v3 q1.2) else (some (q1.2 55 1, q1.2))))) := by
    intro C E
    rfl
  exact key _ _
set_option maxRecDepth 100000 in
theorem e_W_peace_80 (z : zZ) (d : Nat) (v3 : Int) (μ : Mu) : f_W_peace_80 z d v3 μ = (mC z d 133 [(2, 55), (0, v3)] μ).bind fun q1 => (bif decide (q1.1 = 0) then (f_W_peace_103 z d q1.2) else (gI v3 16 (f_W_peace_105 z d (q1.2 56 v3.toNat) q1.2))) := by
  show mE z d q_W_peace 80 [(2, 0), (9, 0), (9, 0), (0, v3)] [] μ = _
  rw [mE_bk (M := q_W_peace) k_W_peace.1 k_W_peace.2 [26, 28, 80, 103, 105] 400]
  have key : ∀ (C : Nat → List zv → Mu → mR) (E : Nat → List zv → List zv → Mu → mR), mbk C E q_W_peace.1 q_W_peace.2.1 z q_W_peace.2.2.2 [26, 28, 80, 103, 105] 400 (zfind q_W_peace.2.2.2 80) [(2, 0), (9, 0), (9, 0), (0, v3)] [] μ = (C 133 [(2, 55), (0, v3)] μ).bind fun q1 => (bif decide (q1.1 = 0) then (g_W_peace_103 E q1.2) else (gI v3 16 (g_W_peace_105 E (q1.2 56 v3.toNat) q1.2))) := by
    intro C E
    rfl
  exact key _ _
set_option maxRecDepth 100000 in
theorem e_W_peace_103 (z : zZ) (d : Nat) (μ : Mu) : f_W_peace_103 z d μ = f_W_peace_105 z d ((-2)) μ := by
  show mE z d q_W_peace 103 [(9, 0), (9, 0), (9, 0), (9, 0)] [] μ = _
  rw [mE_bk (M := q_W_peace) k_W_peace.1 k_W_peace.2 [26, 28, 80, 103, 105] 400]
  have key : ∀ (C : Nat → List zv → Mu → mR) (E : Nat → List zv → List zv → Mu → mR), mbk C E q_W_peace.1 q_W_peace.2.1 z q_W_peace.2.2.2 [26, 28, 80, 103, 105] 400 (zfind q_W_peace.2.2.2 103) [(9, 0), (9, 0), (9, 0), (9, 0)] [] μ = g_W_peace_105 E ((-2)) μ := by
    intro C E
    rfl
  exact key _ _
set_option maxRecDepth 100000 in
theorem e_W_peace_105 (z : zZ) (d : Nat) (v100 : Int) (μ : Mu) : f_W_peace_105 z d v100 μ = some (v100, μ) := by
  show mE z d q_W_peace 105 [(9, 0), (9, 0), (9, 0), (9, 0)] [(0, v100)] μ = _
  rw [mE_bk (M := q_W_peace) k_W_peace.1 k_W_peace.2 [26, 28, 80, 103, 105] 400]
  have key : ∀ (C : Nat → List zv → Mu → mR) (E : Nat → List zv → List zv → Mu → mR), mbk C E q_W_peace.1 q_W_peace.2.1 z q_W_peace.2.2.2 [26, 28, 80, 103, 105] 400 (zfind q_W_peace.2.2.2 105) [(9, 0), (9, 0), (9, 0), (9, 0)] [(0, v100)] μ = some (v100, μ) := by
    intro C E
    rfl
  exact key _ _
