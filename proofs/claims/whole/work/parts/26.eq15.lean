def g_M_march_30 (E : Nat → List zv → List zv → Mu → mR) (μ : Mu) : mR := E 30 [(9, 0), (9, 0), (9, 0), (9, 0), (9, 0), (9, 0), (9, 0), (9, 0), (9, 0), (9, 0)] [] μ
noncomputable def f_M_march_30 (z : zZ) (d : Nat) (μ : Mu) : mR := g_M_march_30 (fun pc ls st μ => mE z d q_M_march pc ls st μ) μ
def g_M_march_33 (E : Nat → List zv → List zv → Mu → mR) (v1 : Int) (v2 : Int) (v3 : Int) (v4 : Int) (v5 : Int) (μ : Mu) : mR := E 33 [(2, 86), (0, v1), (0, v2), (0, v3), (0, v4), (0, v5), (9, 0), (9, 0), (9, 0), (9, 0)] [] μ
noncomputable def f_M_march_33 (z : zZ) (d : Nat) (v1 : Int) (v2 : Int) (v3 : Int) (v4 : Int) (v5 : Int) (μ : Mu) : mR := g_M_march_33 (fun pc ls st μ => mE z d q_M_march pc ls st μ) v1 v2 v3 v4 v5 μ
def g_M_march_63 (E : Nat → List zv → List zv → Mu → mR) (μ : Mu) : mR := E 63 [(9, 0), (9, 0), (9, 0), (9, 0), (9, 0), (9, 0), (9, 0), (9, 0), (9, 0), (9, 0)] [] μ
noncomputable def f_M_march_63 (z : zZ) (d : Nat) (μ : Mu) : mR := g_M_march_63 (fun pc ls st μ => mE z d q_M_march pc ls st μ) μ
def g_M_march_66 (E : Nat → List zv → List zv → Mu → mR) (v1 : Int) (v2 : Int) (v3 : Int) (v4 : Int) (v5 : Int) (v6 : Int) (μ : Mu) : mR := E 66 [(2, 86), (0, v1), (0, v2), (0, v3), (0, v4), (0, v5), (0, v6), (9, 0), (9, 0), (9, 0)] [] μ
noncomputable def f_M_march_66 (z : zZ) (d : Nat) (v1 : Int) (v2 : Int) (v3 : Int) (v4 : Int) (v5 : Int) (v6 : Int) (μ : Mu) : mR := g_M_march_66 (fun pc ls st μ => mE z d q_M_march pc ls st μ) v1 v2 v3 v4 v5 v6 μ
def g_M_march_78 (E : Nat → List zv → List zv → Mu → mR) (v5 : Int) (v6 : Int) (v7 : Int) (μ : Mu) : mR := E 78 [(2, 86), (9, 0), (9, 0), (9, 0), (9, 0), (0, v5), (0, v6), (0, v7), (9, 0), (9, 0)] [] μ
noncomputable def f_M_march_78 (z : zZ) (d : Nat) (v5 : Int) (v6 : Int) (v7 : Int) (μ : Mu) : mR := g_M_march_78 (fun pc ls st μ => mE z d q_M_march pc ls st μ) v5 v6 v7 μ
def g_M_march_102 (E : Nat → List zv → List zv → Mu → mR) (v5 : Int) (v6 : Int) (v7 : Int) (μ : Mu) : mR := E 102 [(2, 86), (9, 0), (9, 0), (9, 0), (9, 0), (0, v5), (0, v6), (0, v7), (9, 0), (9, 0)] [] μ
noncomputable def f_M_march_102 (z : zZ) (d : Nat) (v5 : Int) (v6 : Int) (v7 : Int) (μ : Mu) : mR := g_M_march_102 (fun pc ls st μ => mE z d q_M_march pc ls st μ) v5 v6 v7 μ
def g_M_march_130 (E : Nat → List zv → List zv → Mu → mR) (v5 : Int) (v6 : Int) (v7 : Int) (μ : Mu) : mR := E 130 [(2, 86), (9, 0), (9, 0), (9, 0), (9, 0), (0, v5), (0, v6), (0, v7), (9, 0), (9, 0)] [] μ
noncomputable def f_M_march_130 (z : zZ) (d : Nat) (v5 : Int) (v6 : Int) (v7 : Int) (μ : Mu) : mR := g_M_march_130 (fun pc ls st μ => mE z d q_M_march pc ls st μ) v5 v6 v7 μ
def g_M_march_152 (E : Nat → List zv → List zv → Mu → mR) (v5 : Int) (v6 : Int) (v7 : Int) (v8 : Int) (μ : Mu) : mR := E 152 [(2, 86), (9, 0), (9, 0), (9, 0), (9, 0), (0, v5), (0, v6), (0, v7), (0, v8), (9, 0)] [] μ
noncomputable def f_M_march_152 (z : zZ) (d : Nat) (v5 : Int) (v6 : Int) (v7 : Int) (v8 : Int) (μ : Mu) : mR := g_M_march_152 (fun pc ls st μ => mE z d q_M_march pc ls st μ) v5 v6 v7 v8 μ
def g_M_march_179 (E : Nat → List zv → List zv → Mu → mR) (v5 : Int) (v6 : Int) (v7 : Int) (v8 : Int) (v9 : Int) (μ : Mu) : mR := E 179 [(2, 86), (9, 0), (9, 0), (9, 0), (9, 0), (0, v5), (0, v6), (0, v7), (0, v8), (0, v9)] [] μ
noncomputable def f_M_march_179 (z : zZ) (d : Nat) (v5 : Int) (v6 : Int) (v7 : Int) (v8 : Int) (v9 : Int) (μ : Mu) : mR := g_M_march_179 (fun pc ls st μ => mE z d q_M_march pc ls st μ) v5 v6 v7 v8 v9 μ
def g_M_march_189 (E : Nat → List zv → List zv → Mu → mR) (v5 : Int) (v6 : Int) (v7 : Int) (v8 : Int) (v9 : Int) (μ : Mu) : mR := E 189 [(2, 86), (9, 0), (9, 0), (9, 0), (9, 0), (0, v5), (0, v6), (0, v7), (0, v8), (0, v9)] [] μ
noncomputable def f_M_march_189 (z : zZ) (d : Nat) (v5 : Int) (v6 : Int) (v7 : Int) (v8 : Int) (v9 : Int) (μ : Mu) : mR := g_M_march_189 (fun pc ls st μ => mE z d q_M_march pc ls st μ) v5 v6 v7 v8 v9 μ
theorem k_M_march : zprK q_M_march.2.2.2 = true ∧ zinc q_M_march.2.2.2 = true := by decide +kernel
set_option maxRecDepth 100000 in
theorem c_M_march (z : zZ) (d : Nat) (v1 : Int) (v2 : Int) (v3 : Int) (v4 : Int) (v5 : Int) (μ : Mu) : mC z (d + 1) 290 [(2, 86), (0, v1), (0, v2), (0, v3), (0, v4), (0, v5)] μ = (mC z d 257 [(2, 86), (0, v1), (0, v2)] μ).bind fun q1 => (bif decide (q1.1 = 0) then (f_M_march_30 z d q1.2) else ((mC z d 183 [(0, v3), (0, 0), (0, 15)] q1.2).bind fun q2 => (bif decide (q2.1 = 0) then (f_M_march_30 z d q2.2) else ((mC z d 183 [(0, v4), (0, 0), (0, 15)] q2.2).bind fun q3 => (bif !decide (q3.1 = 0) then (f_M_march_33 z d v1 v2 v3 v4 v5 q3.2) else (f_M_march_30 z d q3.2)))))) := by
  rw [mC_succ q_M_march rfl rfl rfl]
  rw [mE_bk (M := q_M_march) k_M_march.1 k_M_march.2 [30, 33, 63, 66, 78, 102, 130, 152, 179, 189] 400]
  have key : ∀ (C : Nat → List zv → Mu → mR) (E : Nat → List zv → List zv → Mu → mR), mbk C E q_M_march.1 q_M_march.2.1 z q_M_march.2.2.2 [30, 33, 63, 66, 78, 102, 130, 152, 179, 189] 400 (zfind q_M_march.2.2.2 0) (zentry q_M_march.2.2.1 [(2, 86), (0, v1), (0, v2), (0, v3), (0, v4), (0, v5)]) [] μ = (C 257 [(2, 86), (0, v1), (0, v2)] μ).bind fun q1 => (bif decide (q1.1 = 0) then (g_M_march_30 E q1.2) else ((C 183 [(0, v3), (0, 0), (0, 15)] q1.2).bind fun q2 => (bif decide (q2.1 = 0) then (g_M_march_30 E q2.2) else ((C 183 [(0, v4), (0, 0), (0, 15)] q2.2).bind fun q3 => (bif !decide (q3.1 = 0) then (g_M_march_33 E v1 v2 v3 v4 v5 q3.2) else (g_M_march_30 E q3.2)))))) := by
    intro C E
    rfl
  exact key _ _
set_option maxRecDepth 100000 in
theorem e_M_march_30 (z : zZ) (d : Nat) (μ : Mu) : f_M_march_30 z d μ = some ((-3), μ) := by
  show mE z d q_M_march 30 [(9, 0), (9, 0), (9, 0), (9, 0), (9, 0), (9, 0), (9, 0), (9, 0), (9, 0), (9, 0)] [] μ = _
  rw [mE_bk (M := q_M_march) k_M_march.1 k_M_march.2 [30, 33, 63, 66, 78, 102, 130, 152, 179, 189] 400]
  have key : ∀ (C : Nat → List zv → Mu → mR) (E : Nat → List zv → List zv → Mu → mR), mbk C E q_M_march.1 q_M_march.2.1 z q_M_march.2.2.2 [30, 33, 63, 66, 78, 102, 130, 152, 179, 189] 400 (zfind q_M_march.2.2.2 30) [(9, 0), (9, 0), (9, 0), (9, 0), (9, 0), (9, 0), (9, 0), (9, 0), (9, 0), (9, 0)] [] μ = some ((-3), μ) := by
    intro C E
    rfl
  exact key _ _
set_option maxRecDepth 100000 in
theorem e_M_march_33 (z : zZ) (d : Nat) (v1 : Int) (v2 : Int) (v3 : Int) (v4 : Int) (v5 : Int) (μ : Mu) : f_M_march_33 z d v1 v2 v3 v4 v5 μ = (mC z d 202 [(2, 86), (0, v1), (0, v2)] μ).bind fun q1 => (bif decide (16 < zw (v3 + q1.1)) then (f_M_march_63 z d q1.2) else ((mC z d 183 [(0, v5), (0, (-1)), (0, zw (q1.1 - 1))] q1.2).bind fun q2 => (bif !decide (q2.1 = 0) then (f_M_march_66 z d v1 v2 v3 v4 v5 q1.1 q2.2) else (f_M_march_63 z d q2.2)))) := by
  show mE z d q_M_march 33 [(2, 86), (0, v1), (0, v2), (0, v3), (0, v4), (0, v5), (9, 0), (9, 0), (9, 0), (9, 0)] [] μ = _
  rw [mE_bk (M := q_M_march) k_M_march.1 k_M_march.2 [30, 33, 63, 66, 78, 102, 130, 152, 179, 189] 400]
  have key : ∀ (C : Nat → List zv → Mu → mR) (E : Nat → List zv → List zv → Mu → mR), mbk C E q_M_march.1 q_M_march.2.1 z q_M_march.2.2.2 [30, 33, 63, 66, 78, 102, 130, 152, 179, 189] 400 (zfind q_M_march.2.2.2 33) [(2, 86), (0, v1), (0, v2), (0, v3), (0, v4), (0, v5), (9, 0), (9, 0), (9, 0), (9, 0)] [] μ = (C 202 [(2, 86), (0, v1), (0, v2)] μ).bind fun q1 => (bif decide (16 < zw (v3 + q1.1)) then (g_M_march_63 E q1.2) else ((C 183 [(0, v5), (0, (-1)), (0, zw (q1.1 - 1))] q1.2).bind fun q2 => (bif !decide (q2.1 = 0) then (g_M_march_66 E v1 v2 v3 v4 v5 q1.1 q2.2) else (g_M_march_63 E q2.2)))) := by
    intro C E
    rfl
  exact key _ _
set_option maxRecDepth 100000 in
theorem e_M_march_63 (z : zZ) (d : Nat) (μ : Mu) : f_M_march_63 z d μ = some ((-3), μ) := by
  show mE z d q_M_march 63 [(9, 0), (9, 0), (9, 0), (9, 0), (9, 0), (9, 0), (9, 0), (9, 0), (9, 0), (9, 0)] [] μ = _
  rw [mE_bk (M := q_M_march) k_M_march.1 k_M_march.2 [30, 33, 63, 66, 78, 102, 130, 152, 179, 189] 400]
  have key : ∀ (C : Nat → List zv → Mu → mR) (E : Nat → List zv → List zv → Mu → mR), mbk C E q_M_march.1 q_M_march.2.1 z q_M_march.2.2.2 [30, 33, 63, 66, 78, 102, 130, 152, 179, 189] 400 (zfind q_M_march.2.2.2 63) [(9, 0), (9, 0), (9, 0), (9, 0), (9, 0), (9, 0), (9, 0), (9, 0), (9, 0), (9, 0)] [] μ = some ((-3), μ) := by
    intro C E
    rfl
  exact key _ _
set_option maxRecDepth 100000 in
theorem e_M_march_66 (z : zZ) (d : Nat) (v1 : Int) (v2 : Int) (v3 : Int) (v4 : Int) (v5 : Int) (v6 : Int) (μ : Mu) : f_M_march_66 z d v1 v2 v3 v4 v5 v6 μ = (mC z d 291 [(2, 86), (0, v1), (0, v2), (0, v3), (0, v4)] μ).bind fun q1 => (f_M_march_78 z d v5 v6 0 q1.2) := by
  show mE z d q_M_march 66 [(2, 86), (0, v1), (0, v2), (0, v3), (0, v4), (0, v5), (0, v6), (9, 0), (9, 0), (9, 0)] [] μ = _
  rw [mE_bk (M := q_M_march) k_M_march.1 k_M_march.2 [30, 33, 63, 66, 78, 102, 130, 152, 179, 189] 400]
  have key : ∀ (C : Nat → List zv → Mu → mR) (E : Nat → List zv → List zv → Mu → mR), mbk C E q_M_march.1 q_M_march.2.1 z q_M_march.2.2.2 [30, 33, 63, 66, 78, 102, 130, 152, 179, 189] 400 (zfind q_M_march.2.2.2 66) [(2, 86), (0, v1), (0, v2), (0, v3), (0, v4), (0, v5), (0, v6), (9, 0), (9, 0), (9, 0)] [] μ = (C 291 [(2, 86), (0, v1), (0, v2), (0, v3), (0, v4)] μ).bind fun q1 => (g_M_march_78 E v5 v6 0 q1.2) := by
    intro C E
    rfl
  exact key _ _
set_option maxRecDepth 100000 in
theorem e_M_march_78 (z : zZ) (d : Nat) (v5 : Int) (v6 : Int) (v7 : Int) (μ : Mu) : f_M_march_78 z d v5 v6 v7 μ = bif decide (24 ≤ v7) then (f_M_march_102 z d v5 v6 0 μ) else (gI v7 24 (f_M_march_78 z d v5 v6 (zw (v7 + 1)) (zup μ 137 v7.toNat ((-1))))) := by
  show mE z d q_M_march 78 [(2, 86), (9, 0), (9, 0), (9, 0), (9, 0), (0, v5), (0, v6), (0, v7), (9, 0), (9, 0)] [] μ = _
  rw [mE_bk (M := q_M_march) k_M_march.1 k_M_march.2 [30, 33, 63, 66, 78, 102, 130, 152, 179, 189] 400]
  have key : ∀ (C : Nat → List zv → Mu → mR) (E : Nat → List zv → List zv → Mu → mR), mbk C E q_M_march.1 q_M_march.2.1 z q_M_march.2.2.2 [30, 33, 63, 66, 78, 102, 130, 152, 179, 189] 400 (zfind q_M_march.2.2.2 78) [(2, 86), (9, 0), (9, 0), (9, 0), (9, 0), (0, v5), (0, v6), (0, v7), (9, 0), (9, 0)] [] μ = bif decide (24 ≤ v7) then (g_M_march_102 E v5 v6 0 μ) else (gI v7 24 (g_M_march_78 E v5 v6 (zw (v7 + 1)) (zup μ 137 v7.toNat ((-1))))) := by
    intro C E
    rfl
  exact key _ _
set_option maxRecDepth 100000 in
theorem e_M_march_102 (z : zZ) (d : Nat) (v5 : Int) (v6 : Int) (v7 : Int) (μ : Mu) : f_M_march_102 z d v5 v6 v7 μ = bif decide (30 < v7) then (f_M_march_130 z d v5 v6 v7 μ) else ((mC z d 293 [(2, 86), (0, v6), (0, v7), (0, 0)] μ).bind fun q1 => (bif !decide (q1.1 = 0) then (f_M_march_130 z d v5 v6 v7 q1.2) else (f_M_march_102 z d v5 v6 (zw (v7 + 1)) q1.2))) := by
  show mE z d q_M_march 102 [(2, 86), (9, 0), (9, 0), (9, 0), (9, 0), (0, v5), (0, v6), (0, v7), (9, 0), (9, 0)] [] μ = _
  rw [mE_bk (M := q_M_march) k_M_march.1 k_M_march.2 [30, 33, 63, 66, 78, 102, 130, 152, 179, 189] 400]
  have key : ∀ (C : Nat → List zv → Mu → mR) (E : Nat → List zv → List zv → Mu → mR), mbk C E q_M_march.1 q_M_march.2.1 z q_M_march.2.2.2 [30, 33, 63, 66, 78, 102, 130, 152, 179, 189] 400 (zfind q_M_march.2.2.2 102) [(2, 86), (9, 0), (9, 0), (9, 0), (9, 0), (0, v5), (0, v6), (0, v7), (9, 0), (9, 0)] [] μ = bif decide (30 < v7) then (g_M_march_130 E v5 v6 v7 μ) else ((C 293 [(2, 86), (0, v6), (0, v7), (0, 0)] μ).bind fun q1 => (bif !decide (q1.1 = 0) then (g_M_march_130 E v5 v6 v7 q1.2) else (g_M_march_102 E v5 v6 (zw (v7 + 1)) q1.2))) := by
    intro C E
    rfl
  exact key _ _
set_option maxRecDepth 100000 in
theorem e_M_march_130 (z : zZ) (d : Nat) (v5 : Int) (v6 : Int) (v7 : Int) (μ : Mu) : f_M_march_130 z d v5 v6 v7 μ = bif decide (v7 ≤ 30) then (bif !decide (v5 = (-1)) then (f_M_march_152 z d v5 v6 v7 0 μ) else (some (v7, μ))) else (some ((-2), μ)) := by
  show mE z d q_M_march 130 [(2, 86), (9, 0), (9, 0), (9, 0), (9, 0), (0, v5), (0, v6), (0, v7), (9, 0), (9, 0)] [] μ = _
  rw [mE_bk (M := q_M_march) k_M_march.1 k_M_march.2 [30, 33, 63, 66, 78, 102, 130, 152, 179, 189] 400]
  have key : ∀ (C : Nat → List zv → Mu → mR) (E : Nat → List zv → List zv → Mu → mR), mbk C E q_M_march.1 q_M_march.2.1 z q_M_march.2.2.2 [30, 33, 63, 66, 78, 102, 130, 152, 179, 189] 400 (zfind q_M_march.2.2.2 130) [(2, 86), (9, 0), (9, 0), (9, 0), (9, 0), (0, v5), (0, v6), (0, v7), (9, 0), (9, 0)] [] μ = bif decide (v7 ≤ 30) then (bif !decide (v5 = (-1)) then (g_M_march_152 E v5 v6 v7 0 μ) else (some (v7, μ))) else (some ((-2), μ)) := by
    intro C E
    rfl
  exact key _ _
set_option maxRecDepth 100000 in
theorem e_M_march_152 (z : zZ) (d : Nat) (v5 : Int) (v6 : Int) (v7 : Int) (v8 : Int) (μ : Mu) : f_M_march_152 z d v5 v6 v7 v8 μ = bif decide (24 ≤ v8) then (f_M_march_179 z d v5 v6 v7 ((-1)) 0 μ) else (gI v8 24 (f_M_march_152 z d v5 v6 v7 (zw (v8 + 1)) (zup μ 137 v8.toNat ((-1))))) := by
  show mE z d q_M_march 152 [(2, 86), (9, 0), (9, 0), (9, 0), (9, 0), (0, v5), (0, v6), (0, v7), (0, v8), (9, 0)] [] μ = _
  rw [mE_bk (M := q_M_march) k_M_march.1 k_M_march.2 [30, 33, 63, 66, 78, 102, 130, 152, 179, 189] 400]
  have key : ∀ (C : Nat → List zv → Mu → mR) (E : Nat → List zv → List zv → Mu → mR), mbk C E q_M_march.1 q_M_march.2.1 z q_M_march.2.2.2 [30, 33, 63, 66, 78, 102, 130, 152, 179, 189] 400 (zfind q_M_march.2.2.2 152) [(2, 86), (9, 0), (9, 0), (9, 0), (9, 0), (0, v5), (0, v6), (0, v7), (0, v8), (9, 0)] [] μ = bif decide (24 ≤ v8) then (g_M_march_179 E v5 v6 v7 ((-1)) 0 μ) else (gI v8 24 (g_M_march_152 E v5 v6 v7 (zw (v8 + 1)) (zup μ 137 v8.toNat ((-1))))) := by
    intro C E
    rfl
  exact key _ _
set_option maxRecDepth 100000 in
theorem e_M_march_179 (z : zZ) (d : Nat) (v5 : Int) (v6 : Int) (v7 : Int) (v8 : Int) (v9 : Int) (μ : Mu) : f_M_march_179 z d v5 v6 v7 v8 v9 μ = bif decide (v5 < v9) then (some (v8, μ)) else (f_M_march_189 z d v5 v6 v7 0 v9 μ) := by
  show mE z d q_M_march 179 [(2, 86), (9, 0), (9, 0), (9, 0), (9, 0), (0, v5), (0, v6), (0, v7), (0, v8), (0, v9)] [] μ = _
  rw [mE_bk (M := q_M_march) k_M_march.1 k_M_march.2 [30, 33, 63, 66, 78, 102, 130, 152, 179, 189] 400]
  have key : ∀ (C : Nat → List zv → Mu → mR) (E : Nat → List zv → List zv → Mu → mR), mbk C E q_M_march.1 q_M_march.2.1 z q_M_march.2.2.2 [30, 33, 63, 66, 78, 102, 130, 152, 179, 189] 400 (zfind q_M_march.2.2.2 179) [(2, 86), (9, 0), (9, 0), (9, 0), (9, 0), (0, v5), (0, v6), (0, v7), (0, v8), (0, v9)] [] μ = bif decide (v5 < v9) then (some (v8, μ)) else (g_M_march_189 E v5 v6 v7 0 v9 μ) := by
    intro C E
    rfl
  exact key _ _
set_option maxRecDepth 100000 in
theorem e_M_march_189 (z : zZ) (d : Nat) (v5 : Int) (v6 : Int) (v7 : Int) (v8 : Int) (v9 : Int) (μ : Mu) : f_M_march_189 z d v5 v6 v7 v8 v9 μ = (mC z d 296 [(2, 86), (0, v6), (0, v7), (0, v9), (0, v8)] μ).bind fun q1 => (bif !decide (q1.1 = 0) then (f_M_march_179 z d v5 v6 v7 v8 (zw (v9 + 1)) q1.2) else (f_M_march_189 z d v5 v6 v7 (zw (v8 + 1)) v9 q1.2)) := by
  show mE z d q_M_march 189 [(2, 86), (9, 0), (9, 0), (9, 0), (9, 0), (0, v5), (0, v6), (0, v7), (0, v8), (0, v9)] [] μ = _
  rw [mE_bk (M := q_M_march) k_M_march.1 k_M_march.2 [30, 33, 63, 66, 78, 102, 130, 152, 179, 189] 400]
  have key : ∀ (C : Nat → List zv → Mu → mR) (E : Nat → List zv → List zv → Mu → mR), mbk C E q_M_march.1 q_M_march.2.1 z q_M_march.2.2.2 [30, 33, 63, 66, 78, 102, 130, 152, 179, 189] 400 (zfind q_M_march.2.2.2 189) [(2, 86), (9, 0), (9, 0), (9, 0), (9, 0), (0, v5), (0, v6), (0, v7), (0, v8), (0, v9)] [] μ = (C 296 [(2, 86), (0, v6), (0, v7), (0, v9), (0, v8)] μ).bind fun q1 => (bif !decide (q1.1 = 0) then (g_M_march_179 E v5 v6 v7 v8 (zw (v9 + 1)) q1.2) else (g_M_march_189 E v5 v6 v7 (zw (v8 + 1)) v9 q1.2)) := by
    intro C E
    rfl
  exact key _ _
def g_M_laysHours_3 (E : Nat → List zv → List zv → Mu → mR) (v1 : Int) (v2 : Int) (v3 : Int) (v4 : Int) (v5 : Int) (μ : Mu) : mR := E 3 [(2, 86), (0, v1), (0, v2), (0, v3), (0, v4), (0, v5), (9, 0), (9, 0)] [] μ
noncomputable def f_M_laysHours_3 (z : zZ) (d : Nat) (v1 : Int) (v2 : Int) (v3 : Int) (v4 : Int) (v5 : Int) (μ : Mu) : mR := g_M_laysHours_3 (fun pc ls st μ => mE z d q_M_laysHours pc ls st μ) v1 v2 v3 v4 v5 μ
def g_M_laysHours_17 (E : Nat → List zv → List zv → Mu → mR) (v1 : Int) (v2 : Int) (v3 : Int) (v4 : Int) (v5 : Int) (v6 : Int) (μ : Mu) : mR := E 17 [(2, 86), (0, v1), (0, v2), (0, v3), (0, v4), (0, v5), (0, v6), (9, 0)] [] μ
noncomputable def f_M_laysHours_17 (z : zZ) (d : Nat) (v1 : Int) (v2 : Int) (v3 : Int) (v4 : Int) (v5 : Int) (v6 : Int) (μ : Mu) : mR := g_M_laysHours_17 (fun pc ls st μ => mE z d q_M_laysHours pc ls st μ) v1 v2 v3 v4 v5 v6 μ
def g_M_laysHours_113 (E : Nat → List zv → List zv → Mu → mR) (v1 : Int) (v2 : Int) (v3 : Int) (v4 : Int) (v5 : Int) (v6 : Int) (v101 : Int) (μ : Mu) : mR := E 113 [(2, 86), (0, v1), (0, v2), (0, v3), (0, v4), (0, v5), (0, v6), (9, 0)] [(0, v101), (2, 136)] μ
noncomputable def f_M_laysHours_113 (z : zZ) (d : Nat) (v1 : Int) (v2 : Int) (v3 : Int) (v4 : Int) (v5 : Int) (v6 : Int) (v101 : Int) (μ : Mu) : mR := g_M_laysHours_113 (fun pc ls st μ => mE z d q_M_laysHours pc ls st μ) v1 v2 v3 v4 v5 v6 v101 μ
def g_M_laysHours_116 (E : Nat → List zv → List zv → Mu → mR) (v1 : Int) (v2 : Int) (v3 : Int) (v4 : Int) (v5 : Int) (v6 : Int) (v101 : Int) (v102 : Int) (μ : Mu) : mR := E 116 [(2, 86), (0, v1), (0, v2), (0, v3), (0, v4), (0, v5), (0, v6), (9, 0)] [(0, v102), (0, v101), (2, 136)] μ
noncomputable def f_M_laysHours_116 (z : zZ) (d : Nat) (v1 : Int) (v2 : Int) (v3 : Int) (v4 : Int) (v5 : Int) (v6 : Int) (v101 : Int) (v102 : Int) (μ : Mu) : mR := g_M_laysHours_116 (fun pc ls st μ => mE z d q_M_laysHours pc ls st μ) v1 v2 v3 v4 v5 v6 v101 v102 μ
theorem k_M_laysHours : zprK q_M_laysHours.2.2.2 = true ∧ zinc q_M_laysHours.2.2.2 = true := by decide +kernel
set_option maxRecDepth 100000 in
theorem c_M_laysHours (z : zZ) (d : Nat) (v1 : Int) (v2 : Int) (v3 : Int) (v4 : Int) (μ : Mu) : mC z (d + 1) 291 [(2, 86), (0, v1), (0, v2), (0, v3), (0, v4)] μ = f_M_laysHours_3 z d v1 v2 v3 v4 0 μ := by
  rw [mC_succ q_M_laysHours rfl rfl rfl]
  rw [mE_bk (M := q_M_laysHours) k_M_laysHours.1 k_M_laysHours.2 [3, 17, 113, 116] 400]
  have key : ∀ (C : Nat → List zv → Mu → mR) (E : Nat → List zv → List zv → Mu → mR), mbk C E q_M_laysHours.1 q_M_laysHours.2.1 z q_M_laysHours.2.2.2 [3, 17, 113, 116] 400 (zfind q_M_laysHours.2.2.2 0) (zentry q_M_laysHours.2.2.1 [(2, 86), (0, v1), (0, v2), (0, v3), (0, v4)]) [] μ = g_M_laysHours_3 E v1 v2 v3 v4 0 μ := by
    intro C E
    rfl
  exact key _ _
set_option maxRecDepth 100000 in
theorem e_M_laysHours_3 (z : zZ) (d : Nat) (v1 : Int) (v2 : Int) (v3 : Int) (v4 : Int) (v5 : Int) (μ : Mu) : f_M_laysHours_3 z d v1 v2 v3 v4 v5 μ = (mC z d 202 [(2, 86), (0, v1), (0, v2)] μ).bind fun q1 => (bif decide (q1.1 ≤ v5) then (some (0, q1.2)) else (f_M_laysHours_17 z d v1 v2 v3 v4 v5 0 q1.2)) := by
  show mE z d q_M_laysHours 3 [(2, 86), (0, v1), (0, v2), (0, v3), (0, v4), (0, v5), (9, 0), (9, 0)] [] μ = _
  rw [mE_bk (M := q_M_laysHours) k_M_laysHours.1 k_M_laysHours.2 [3, 17, 113, 116] 400]
  have key : ∀ (C : Nat → List zv → Mu → mR) (E : Nat → List zv → List zv → Mu → mR), mbk C E q_M_laysHours.1 q_M_laysHours.2.1 z q_M_laysHours.2.2.2 [3, 17, 113, 116] 400 (zfind q_M_laysHours.2.2.2 3) [(2, 86), (0, v1), (0, v2), (0, v3), (0, v4), (0, v5), (9, 0), (9, 0)] [] μ = (C 202 [(2, 86), (0, v1), (0, v2)] μ).bind fun q1 => (bif decide (q1.1 ≤ v5) then (some (0, q1.2)) else (g_M_laysHours_17 E v1 v2 v3 v4 v5 0 q1.2)) := by
    intro C E
    rfl
  exact key _ _
set_option maxRecDepth 100000 in
theorem e_M_laysHours_17 (z : zZ) (d : Nat) (v1 : Int) (v2 : Int) (v3 : Int) (v4 : Int) (v5 : Int) (v6 : Int) (μ : Mu) : f_M_laysHours_17 z d v1 v2 v3 v4 v5 v6 μ = bif decide (24 ≤ v6) then (f_M_laysHours_3 z d v1 v2 v3 v4 (zw (v5 + 1)) μ) else (gI v6 24 ((mC z d 292 [(0, zw ((zw ((μ 133 v6.toNat) - v3)) - v5))] μ).bind fun q1 => (gI v6 24 ((mC z d 292 [(0, zw ((q1.2 134 v6.toNat) - v4))] q1.2).bind fun q2 => (gI v6 24 ((mC z d 201 [(0, v1), (0, v2)] q2.2).bind fun q3 => (gI (zw (q3.1 + v5)) 192 (bif !decide (q2.2 132 v6.toNat = q3.2 94 ((zw (q3.1 + v5)).toNat)) then (f_M_laysHours_113 z d v1 v2 v3 v4 v5 v6 (zw ((zw (24 * v5)) + v6)) q3.2) else (gI v6 24 (gI v6 24 (gN (q3.2 135 v6.toNat) (f_M_laysHours_116 z d v1 v2 v3 v4 v5 v6 (zw ((zw (24 * v5)) + v6)) (z_div (zw ((zw ((zw (q1.1 + q2.1)) + (q3.2 135 v6.toNat))) - 1)) (q3.2 135 v6.toNat)) q3.2)))))))))))) := by
  show mE z d q_M_laysHours 17 [(2, 86), (0, v1), (0, v2), (0, v3), (0, v4), (0, v5), (0, v6), (9, 0)] [] μ = _
  rw [mE_bk (M := q_M_laysHours) k_M_laysHours.1 k_M_laysHours.2 [3, 17, 113, 116] 400]
  have key : ∀ (C : Nat → List zv → Mu → mR) (E : Nat → List zv → List zv → Mu → mR), mbk C E q_M_laysHours.1 q_M_laysHours.2.1 z q_M_laysHours.2.2.2 [3, 17, 113, 116] 400 (zfind q_M_laysHours.2.2.2 17) [(2, 86), (0, v1), (0, v2), (0, v3), (0, v4), (0, v5), (0, v6), (9, 0)] [] μ = bif decide (24 ≤ v6) then (g_M_laysHours_3 E v1 v2 v3 v4 (zw (v5 + 1)) μ) else (gI v6 24 ((C 292 [(0, zw ((zw ((μ 133 v6.toNat) - v3)) - v5))] μ).bind fun q1 => (gI v6 24 ((C 292 [(0, zw ((q1.2 134 v6.toNat) - v4))] q1.2).bind fun q2 => (gI v6 24 ((C 201 [(0, v1), (0, v2)] q2.2).bind fun q3 => (gI (zw (q3.1 + v5)) 192 (bif !decide (q2.2 132 v6.toNat = q3.2 94 ((zw (q3.1 + v5)).toNat)) then (g_M_laysHours_113 E v1 v2 v3 v4 v5 v6 (zw ((zw (24 * v5)) + v6)) q3.2) else (gI v6 24 (gI v6 24 (gN (q3.2 135 v6.toNat) (g_M_laysHours_116 E v1 v2 v3 v4 v5 v6 (zw ((zw (24 * v5)) + v6)) (z_div (zw ((zw ((zw (q1.1 + q2.1)) + (q3.2 135 v6.toNat))) - 1)) (q3.2 135 v6.toNat)) q3.2)))))))))))) := by
    intro C E
    rfl
  exact key _ _
set_option maxRecDepth 100000 in
theorem e_M_laysHours_113 (z : zZ) (d : Nat) (v1 : Int) (v2 : Int) (v3 : Int) (v4 : Int) (v5 : Int) (v6 : Int) (v101 : Int) (μ : Mu) : f_M_laysHours_113 z d v1 v2 v3 v4 v5 v6 v101 μ = f_M_laysHours_116 z d v1 v2 v3 v4 v5 v6 v101 1000000000 μ := by
  show mE z d q_M_laysHours 113 [(2, 86), (0, v1), (0, v2), (0, v3), (0, v4), (0, v5), (0, v6), (9, 0)] [(0, v101), (2, 136)] μ = _
  rw [mE_bk (M := q_M_laysHours) k_M_laysHours.1 k_M_laysHours.2 [3, 17, 113, 116] 400]
  have key : ∀ (C : Nat → List zv → Mu → mR) (E : Nat → List zv → List zv → Mu → mR), mbk C E q_M_laysHours.1 q_M_laysHours.2.1 z q_M_laysHours.2.2.2 [3, 17, 113, 116] 400 (zfind q_M_laysHours.2.2.2 113) [(2, 86), (0, v1), (0, v2), (0, v3), (0, v4), (0, v5), (0, v6), (9, 0)] [(0, v101), (2, 136)] μ = g_M_laysHours_116 E v1 v2 v3 v4 v5 v6 v101 1000000000 μ := by
    intro C E
    rfl
  exact key _ _
set_option maxRecDepth 100000 in
theorem e_M_laysHours_116 (z : zZ) (d : Nat) (v1 : Int) (v2 : Int) (v3 : Int) (v4 : Int) (v5 : Int) (v6 : Int) (v101 : Int) (v102 : Int) (μ : Mu) : f_M_laysHours_116 z d v1 v2 v3 v4 v5 v6 v101 v102 μ = gI v101 192 (f_M_laysHours_17 z d v1 v2 v3 v4 v5 (zw (v6 + 1)) (zup μ 136 v101.toNat v102)) := by
  show mE z d q_M_laysHours 116 [(2, 86), (0, v1), (0, v2), (0, v3), (0, v4), (0, v5), (0, v6), (9, 0)] [(0, v102), (0, v101), (2, 136)] μ = _
  rw [mE_bk (M := q_M_laysHours) k_M_laysHours.1 k_M_laysHours.2 [3, 17, 113, 116] 400]
  have key : ∀ (C : Nat → List zv → Mu → mR) (E : Nat → List zv → List zv → Mu → mR), mbk C E q_M_laysHours.1 q_M_laysHours.2.1 z q_M_laysHours.2.2.2 [3, 17, 113, 116] 400 (zfind q_M_laysHours.2.2.2 116) [(2, 86), (0, v1), (0, v2), (0, v3), (0, v4), (0, v5), (0, v6), (9, 0)] [(0, v102), (0, v101), (2, 136)] μ = gI v101 192 (g_M_laysHours_17 E v1 v2 v3 v4 v5 (zw (v6 + 1)) (zup μ 136 v101.toNat v102)) := by
    intro C E
    rfl
  exact key _ _
def g_M_size_10 (E : Nat → List zv → List zv → Mu → mR) (v100 : Int) (μ : Mu) : mR := E 10 [(9, 0)] [(0, v100)] μ
noncomputable def f_M_size_10 (z : zZ) (d : Nat) (v100 : Int) (μ : Mu) : mR := g_M_size_10 (fun pc ls st μ => mE z d q_M_size pc ls st μ) v100 μ
theorem k_M_size : zprK q_M_size.2.2.2 = true ∧ zinc q_M_size.2.2.2 = true := by decide +kernel
set_option maxRecDepth 100000 in
theorem c_M_size (z : zZ) (d : Nat) (v0 : Int) (μ : Mu) : mC z (d + 1) 292 [(0, v0)] μ = bif decide (0 ≤ v0) then (f_M_size_10 z d v0 μ) else (f_M_size_10 z d (zw (-v0)) μ) := by
  rw [mC_succ q_M_size rfl rfl rfl]
  rw [mE_bk (M := q_M_size) k_M_size.1 k_M_size.2 [10] 400]
  have key : ∀ (C : Nat → List zv → Mu → mR) (E : Nat → List zv → List zv → Mu → mR), mbk C E q_M_size.1 q_M_size.2.1 z q_M_size.2.2.2 [10] 400 (zfind q_M_size.2.2.2 0) (zentry q_M_size.2.2.1 [(0, v0)]) [] μ = bif decide (0 ≤ v0) then (g_M_size_10 E v0 μ) else (g_M_size_10 E (zw (-v0)) μ) := by
    intro C E
    rfl
  exact key _ _
set_option maxRecDepth 100000 in
theorem e_M_size_10 (z : zZ) (d : Nat) (v100 : Int) (μ : Mu) : f_M_size_10 z d v100 μ = some (v100, μ) := by
  show mE z d q_M_size 10 [(9, 0)] [(0, v100)] μ = _
  rw [mE_bk (M := q_M_size) k_M_size.1 k_M_size.2 [10] 400]
  have key : ∀ (C : Nat → List zv → Mu → mR) (E : Nat → List zv → List zv → Mu → mR), mbk C E q_M_size.1 q_M_size.2.1 z q_M_size.2.2.2 [10] 400 (zfind q_M_size.2.2.2 10) [(9, 0)] [(0, v100)] μ = some (v100, μ) := by
    intro C E
    rfl
  exact key _ _
def g_M_canMarch_3 (E : Nat → List zv → List zv → Mu → mR) (v1 : Int) (v2 : Int) (v3 : Int) (v4 : Int) (μ : Mu) : mR := E 3 [(2, 86), (0, v1), (0, v2), (0, v3), (0, v4)] [] μ
noncomputable def f_M_canMarch_3 (z : zZ) (d : Nat) (v1 : Int) (v2 : Int) (v3 : Int) (v4 : Int) (μ : Mu) : mR := g_M_canMarch_3 (fun pc ls st μ => mE z d q_M_canMarch pc ls st μ) v1 v2 v3 v4 μ
def g_M_canMarch_29 (E : Nat → List zv → List zv → Mu → mR) (v1 : Int) (v2 : Int) (v3 : Int) (v4 : Int) (μ : Mu) : mR := E 29 [(2, 86), (0, v1), (0, v2), (0, v3), (0, v4)] [] μ
noncomputable def f_M_canMarch_29 (z : zZ) (d : Nat) (v1 : Int) (v2 : Int) (v3 : Int) (v4 : Int) (μ : Mu) : mR := g_M_canMarch_29 (fun pc ls st μ => mE z d q_M_canMarch pc ls st μ) v1 v2 v3 v4 μ
def g_M_canMarch_38 (E : Nat → List zv → List zv → Mu → mR) (v1 : Int) (v2 : Int) (v3 : Int) (v4 : Int) (μ : Mu) : mR := E 38 [(2, 86), (0, v1), (0, v2), (0, v3), (0, v4)] [] μ
noncomputable def f_M_canMarch_38 (z : zZ) (d : Nat) (v1 : Int) (v2 : Int) (v3 : Int) (v4 : Int) (μ : Mu) : mR := g_M_canMarch_38 (fun pc ls st μ => mE z d q_M_canMarch pc ls st μ) v1 v2 v3 v4 μ
theorem k_M_canMarch : zprK q_M_canMarch.2.2.2 = true ∧ zinc q_M_canMarch.2.2.2 = true := by decide +kernel
set_option maxRecDepth 100000 in
theorem c_M_canMarch (z : zZ) (d : Nat) (v1 : Int) (v2 : Int) (v3 : Int) (μ : Mu) : mC z (d + 1) 293 [(2, 86), (0, v1), (0, v2), (0, v3)] μ = f_M_canMarch_3 z d v1 v2 v3 0 μ := by
  rw [mC_succ q_M_canMarch rfl rfl rfl]
  rw [mE_bk (M := q_M_canMarch) k_M_canMarch.1 k_M_canMarch.2 [3, 29, 38] 400]
  have key : ∀ (C : Nat → List zv → Mu → mR) (E : Nat → List zv → List zv → Mu → mR), mbk C E q_M_canMarch.1 q_M_canMarch.2.1 z q_M_canMarch.2.2.2 [3, 29, 38] 400 (zfind q_M_canMarch.2.2.2 0) (zentry q_M_canMarch.2.2.1 [(2, 86), (0, v1), (0, v2), (0, v3)]) [] μ = g_M_canMarch_3 E v1 v2 v3 0 μ := by
    intro C E
    rfl
  exact key _ _
set_option maxRecDepth 100000 in
theorem e_M_canMarch_3 (z : zZ) (d : Nat) (v1 : Int) (v2 : Int) (v3 : Int) (v4 : Int) (μ : Mu) : f_M_canMarch_3 z d v1 v2 v3 v4 μ = bif decide (24 ≤ v4) then (f_M_canMarch_38 z d v1 v2 v3 v3 μ) else (gI v4 24 (bif decide (μ 137 v4.toNat < v3) then (f_M_canMarch_29 z d v1 v2 v3 v4 μ) else (gI v4 24 (f_M_canMarch_29 z d v1 v2 v3 v4 (zup μ 137 v4.toNat ((-1))))))) := by
  show mE z d q_M_canMarch 3 [(2, 86), (0, v1), (0, v2), (0, v3), (0, v4)] [] μ = _
  rw [mE_bk (M := q_M_canMarch) k_M_canMarch.1 k_M_canMarch.2 [3, 29, 38] 400]
  have key : ∀ (C : Nat → List zv → Mu → mR) (E : Nat → List zv → List zv → Mu → mR), mbk C E q_M_canMarch.1 q_M_canMarch.2.1 z q_M_canMarch.2.2.2 [3, 29, 38] 400 (zfind q_M_canMarch.2.2.2 3) [(2, 86), (0, v1), (0, v2), (0, v3), (0, v4)] [] μ = bif decide (24 ≤ v4) then (g_M_canMarch_38 E v1 v2 v3 v3 μ) else (gI v4 24 (bif decide (μ 137 v4.toNat < v3) then (g_M_canMarch_29 E v1 v2 v3 v4 μ) else (gI v4 24 (g_M_canMarch_29 E v1 v2 v3 v4 (zup μ 137 v4.toNat ((-1))))))) := by
    intro C E
    rfl
  exact key _ _
set_option maxRecDepth 100000 in
theorem e_M_canMarch_38 (z : zZ) (d : Nat) (v1 : Int) (v2 : Int) (v3 : Int) (v4 : Int) (μ : Mu) : f_M_canMarch_38 z d v1 v2 v3 v4 μ = bif decide (v1 ≤ v4) then (some (1, μ)) else ((mC z d 294 [(2, 86), (0, v4), (0, v2), (0, v3)] μ).bind fun q1 => (bif !decide (q1.1 = 0) then (f_M_canMarch_38 z d v1 v2 v3 (zw (v4 + 1)) q1.2) else (some (0, q1.2)))) := by
  show mE z d q_M_canMarch 38 [(2, 86), (0, v1), (0, v2), (0, v3), (0, v4)] [] μ = _
  rw [mE_bk (M := q_M_canMarch) k_M_canMarch.1 k_M_canMarch.2 [3, 29, 38] 400]
  have key : ∀ (C : Nat → List zv → Mu → mR) (E : Nat → List zv → List zv → Mu → mR), mbk C E q_M_canMarch.1 q_M_canMarch.2.1 z q_M_canMarch.2.2.2 [3, 29, 38] 400 (zfind q_M_canMarch.2.2.2 38) [(2, 86), (0, v1), (0, v2), (0, v3), (0, v4)] [] μ = bif decide (v1 ≤ v4) then (some (1, μ)) else ((C 294 [(2, 86), (0, v4), (0, v2), (0, v3)] μ).bind fun q1 => (bif !decide (q1.1 = 0) then (g_M_canMarch_38 E v1 v2 v3 (zw (v4 + 1)) q1.2) else (some (0, q1.2)))) := by
    intro C E
    rfl
  exact key _ _
set_option maxRecDepth 100000 in
theorem e_M_canMarch_29 (z : zZ) (d : Nat) (v1 : Int) (v2 : Int) (v3 : Int) (v4 : Int) (μ : Mu) : f_M_canMarch_29 z d v1 v2 v3 v4 μ = f_M_canMarch_3 z d v1 v2 v3 (zw (v4 + 1)) μ := by
  show mE z d q_M_canMarch 29 [(2, 86), (0, v1), (0, v2), (0, v3), (0, v4)] [] μ = _
  rw [mE_bk (M := q_M_canMarch) k_M_canMarch.1 k_M_canMarch.2 [3, 29, 38] 400]
  have key : ∀ (C : Nat → List zv → Mu → mR) (E : Nat → List zv → List zv → Mu → mR), mbk C E q_M_canMarch.1 q_M_canMarch.2.1 z q_M_canMarch.2.2.2 [3, 29, 38] 400 (zfind q_M_canMarch.2.2.2 29) [(2, 86), (0, v1), (0, v2), (0, v3), (0, v4)] [] μ = g_M_canMarch_3 E v1 v2 v3 (zw (v4 + 1)) μ := by
    intro C E
    rfl
  exact key _ _
def g_M_finds_3 (E : Nat → List zv → List zv → Mu → mR) (v1 : Int) (v2 : Int) (v3 : Int) (v4 : Int) (μ : Mu) : mR := E 3 [(2, 86), (0, v1), (0, v2), (0, v3), (0, v4), (9, 0), (9, 0), (9, 0), (9, 0)] [] μ
noncomputable def f_M_finds_3 (z : zZ) (d : Nat) (v1 : Int) (v2 : Int) (v3 : Int) (v4 : Int) (μ : Mu) : mR := g_M_finds_3 (fun pc ls st μ => mE z d q_M_finds pc ls st μ) v1 v2 v3 v4 μ
def g_M_finds_37 (E : Nat → List zv → List zv → Mu → mR) (v1 : Int) (v2 : Int) (v3 : Int) (v4 : Int) (v5 : Int) (v6 : Int) (v7 : Int) (μ : Mu) : mR := E 37 [(2, 86), (0, v1), (0, v2), (0, v3), (0, v4), (0, v5), (0, v6), (0, v7), (9, 0)] [] μ
noncomputable def f_M_finds_37 (z : zZ) (d : Nat) (v1 : Int) (v2 : Int) (v3 : Int) (v4 : Int) (v5 : Int) (v6 : Int) (v7 : Int) (μ : Mu) : mR := g_M_finds_37 (fun pc ls st μ => mE z d q_M_finds pc ls st μ) v1 v2 v3 v4 v5 v6 v7 μ
def g_M_finds_40 (E : Nat → List zv → List zv → Mu → mR) (v1 : Int) (v2 : Int) (v3 : Int) (v4 : Int) (v5 : Int) (v6 : Int) (v7 : Int) (v8 : Int) (μ : Mu) : mR := E 40 [(2, 86), (0, v1), (0, v2), (0, v3), (0, v4), (0, v5), (0, v6), (0, v7), (0, v8)] [] μ
noncomputable def f_M_finds_40 (z : zZ) (d : Nat) (v1 : Int) (v2 : Int) (v3 : Int) (v4 : Int) (v5 : Int) (v6 : Int) (v7 : Int) (v8 : Int) (μ : Mu) : mR := g_M_finds_40 (fun pc ls st μ => mE z d q_M_finds pc ls st μ) v1 v2 v3 v4 v5 v6 v7 v8 μ
def g_M_finds_101 (E : Nat → List zv → List zv → Mu → mR) (v1 : Int) (v2 : Int) (v3 : Int) (v4 : Int) (v5 : Int) (v6 : Int) (v7 : Int) (v8 : Int) (μ : Mu) : mR := E 101 [(2, 86), (0, v1), (0, v2), (0, v3), (0, v4), (0, v5), (0, v6), (0, v7), (0, v8)] [] μ
noncomputable def f_M_finds_101 (z : zZ) (d : Nat) (v1 : Int) (v2 : Int) (v3 : Int) (v4 : Int) (v5 : Int) (v6 : Int) (v7 : Int) (v8 : Int) (μ : Mu) : mR := g_M_finds_101 (fun pc ls st μ => mE z d q_M_finds pc ls st μ) v1 v2 v3 v4 v5 v6 v7 v8 μ
def g_M_finds_145 (E : Nat → List zv → List zv → Mu → mR) (v1 : Int) (v2 : Int) (v3 : Int) (v4 : Int) (v5 : Int) (v6 : Int) (v7 : Int) (v8 : Int) (μ : Mu) : mR := E 145 [(2, 86), (0, v1), (0, v2), (0, v3), (0, v4), (0, v5), (0, v6), (0, v7), (0, v8)] [] μ
noncomputable def f_M_finds_145 (z : zZ) (d : Nat) (v1 : Int) (v2 : Int) (v3 : Int) (v4 : Int) (v5 : Int) (v6 : Int) (v7 : Int) (v8 : Int) (μ : Mu) : mR := g_M_finds_145 (fun pc ls st μ => mE z d q_M_finds pc ls st μ) v1 v2 v3 v4 v5 v6 v7 v8 μ
theorem k_M_finds : zprK q_M_finds.2.2.2 = true ∧ zinc q_M_finds.2.2.2 = true := by decide +kernel
set_option maxRecDepth 100000 in
theorem c_M_finds (z : zZ) (d : Nat) (v1 : Int) (v2 : Int) (v3 : Int) (μ : Mu) : mC z (d + 1) 294 [(2, 86), (0, v1), (0, v2), (0, v3)] μ = f_M_finds_3 z d v1 v2 v3 0 μ := by
  rw [mC_succ q_M_finds rfl rfl rfl]
  rw [mE_bk (M := q_M_finds) k_M_finds.1 k_M_finds.2 [3, 37, 40, 101, 145] 400]
  have key : ∀ (C : Nat → List zv → Mu → mR) (E : Nat → List zv → List zv → Mu → mR), mbk C E q_M_finds.1 q_M_finds.2.1 z q_M_finds.2.2.2 [3, 37, 40, 101, 145] 400 (zfind q_M_finds.2.2.2 0) (zentry q_M_finds.2.2.1 [(2, 86), (0, v1), (0, v2), (0, v3)]) [] μ = g_M_finds_3 E v1 v2 v3 0 μ := by
    intro C E
    rfl
  exact key _ _
set_option maxRecDepth 100000 in
theorem e_M_finds_3 (z : zZ) (d : Nat) (v1 : Int) (v2 : Int) (v3 : Int) (v4 : Int) (μ : Mu) : f_M_finds_3 z d v1 v2 v3 v4 μ = bif decide (24 ≤ v4) then (f_M_finds_37 z d v1 v2 v3 0 v1 ((-1)) 0 μ) else (gI v4 24 (f_M_finds_3 z d v1 v2 v3 (zw (v4 + 1)) (zup μ 138 v4.toNat ((-2))))) := by
  show mE z d q_M_finds 3 [(2, 86), (0, v1), (0, v2), (0, v3), (0, v4), (9, 0), (9, 0), (9, 0), (9, 0)] [] μ = _
  rw [mE_bk (M := q_M_finds) k_M_finds.1 k_M_finds.2 [3, 37, 40, 101, 145] 400]
  have key : ∀ (C : Nat → List zv → Mu → mR) (E : Nat → List zv → List zv → Mu → mR), mbk C E q_M_finds.1 q_M_finds.2.1 z q_M_finds.2.2.2 [3, 37, 40, 101, 145] 400 (zfind q_M_finds.2.2.2 3) [(2, 86), (0, v1), (0, v2), (0, v3), (0, v4), (9, 0), (9, 0), (9, 0), (9, 0)] [] μ = bif decide (24 ≤ v4) then (g_M_finds_37 E v1 v2 v3 0 v1 ((-1)) 0 μ) else (gI v4 24 (g_M_finds_3 E v1 v2 v3 (zw (v4 + 1)) (zup μ 138 v4.toNat ((-2))))) := by
    intro C E
    rfl
  exact key _ _
set_option maxRecDepth 100000 in
theorem e_M_finds_37 (z : zZ) (d : Nat) (v1 : Int) (v2 : Int) (v3 : Int) (v4 : Int) (v5 : Int) (v6 : Int) (v7 : Int) (μ : Mu) : f_M_finds_37 z d v1 v2 v3 v4 v5 v6 v7 μ = f_M_finds_40 z d v1 v2 v3 v4 v5 v6 v7 0 μ := by
  show mE z d q_M_finds 37 [(2, 86), (0, v1), (0, v2), (0, v3), (0, v4), (0, v5), (0, v6), (0, v7), (9, 0)] [] μ = _
  rw [mE_bk (M := q_M_finds) k_M_finds.1 k_M_finds.2 [3, 37, 40, 101, 145] 400]
  have key : ∀ (C : Nat → List zv → Mu → mR) (E : Nat → List zv → List zv → Mu → mR), mbk C E q_M_finds.1 q_M_finds.2.1 z q_M_finds.2.2.2 [3, 37, 40, 101, 145] 400 (zfind q_M_finds.2.2.2 37) [(2, 86), (0, v1), (0, v2), (0, v3), (0, v4), (0, v5), (0, v6), (0, v7), (9, 0)] [] μ = g_M_finds_40 E v1 v2 v3 v4 v5 v6 v7 0 μ := by
    intro C E
    rfl
  exact key _ _
set_option maxRecDepth 100000 in
theorem e_M_finds_40 (z : zZ) (d : Nat) (v1 : Int) (v2 : Int) (v3 : Int) (v4 : Int) (v5 : Int) (v6 : Int) (v7 : Int) (v8 : Int) (μ : Mu) : f_M_finds_40 z d v1 v2 v3 v4 v5 v6 v7 v8 μ = bif decide (24 ≤ v8) then (bif !decide (v7 = v4) then (gI v7 24 (gI (μ 139 v7.toNat) 24 (f_M_finds_37 z d v1 v2 v3 v4 (μ 137 ((μ 139 v7.toNat).toNat)) (μ 139 v7.toNat) (zw (v7 + 1)) μ))) else (some (0, μ))) else (gI v8 24 (bif !decide (μ 138 v8.toNat = (-2)) then (f_M_finds_145 z d v1 v2 v3 v4 v5 v6 v7 v8 μ) else (gI (zw ((zw (24 * v5)) + v8)) 192 (bif decide (v2 < μ 136 ((zw ((zw (24 * v5)) + v8)).toNat)) then (f_M_finds_145 z d v1 v2 v3 v4 v5 v6 v7 v8 μ) else (gI v8 24 (bif decide (μ 137 v8.toNat = (-1)) then (f_M_finds_101 z d v1 v2 v3 v4 v5 v6 v7 v8 μ) else (gI v8 24 (bif decide (v3 ≤ μ 137 v8.toNat) then (f_M_finds_101 z d v1 v2 v3 v4 v5 v6 v7 v8 μ) else (f_M_finds_145 z d v1 v2 v3 v4 v5 v6 v7 v8 μ))))))))) := by
  show mE z d q_M_finds 40 [(2, 86), (0, v1), (0, v2), (0, v3), (0, v4), (0, v5), (0, v6), (0, v7), (0, v8)] [] μ = _
  rw [mE_bk (M := q_M_finds) k_M_finds.1 k_M_finds.2 [3, 37, 40, 101, 145] 400]
  have key : ∀ (C : Nat → List zv → Mu → mR) (E : Nat → List zv → List zv → Mu → mR), mbk C E q_M_finds.1 q_M_finds.2.1 z q_M_finds.2.2.2 [3, 37, 40, 101, 145] 400 (zfind q_M_finds.2.2.2 40) [(2, 86), (0, v1), (0, v2), (0, v3), (0, v4), (0, v5), (0, v6), (0, v7), (0, v8)] [] μ = bif decide (24 ≤ v8) then (bif !decide (v7 = v4) then (gI v7 24 (gI (μ 139 v7.toNat) 24 (g_M_finds_37 E v1 v2 v3 v4 (μ 137 ((μ 139 v7.toNat).toNat)) (μ 139 v7.toNat) (zw (v7 + 1)) μ))) else (some (0, μ))) else (gI v8 24 (bif !decide (μ 138 v8.toNat = (-2)) then (g_M_finds_145 E v1 v2 v3 v4 v5 v6 v7 v8 μ) else (gI (zw ((zw (24 * v5)) + v8)) 192 (bif decide (v2 < μ 136 ((zw ((zw (24 * v5)) + v8)).toNat)) then (g_M_finds_145 E v1 v2 v3 v4 v5 v6 v7 v8 μ) else (gI v8 24 (bif decide (μ 137 v8.toNat = (-1)) then (g_M_finds_101 E v1 v2 v3 v4 v5 v6 v7 v8 μ) else (gI v8 24 (bif decide (v3 ≤ μ 137 v8.toNat) then (g_M_finds_101 E v1 v2 v3 v4 v5 v6 v7 v8 μ) else (g_M_finds_145 E v1 v2 v3 v4 v5 v6 v7 v8 μ))))))))) := by
    intro C E
    rfl
  exact key _ _
set_option maxRecDepth 100000 in
theorem e_M_finds_145 (z : zZ) (d : Nat) (v1 : Int) (v2 : Int) (v3 : Int) (v4 : Int) (v5 : Int) (v6 : Int) (v7 : Int) (v8 : Int) (μ : Mu) : f_M_finds_145 z d v1 v2 v3 v4 v5 v6 v7 v8 μ = f_M_finds_40 z d v1 v2 v3 v4 v5 v6 v7 (zw (v8 + 1)) μ := by
  show mE z d q_M_finds 145 [(2, 86), (0, v1), (0, v2), (0, v3), (0, v4), (0, v5), (0, v6), (0, v7), (0, v8)] [] μ = _
  rw [mE_bk (M := q_M_finds) k_M_finds.1 k_M_finds.2 [3, 37, 40, 101, 145] 400]
  have key : ∀ (C : Nat → List zv → Mu → mR) (E : Nat → List zv → List zv → Mu → mR), mbk C E q_M_finds.1 q_M_finds.2.1 z q_M_finds.2.2.2 [3, 37, 40, 101, 145] 400 (zfind q_M_finds.2.2.2 145) [(2, 86), (0, v1), (0, v2), (0, v3), (0, v4), (0, v5), (0, v6), (0, v7), (0, v8)] [] μ = g_M_finds_40 E v1 v2 v3 v4 v5 v6 v7 (zw (v8 + 1)) μ := by
    intro C E
    rfl
  exact key _ _
set_option maxRecDepth 100000 in
theorem e_M_finds_101 (z : zZ) (d : Nat) (v1 : Int) (v2 : Int) (v3 : Int) (v4 : Int) (v5 : Int) (v6 : Int) (v7 : Int) (v8 : Int) (μ : Mu) : f_M_finds_101 z d v1 v2 v3 v4 v5 v6 v7 v8 μ = gI v8 24 (gI v8 24 (bif !decide (μ 137 v8.toNat = (-1)) then (gI v4 24 (f_M_finds_145 z d v1 v2 v3 (zw (v4 + 1)) v5 v6 v7 v8 (zup (zup μ 138 v8.toNat v6) 139 v4.toNat v8))) else ((mC z d 295 [(2, 86), (0, v8), (0, v1)] (zup μ 138 v8.toNat v6)).bind fun q1 => (some (1, q1.2))))) := by
  show mE z d q_M_finds 101 [(2, 86), (0, v1), (0, v2), (0, v3), (0, v4), (0, v5), (0, v6), (0, v7), (0, v8)] [] μ = _
  rw [mE_bk (M := q_M_finds) k_M_finds.1 k_M_finds.2 [3, 37, 40, 101, 145] 400]
  have key : ∀ (C : Nat → List zv → Mu → mR) (E : Nat → List zv → List zv → Mu → mR), mbk C E q_M_finds.1 q_M_finds.2.1 z q_M_finds.2.2.2 [3, 37, 40, 101, 145] 400 (zfind q_M_finds.2.2.2 101) [(2, 86), (0, v1), (0, v2), (0, v3), (0, v4), (0, v5), (0, v6), (0, v7), (0, v8)] [] μ = gI v8 24 (gI v8 24 (bif !decide (μ 137 v8.toNat = (-1)) then (gI v4 24 (g_M_finds_145 E v1 v2 v3 (zw (v4 + 1)) v5 v6 v7 v8 (zup (zup μ 138 v8.toNat v6) 139 v4.toNat v8))) else ((C 295 [(2, 86), (0, v8), (0, v1)] (zup μ 138 v8.toNat v6)).bind fun q1 => (some (1, q1.2))))) := by
    intro C E
    rfl
  exact key _ _
def g_M_moves_2 (E : Nat → List zv → List zv → Mu → mR) (v2 : Int) (v3 : Int) (μ : Mu) : mR := E 2 [(2, 86), (9, 0), (0, v2), (0, v3)] [] μ
noncomputable def f_M_moves_2 (z : zZ) (d : Nat) (v2 : Int) (v3 : Int) (μ : Mu) : mR := g_M_moves_2 (fun pc ls st μ => mE z d q_M_moves pc ls st μ) v2 v3 μ
theorem k_M_moves : zprK q_M_moves.2.2.2 = true ∧ zinc q_M_moves.2.2.2 = true := by decide +kernel
set_option maxRecDepth 100000 in
theorem c_M_moves (z : zZ) (d : Nat) (v1 : Int) (v2 : Int) (μ : Mu) : mC z (d + 1) 295 [(2, 86), (0, v1), (0, v2)] μ = f_M_moves_2 z d v2 v1 μ := by
  rw [mC_succ q_M_moves rfl rfl rfl]
  rw [mE_bk (M := q_M_moves) k_M_moves.1 k_M_moves.2 [2] 400]
  have key : ∀ (C : Nat → List zv → Mu → mR) (E : Nat → List zv → List zv → Mu → mR), mbk C E q_M_moves.1 q_M_moves.2.1 z q_M_moves.2.2.2 [2] 400 (zfind q_M_moves.2.2.2 0) (zentry q_M_moves.2.2.1 [(2, 86), (0, v1), (0, v2)]) [] μ = g_M_moves_2 E v2 v1 μ := by
    intro C E
    rfl
  exact key _ _
set_option maxRecDepth 100000 in
theorem e_M_moves_2 (z : zZ) (d : Nat) (v2 : Int) (v3 : Int) (μ : Mu) : f_M_moves_2 z d v2 v3 μ = gI v3 24 (bif decide (μ 138 v3.toNat = (-1)) then (gI v3 24 (some (0, zup μ 137 v3.toNat v2))) else (gI v3 24 (gI (μ 138 v3.toNat) 24 (gI v3 24 (gI v3 24 (f_M_moves_2 z d v2 (μ 138 v3.toNat) (zup μ 137 v3.toNat (μ 137 ((μ 138 v3.toNat).toNat))))))))) := by
  show mE z d q_M_moves 2 [(2, 86), (9, 0), (0, v2), (0, v3)] [] μ = _
  rw [mE_bk (M := q_M_moves) k_M_moves.1 k_M_moves.2 [2] 400]
  have key : ∀ (C : Nat → List zv → Mu → mR) (E : Nat → List zv → List zv → Mu → mR), mbk C E q_M_moves.1 q_M_moves.2.1 z q_M_moves.2.2.2 [2] 400 (zfind q_M_moves.2.2.2 2) [(2, 86), (9, 0), (0, v2), (0, v3)] [] μ = gI v3 24 (bif decide (μ 138 v3.toNat = (-1)) then (gI v3 24 (some (0, zup μ 137 v3.toNat v2))) else (gI v3 24 (gI (μ 138 v3.toNat) 24 (gI v3 24 (gI v3 24 (g_M_moves_2 E v2 (μ 138 v3.toNat) (zup μ 137 v3.toNat (μ 137 ((μ 138 v3.toNat).toNat))))))))) := by
    intro C E
    rfl
  exact key _ _
