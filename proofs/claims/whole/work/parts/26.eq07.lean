def g_M_loses_74 (E : Nat → List zv → List zv → Mu → mR) (v1 : Int) (v2 : Int) (v3 : Int) (v4 : Int) (v5 : Int) (v6 : Int) (v100 : Int) (v101 : Int) (μ : Mu) : mR := E 74 [(2, 86), (0, v1), (0, v2), (0, v3), (0, v4), (0, v5), (0, v6), (9, 0), (9, 0), (9, 0), (9, 0)] [(0, v101), (0, v100)] μ
noncomputable def f_M_loses_74 (z : zZ) (d : Nat) (v1 : Int) (v2 : Int) (v3 : Int) (v4 : Int) (v5 : Int) (v6 : Int) (v100 : Int) (v101 : Int) (μ : Mu) : mR := g_M_loses_74 (fun pc ls st μ => mE z d q_M_loses pc ls st μ) v1 v2 v3 v4 v5 v6 v100 v101 μ
def g_M_loses_114 (E : Nat → List zv → List zv → Mu → mR) (v1 : Int) (v2 : Int) (v5 : Int) (v6 : Int) (v8 : Int) (v9 : Int) (v10 : Int) (μ : Mu) : mR := E 114 [(2, 86), (0, v1), (0, v2), (9, 0), (9, 0), (0, v5), (0, v6), (9, 0), (0, v8), (0, v9), (0, v10)] [] μ
noncomputable def f_M_loses_114 (z : zZ) (d : Nat) (v1 : Int) (v2 : Int) (v5 : Int) (v6 : Int) (v8 : Int) (v9 : Int) (v10 : Int) (μ : Mu) : mR := g_M_loses_114 (fun pc ls st μ => mE z d q_M_loses pc ls st μ) v1 v2 v5 v6 v8 v9 v10 μ
def g_M_loses_154 (E : Nat → List zv → List zv → Mu → mR) (v1 : Int) (v2 : Int) (v5 : Int) (v6 : Int) (v8 : Int) (v9 : Int) (v10 : Int) (μ : Mu) : mR := E 154 [(2, 86), (0, v1), (0, v2), (9, 0), (9, 0), (0, v5), (0, v6), (9, 0), (0, v8), (0, v9), (0, v10)] [] μ
noncomputable def f_M_loses_154 (z : zZ) (d : Nat) (v1 : Int) (v2 : Int) (v5 : Int) (v6 : Int) (v8 : Int) (v9 : Int) (v10 : Int) (μ : Mu) : mR := g_M_loses_154 (fun pc ls st μ => mE z d q_M_loses pc ls st μ) v1 v2 v5 v6 v8 v9 v10 μ
def g_M_loses_201 (E : Nat → List zv → List zv → Mu → mR) (v1 : Int) (v2 : Int) (v6 : Int) (v9 : Int) (μ : Mu) : mR := E 201 [(2, 86), (0, v1), (0, v2), (9, 0), (9, 0), (9, 0), (0, v6), (9, 0), (9, 0), (0, v9), (9, 0)] [] μ
noncomputable def f_M_loses_201 (z : zZ) (d : Nat) (v1 : Int) (v2 : Int) (v6 : Int) (v9 : Int) (μ : Mu) : mR := g_M_loses_201 (fun pc ls st μ => mE z d q_M_loses pc ls st μ) v1 v2 v6 v9 μ
def g_M_loses_230 (E : Nat → List zv → List zv → Mu → mR) (v1 : Int) (v6 : Int) (v9 : Int) (v100 : Int) (μ : Mu) : mR := E 230 [(2, 86), (0, v1), (9, 0), (9, 0), (9, 0), (9, 0), (0, v6), (9, 0), (9, 0), (0, v9), (9, 0)] [(0, v100)] μ
noncomputable def f_M_loses_230 (z : zZ) (d : Nat) (v1 : Int) (v6 : Int) (v9 : Int) (v100 : Int) (μ : Mu) : mR := g_M_loses_230 (fun pc ls st μ => mE z d q_M_loses pc ls st μ) v1 v6 v9 v100 μ
def g_M_loses_262 (E : Nat → List zv → List zv → Mu → mR) (v1 : Int) (v6 : Int) (v9 : Int) (μ : Mu) : mR := E 262 [(2, 86), (0, v1), (9, 0), (9, 0), (9, 0), (9, 0), (0, v6), (9, 0), (9, 0), (0, v9), (9, 0)] [] μ
noncomputable def f_M_loses_262 (z : zZ) (d : Nat) (v1 : Int) (v6 : Int) (v9 : Int) (μ : Mu) : mR := g_M_loses_262 (fun pc ls st μ => mE z d q_M_loses pc ls st μ) v1 v6 v9 μ
def g_M_loses_275 (E : Nat → List zv → List zv → Mu → mR) (μ : Mu) : mR := E 275 [(9, 0), (9, 0), (9, 0), (9, 0), (9, 0), (9, 0), (9, 0), (9, 0), (9, 0), (9, 0), (9, 0)] [] μ
noncomputable def f_M_loses_275 (z : zZ) (d : Nat) (μ : Mu) : mR := g_M_loses_275 (fun pc ls st μ => mE z d q_M_loses pc ls st μ) μ
theorem k_M_loses : zprK q_M_loses.2.2.2 = true ∧ zinc q_M_loses.2.2.2 = true := by decide +kernel
set_option maxRecDepth 100000 in
theorem c_M_loses (z : zZ) (d : Nat) (v1 : Int) (v2 : Int) (v3 : Int) (μ : Mu) : mC z (d + 1) 243 [(2, 86), (0, v1), (0, v2), (0, v3)] μ = (mC z d 244 [(2, 86)] μ).bind fun q1 => ((mC z d 245 [(2, 86), (0, v1), (0, v2)] q1.2).bind fun q2 => ((mC z d 202 [(2, 86), (0, zw (1 - v1)), (0, v3)] q2.2).bind fun q3 => ((mC z d 247 [(2, 86), (0, zw (1 - v1)), (0, v3)] (zup q3.2 110 4 q3.1)).bind fun q4 => ((mC z d 202 [(2, 86), (0, v1), (0, v2)] (zup (zup q4.2 110 5 q4.1) 110 6 q1.1)).bind fun q5 => ((mC z d 201 [(0, v1), (0, v2)] q5.2).bind fun q6 => ((mC z d 248 [(2, 86), (0, 102), (0, 8)] q6.2).bind fun q7 => (f_M_loses_74 z d v1 v2 v3 q1.1 q5.1 q6.1 q5.1 q7.1 q7.2))))))) := by
  rw [mC_succ q_M_loses rfl rfl rfl]
  rw [mE_bk (M := q_M_loses) k_M_loses.1 k_M_loses.2 [74, 114, 154, 201, 230, 262, 275] 400]
  have key : ∀ (C : Nat → List zv → Mu → mR) (E : Nat → List zv → List zv → Mu → mR), mbk C E q_M_loses.1 q_M_loses.2.1 z q_M_loses.2.2.2 [74, 114, 154, 201, 230, 262, 275] 400 (zfind q_M_loses.2.2.2 0) (zentry q_M_loses.2.2.1 [(2, 86), (0, v1), (0, v2), (0, v3)]) [] μ = (C 244 [(2, 86)] μ).bind fun q1 => ((C 245 [(2, 86), (0, v1), (0, v2)] q1.2).bind fun q2 => ((C 202 [(2, 86), (0, zw (1 - v1)), (0, v3)] q2.2).bind fun q3 => ((C 247 [(2, 86), (0, zw (1 - v1)), (0, v3)] (zup q3.2 110 4 q3.1)).bind fun q4 => ((C 202 [(2, 86), (0, v1), (0, v2)] (zup (zup q4.2 110 5 q4.1) 110 6 q1.1)).bind fun q5 => ((C 201 [(0, v1), (0, v2)] q5.2).bind fun q6 => ((C 248 [(2, 86), (0, 102), (0, 8)] q6.2).bind fun q7 => (g_M_loses_74 E v1 v2 v3 q1.1 q5.1 q6.1 q5.1 q7.1 q7.2))))))) := by
    intro C E
    rfl
  exact key _ _
set_option maxRecDepth 100000 in
theorem e_M_loses_74 (z : zZ) (d : Nat) (v1 : Int) (v2 : Int) (v3 : Int) (v4 : Int) (v5 : Int) (v6 : Int) (v100 : Int) (v101 : Int) (μ : Mu) : f_M_loses_74 z d v1 v2 v3 v4 v5 v6 v100 v101 μ = (mC z d 205 [(0, v100), (0, v101)] μ).bind fun q1 => ((mC z d 248 [(2, 86), (0, 112), (0, 8)] q1.2).bind fun q2 => ((mC z d 205 [(0, zw (v5 - q1.1)), (0, q2.1)] q2.2).bind fun q3 => (f_M_loses_114 z d v1 v2 v5 v6 q3.1 (zw ((zw (v5 - q1.1)) - q3.1)) (zw ((zw ((zw (v5 - q1.1)) - q3.1)) + q3.1)) q3.2))) := by
  show mE z d q_M_loses 74 [(2, 86), (0, v1), (0, v2), (0, v3), (0, v4), (0, v5), (0, v6), (9, 0), (9, 0), (9, 0), (9, 0)] [(0, v101), (0, v100)] μ = _
  rw [mE_bk (M := q_M_loses) k_M_loses.1 k_M_loses.2 [74, 114, 154, 201, 230, 262, 275] 400]
  have key : ∀ (C : Nat → List zv → Mu → mR) (E : Nat → List zv → List zv → Mu → mR), mbk C E q_M_loses.1 q_M_loses.2.1 z q_M_loses.2.2.2 [74, 114, 154, 201, 230, 262, 275] 400 (zfind q_M_loses.2.2.2 74) [(2, 86), (0, v1), (0, v2), (0, v3), (0, v4), (0, v5), (0, v6), (9, 0), (9, 0), (9, 0), (9, 0)] [(0, v101), (0, v100)] μ = (C 205 [(0, v100), (0, v101)] μ).bind fun q1 => ((C 248 [(2, 86), (0, 112), (0, 8)] q1.2).bind fun q2 => ((C 205 [(0, zw (v5 - q1.1)), (0, q2.1)] q2.2).bind fun q3 => (g_M_loses_114 E v1 v2 v5 v6 q3.1 (zw ((zw (v5 - q1.1)) - q3.1)) (zw ((zw ((zw (v5 - q1.1)) - q3.1)) + q3.1)) q3.2))) := by
    intro C E
    rfl
  exact key _ _
set_option maxRecDepth 100000 in
theorem e_M_loses_114 (z : zZ) (d : Nat) (v1 : Int) (v2 : Int) (v5 : Int) (v6 : Int) (v8 : Int) (v9 : Int) (v10 : Int) (μ : Mu) : f_M_loses_114 z d v1 v2 v5 v6 v8 v9 v10 μ = bif decide (v5 ≤ v10) then (f_M_loses_154 z d v1 v2 v5 v6 v8 v9 v9 μ) else (gI (zw (v6 + v10)) 192 ((mC z d 204 [(2, 91), (0, zw ((zw (12 * v1)) + (μ 94 ((zw (v6 + v10)).toNat)))), (0, 1)] μ).bind fun q1 => (f_M_loses_114 z d v1 v2 v5 v6 v8 v9 (zw (v10 + 1)) q1.2))) := by
  show mE z d q_M_loses 114 [(2, 86), (0, v1), (0, v2), (9, 0), (9, 0), (0, v5), (0, v6), (9, 0), (0, v8), (0, v9), (0, v10)] [] μ = _
  rw [mE_bk (M := q_M_loses) k_M_loses.1 k_M_loses.2 [74, 114, 154, 201, 230, 262, 275] 400]
  have key : ∀ (C : Nat → List zv → Mu → mR) (E : Nat → List zv → List zv → Mu → mR), mbk C E q_M_loses.1 q_M_loses.2.1 z q_M_loses.2.2.2 [74, 114, 154, 201, 230, 262, 275] 400 (zfind q_M_loses.2.2.2 114) [(2, 86), (0, v1), (0, v2), (9, 0), (9, 0), (0, v5), (0, v6), (9, 0), (0, v8), (0, v9), (0, v10)] [] μ = bif decide (v5 ≤ v10) then (g_M_loses_154 E v1 v2 v5 v6 v8 v9 v9 μ) else (gI (zw (v6 + v10)) 192 ((C 204 [(2, 91), (0, zw ((zw (12 * v1)) + (μ 94 ((zw (v6 + v10)).toNat)))), (0, 1)] μ).bind fun q1 => (g_M_loses_114 E v1 v2 v5 v6 v8 v9 (zw (v10 + 1)) q1.2))) := by
    intro C E
    rfl
  exact key _ _
set_option maxRecDepth 100000 in
theorem e_M_loses_154 (z : zZ) (d : Nat) (v1 : Int) (v2 : Int) (v5 : Int) (v6 : Int) (v8 : Int) (v9 : Int) (v10 : Int) (μ : Mu) : f_M_loses_154 z d v1 v2 v5 v6 v8 v9 v10 μ = bif decide (zw (v9 + v8) ≤ v10) then (bif !decide (v9 = v5) then (f_M_loses_201 z d v1 v2 v6 v9 μ) else (some (0, μ))) else (gI (zw (v6 + v10)) 192 ((mC z d 204 [(2, 92), (0, zw ((zw (12 * v1)) + (μ 94 ((zw (v6 + v10)).toNat)))), (0, 1)] μ).bind fun q1 => (f_M_loses_154 z d v1 v2 v5 v6 v8 v9 (zw (v10 + 1)) q1.2))) := by
  show mE z d q_M_loses 154 [(2, 86), (0, v1), (0, v2), (9, 0), (9, 0), (0, v5), (0, v6), (9, 0), (0, v8), (0, v9), (0, v10)] [] μ = _
  rw [mE_bk (M := q_M_loses) k_M_loses.1 k_M_loses.2 [74, 114, 154, 201, 230, 262, 275] 400]
  have key : ∀ (C : Nat → List zv → Mu → mR) (E : Nat → List zv → List zv → Mu → mR), mbk C E q_M_loses.1 q_M_loses.2.1 z q_M_loses.2.2.2 [74, 114, 154, 201, 230, 262, 275] 400 (zfind q_M_loses.2.2.2 154) [(2, 86), (0, v1), (0, v2), (9, 0), (9, 0), (0, v5), (0, v6), (9, 0), (0, v8), (0, v9), (0, v10)] [] μ = bif decide (zw (v9 + v8) ≤ v10) then (bif !decide (v9 = v5) then (g_M_loses_201 E v1 v2 v6 v9 μ) else (some (0, μ))) else (gI (zw (v6 + v10)) 192 ((C 204 [(2, 92), (0, zw ((zw (12 * v1)) + (μ 94 ((zw (v6 + v10)).toNat)))), (0, 1)] μ).bind fun q1 => (g_M_loses_154 E v1 v2 v5 v6 v8 v9 (zw (v10 + 1)) q1.2))) := by
    intro C E
    rfl
  exact key _ _
set_option maxRecDepth 100000 in
theorem e_M_loses_201 (z : zZ) (d : Nat) (v1 : Int) (v2 : Int) (v6 : Int) (v9 : Int) (μ : Mu) : f_M_loses_201 z d v1 v2 v6 v9 μ = (mC z d 238 [(2, 86), (0, v1), (0, v2), (0, 0)] μ).bind fun q1 => (bif !decide (v9 = 0) then ((mC z d 206 [(2, 86), (0, v1), (2, 94), (0, v6), (0, v9)] q1.2).bind fun q2 => (f_M_loses_230 z d v1 v6 v9 q2.1 q2.2)) else (f_M_loses_230 z d v1 v6 v9 ((-1)) q1.2)) := by
  show mE z d q_M_loses 201 [(2, 86), (0, v1), (0, v2), (9, 0), (9, 0), (9, 0), (0, v6), (9, 0), (9, 0), (0, v9), (9, 0)] [] μ = _
  rw [mE_bk (M := q_M_loses) k_M_loses.1 k_M_loses.2 [74, 114, 154, 201, 230, 262, 275] 400]
  have key : ∀ (C : Nat → List zv → Mu → mR) (E : Nat → List zv → List zv → Mu → mR), mbk C E q_M_loses.1 q_M_loses.2.1 z q_M_loses.2.2.2 [74, 114, 154, 201, 230, 262, 275] 400 (zfind q_M_loses.2.2.2 201) [(2, 86), (0, v1), (0, v2), (9, 0), (9, 0), (9, 0), (0, v6), (9, 0), (9, 0), (0, v9), (9, 0)] [] μ = (C 238 [(2, 86), (0, v1), (0, v2), (0, 0)] μ).bind fun q1 => (bif !decide (v9 = 0) then ((C 206 [(2, 86), (0, v1), (2, 94), (0, v6), (0, v9)] q1.2).bind fun q2 => (g_M_loses_230 E v1 v6 v9 q2.1 q2.2)) else (g_M_loses_230 E v1 v6 v9 ((-1)) q1.2)) := by
    intro C E
    rfl
  exact key _ _
set_option maxRecDepth 100000 in
theorem e_M_loses_230 (z : zZ) (d : Nat) (v1 : Int) (v6 : Int) (v9 : Int) (v100 : Int) (μ : Mu) : f_M_loses_230 z d v1 v6 v9 v100 μ = bif decide (v100 = (-1)) then (f_M_loses_262 z d v1 v6 v9 μ) else ((mC z d 199 [(2, 86), (0, v1)] μ).bind fun q1 => ((mC z d 189 [(0, q1.1), (0, v100)] q1.2).bind fun q2 => (bif !decide (q2.1 = 0) then (f_M_loses_262 z d v1 v6 v9 q2.2) else ((mC z d 238 [(2, 86), (0, v1), (0, v100), (0, 1)] q2.2).bind fun q3 => (f_M_loses_275 z d q3.2))))) := by
  show mE z d q_M_loses 230 [(2, 86), (0, v1), (9, 0), (9, 0), (9, 0), (9, 0), (0, v6), (9, 0), (9, 0), (0, v9), (9, 0)] [(0, v100)] μ = _
  rw [mE_bk (M := q_M_loses) k_M_loses.1 k_M_loses.2 [74, 114, 154, 201, 230, 262, 275] 400]
  have key : ∀ (C : Nat → List zv → Mu → mR) (E : Nat → List zv → List zv → Mu → mR), mbk C E q_M_loses.1 q_M_loses.2.1 z q_M_loses.2.2.2 [74, 114, 154, 201, 230, 262, 275] 400 (zfind q_M_loses.2.2.2 230) [(2, 86), (0, v1), (9, 0), (9, 0), (9, 0), (9, 0), (0, v6), (9, 0), (9, 0), (0, v9), (9, 0)] [(0, v100)] μ = bif decide (v100 = (-1)) then (g_M_loses_262 E v1 v6 v9 μ) else ((C 199 [(2, 86), (0, v1)] μ).bind fun q1 => ((C 189 [(0, q1.1), (0, v100)] q1.2).bind fun q2 => (bif !decide (q2.1 = 0) then (g_M_loses_262 E v1 v6 v9 q2.2) else ((C 238 [(2, 86), (0, v1), (0, v100), (0, 1)] q2.2).bind fun q3 => (g_M_loses_275 E q3.2))))) := by
    intro C E
    rfl
  exact key _ _
set_option maxRecDepth 100000 in
theorem e_M_loses_262 (z : zZ) (d : Nat) (v1 : Int) (v6 : Int) (v9 : Int) (μ : Mu) : f_M_loses_262 z d v1 v6 v9 μ = (mC z d 203 [(2, 86), (0, v1), (2, 94), (0, v6), (0, v9)] μ).bind fun q1 => (f_M_loses_275 z d q1.2) := by
  show mE z d q_M_loses 262 [(2, 86), (0, v1), (9, 0), (9, 0), (9, 0), (9, 0), (0, v6), (9, 0), (9, 0), (0, v9), (9, 0)] [] μ = _
  rw [mE_bk (M := q_M_loses) k_M_loses.1 k_M_loses.2 [74, 114, 154, 201, 230, 262, 275] 400]
  have key : ∀ (C : Nat → List zv → Mu → mR) (E : Nat → List zv → List zv → Mu → mR), mbk C E q_M_loses.1 q_M_loses.2.1 z q_M_loses.2.2.2 [74, 114, 154, 201, 230, 262, 275] 400 (zfind q_M_loses.2.2.2 262) [(2, 86), (0, v1), (9, 0), (9, 0), (9, 0), (9, 0), (0, v6), (9, 0), (9, 0), (0, v9), (9, 0)] [] μ = (C 203 [(2, 86), (0, v1), (2, 94), (0, v6), (0, v9)] μ).bind fun q1 => (g_M_loses_275 E q1.2) := by
    intro C E
    rfl
  exact key _ _
set_option maxRecDepth 100000 in
theorem e_M_loses_275 (z : zZ) (d : Nat) (μ : Mu) : f_M_loses_275 z d μ = some (0, μ) := by
  show mE z d q_M_loses 275 [(9, 0), (9, 0), (9, 0), (9, 0), (9, 0), (9, 0), (9, 0), (9, 0), (9, 0), (9, 0), (9, 0)] [] μ = _
  rw [mE_bk (M := q_M_loses) k_M_loses.1 k_M_loses.2 [74, 114, 154, 201, 230, 262, 275] 400]
  have key : ∀ (C : Nat → List zv → Mu → mR) (E : Nat → List zv → List zv → Mu → mR), mbk C E q_M_loses.1 q_M_loses.2.1 z q_M_loses.2.2.2 [74, 114, 154, 201, 230, 262, 275] 400 (zfind q_M_loses.2.2.2 275) [(9, 0), (9, 0), (9, 0), (9, 0), (9, 0), (9, 0), (9, 0), (9, 0), (9, 0), (9, 0), (9, 0)] [] μ = some (0, μ) := by
    intro C E
    rfl
  exact key _ _
theorem k_M_draws : zprK q_M_draws.2.2.2 = true ∧ zinc q_M_draws.2.2.2 = true := by decide +kernel
set_option maxRecDepth 100000 in
theorem c_M_draws (z : zZ) (d : Nat) (μ : Mu) : mC z (d + 1) 244 [(2, 86)] μ = some (z_rem (z_rem (zw ((zw (25173 * (μ 86 0))) + 13849)) 65536) 10, zup μ 86 0 (z_rem (zw ((zw (25173 * (μ 86 0))) + 13849)) 65536)) := by
  rw [mC_succ q_M_draws rfl rfl rfl]
  rw [mE_bk (M := q_M_draws) k_M_draws.1 k_M_draws.2 [] 400]
  have key : ∀ (C : Nat → List zv → Mu → mR) (E : Nat → List zv → List zv → Mu → mR), mbk C E q_M_draws.1 q_M_draws.2.1 z q_M_draws.2.2.2 [] 400 (zfind q_M_draws.2.2.2 0) (zentry q_M_draws.2.2.1 [(2, 86)]) [] μ = some (z_rem (z_rem (zw ((zw (25173 * (μ 86 0))) + 13849)) 65536) 10, zup μ 86 0 (z_rem (zw ((zw (25173 * (μ 86 0))) + 13849)) 65536)) := by
    intro C E
    rfl
  exact key _ _
theorem k_M_feelsWord : zprK q_M_feelsWord.2.2.2 = true ∧ zinc q_M_feelsWord.2.2.2 = true := by decide +kernel
set_option maxRecDepth 100000 in
theorem c_M_feelsWord (z : zZ) (d : Nat) (v1 : Int) (v2 : Int) (μ : Mu) : mC z (d + 1) 245 [(2, 86), (0, v1), (0, v2)] μ = (mC z d 246 [(2, 86), (0, v1)] μ).bind fun q1 => ((mC z d 202 [(2, 86), (0, v1), (0, v2)] q1.2).bind fun q2 => ((mC z d 247 [(2, 86), (0, v1), (0, v2)] (zup q2.2 110 2 q2.1)).bind fun q3 => (some (0, zup q3.2 110 3 q3.1)))) := by
  rw [mC_succ q_M_feelsWord rfl rfl rfl]
  rw [mE_bk (M := q_M_feelsWord) k_M_feelsWord.1 k_M_feelsWord.2 [] 400]
  have key : ∀ (C : Nat → List zv → Mu → mR) (E : Nat → List zv → List zv → Mu → mR), mbk C E q_M_feelsWord.1 q_M_feelsWord.2.1 z q_M_feelsWord.2.2.2 [] 400 (zfind q_M_feelsWord.2.2.2 0) (zentry q_M_feelsWord.2.2.1 [(2, 86), (0, v1), (0, v2)]) [] μ = (C 246 [(2, 86), (0, v1)] μ).bind fun q1 => ((C 202 [(2, 86), (0, v1), (0, v2)] q1.2).bind fun q2 => ((C 247 [(2, 86), (0, v1), (0, v2)] (zup q2.2 110 2 q2.1)).bind fun q3 => (some (0, zup q3.2 110 3 q3.1)))) := by
    intro C E
    rfl
  exact key _ _
def g_M_feels_2 (E : Nat → List zv → List zv → Mu → mR) (v1 : Int) (v2 : Int) (μ : Mu) : mR := E 2 [(2, 86), (0, v1), (0, v2)] [] μ
noncomputable def f_M_feels_2 (z : zZ) (d : Nat) (v1 : Int) (v2 : Int) (μ : Mu) : mR := g_M_feels_2 (fun pc ls st μ => mE z d q_M_feels pc ls st μ) v1 v2 μ
theorem k_M_feels : zprK q_M_feels.2.2.2 = true ∧ zinc q_M_feels.2.2.2 = true := by decide +kernel
set_option maxRecDepth 100000 in
theorem c_M_feels (z : zZ) (d : Nat) (v1 : Int) (μ : Mu) : mC z (d + 1) 246 [(2, 86), (0, v1)] μ = f_M_feels_2 z d v1 0 μ := by
  rw [mC_succ q_M_feels rfl rfl rfl]
  rw [mE_bk (M := q_M_feels) k_M_feels.1 k_M_feels.2 [2] 400]
  have key : ∀ (C : Nat → List zv → Mu → mR) (E : Nat → List zv → List zv → Mu → mR), mbk C E q_M_feels.1 q_M_feels.2.1 z q_M_feels.2.2.2 [2] 400 (zfind q_M_feels.2.2.2 0) (zentry q_M_feels.2.2.1 [(2, 86), (0, v1)]) [] μ = g_M_feels_2 E v1 0 μ := by
    intro C E
    rfl
  exact key _ _
set_option maxRecDepth 100000 in
theorem e_M_feels_2 (z : zZ) (d : Nat) (v1 : Int) (v2 : Int) (μ : Mu) : f_M_feels_2 z d v1 v2 μ = bif decide (10 ≤ v2) then (some (0, zup (zup μ 110 0 (μ 86 1)) 110 1 v1)) else (gI v2 10 (f_M_feels_2 z d v1 (zw (v2 + 1)) (zup μ 110 v2.toNat 0))) := by
  show mE z d q_M_feels 2 [(2, 86), (0, v1), (0, v2)] [] μ = _
  rw [mE_bk (M := q_M_feels) k_M_feels.1 k_M_feels.2 [2] 400]
  have key : ∀ (C : Nat → List zv → Mu → mR) (E : Nat → List zv → List zv → Mu → mR), mbk C E q_M_feels.1 q_M_feels.2.1 z q_M_feels.2.2.2 [2] 400 (zfind q_M_feels.2.2.2 2) [(2, 86), (0, v1), (0, v2)] [] μ = bif decide (10 ≤ v2) then (some (0, zup (zup μ 110 0 (μ 86 1)) 110 1 v1)) else (gI v2 10 (g_M_feels_2 E v1 (zw (v2 + 1)) (zup μ 110 v2.toNat 0))) := by
    intro C E
    rfl
  exact key _ _
def g_M_strengthIn_5 (E : Nat → List zv → List zv → Mu → mR) (v1 : Int) (v2 : Int) (v3 : Int) (v4 : Int) (μ : Mu) : mR := E 5 [(2, 86), (0, v1), (0, v2), (0, v3), (0, v4)] [] μ
noncomputable def f_M_strengthIn_5 (z : zZ) (d : Nat) (v1 : Int) (v2 : Int) (v3 : Int) (v4 : Int) (μ : Mu) : mR := g_M_strengthIn_5 (fun pc ls st μ => mE z d q_M_strengthIn pc ls st μ) v1 v2 v3 v4 μ
theorem k_M_strengthIn : zprK q_M_strengthIn.2.2.2 = true ∧ zinc q_M_strengthIn.2.2.2 = true := by decide +kernel
set_option maxRecDepth 100000 in
theorem c_M_strengthIn (z : zZ) (d : Nat) (v1 : Int) (v2 : Int) (μ : Mu) : mC z (d + 1) 247 [(2, 86), (0, v1), (0, v2)] μ = f_M_strengthIn_5 z d v1 v2 0 0 μ := by
  rw [mC_succ q_M_strengthIn rfl rfl rfl]
  rw [mE_bk (M := q_M_strengthIn) k_M_strengthIn.1 k_M_strengthIn.2 [5] 400]
  have key : ∀ (C : Nat → List zv → Mu → mR) (E : Nat → List zv → List zv → Mu → mR), mbk C E q_M_strengthIn.1 q_M_strengthIn.2.1 z q_M_strengthIn.2.2.2 [5] 400 (zfind q_M_strengthIn.2.2.2 0) (zentry q_M_strengthIn.2.2.1 [(2, 86), (0, v1), (0, v2)]) [] μ = g_M_strengthIn_5 E v1 v2 0 0 μ := by
    intro C E
    rfl
  exact key _ _
set_option maxRecDepth 100000 in
theorem e_M_strengthIn_5 (z : zZ) (d : Nat) (v1 : Int) (v2 : Int) (v3 : Int) (v4 : Int) (μ : Mu) : f_M_strengthIn_5 z d v1 v2 v3 v4 μ = (mC z d 202 [(2, 86), (0, v1), (0, v2)] μ).bind fun q1 => (bif decide (q1.1 ≤ v4) then (some (v3, q1.2)) else ((mC z d 201 [(0, v1), (0, v2)] q1.2).bind fun q2 => (gI (zw (q2.1 + v4)) 192 (gI (q2.2 94 ((zw (q2.1 + v4)).toNat)) 12 (f_M_strengthIn_5 z d v1 v2 (zw (v3 + (q2.2 87 ((q2.2 94 ((zw (q2.1 + v4)).toNat)).toNat)))) (zw (v4 + 1)) q2.2))))) := by
  show mE z d q_M_strengthIn 5 [(2, 86), (0, v1), (0, v2), (0, v3), (0, v4)] [] μ = _
  rw [mE_bk (M := q_M_strengthIn) k_M_strengthIn.1 k_M_strengthIn.2 [5] 400]
  have key : ∀ (C : Nat → List zv → Mu → mR) (E : Nat → List zv → List zv → Mu → mR), mbk C E q_M_strengthIn.1 q_M_strengthIn.2.1 z q_M_strengthIn.2.2.2 [5] 400 (zfind q_M_strengthIn.2.2.2 5) [(2, 86), (0, v1), (0, v2), (0, v3), (0, v4)] [] μ = (C 202 [(2, 86), (0, v1), (0, v2)] μ).bind fun q1 => (bif decide (q1.1 ≤ v4) then (some (v3, q1.2)) else ((C 201 [(0, v1), (0, v2)] q1.2).bind fun q2 => (gI (zw (q2.1 + v4)) 192 (gI (q2.2 94 ((zw (q2.1 + v4)).toNat)) 12 (g_M_strengthIn_5 E v1 v2 (zw (v3 + (q2.2 87 ((q2.2 94 ((zw (q2.1 + v4)).toNat)).toNat)))) (zw (v4 + 1)) q2.2))))) := by
    intro C E
    rfl
  exact key _ _
def g_M_byLaw_2 (E : Nat → List zv → List zv → Mu → mR) (v1 : Int) (v2 : Int) (v3 : Int) (μ : Mu) : mR := E 2 [(2, 86), (0, v1), (0, v2), (0, v3), (9, 0)] [] μ
noncomputable def f_M_byLaw_2 (z : zZ) (d : Nat) (v1 : Int) (v2 : Int) (v3 : Int) (μ : Mu) : mR := g_M_byLaw_2 (fun pc ls st μ => mE z d q_M_byLaw pc ls st μ) v1 v2 v3 μ
def g_M_byLaw_43 (E : Nat → List zv → List zv → Mu → mR) (v2 : Int) (v3 : Int) (μ : Mu) : mR := E 43 [(2, 86), (9, 0), (0, v2), (0, v3), (9, 0)] [] μ
noncomputable def f_M_byLaw_43 (z : zZ) (d : Nat) (v2 : Int) (v3 : Int) (μ : Mu) : mR := g_M_byLaw_43 (fun pc ls st μ => mE z d q_M_byLaw pc ls st μ) v2 v3 μ
def g_M_byLaw_80 (E : Nat → List zv → List zv → Mu → mR) (v4 : Int) (μ : Mu) : mR := E 80 [(9, 0), (9, 0), (9, 0), (9, 0), (0, v4)] [] μ
noncomputable def f_M_byLaw_80 (z : zZ) (d : Nat) (v4 : Int) (μ : Mu) : mR := g_M_byLaw_80 (fun pc ls st μ => mE z d q_M_byLaw pc ls st μ) v4 μ
def g_M_byLaw_82 (E : Nat → List zv → List zv → Mu → mR) (v100 : Int) (μ : Mu) : mR := E 82 [(9, 0), (9, 0), (9, 0), (9, 0), (9, 0)] [(0, v100)] μ
noncomputable def f_M_byLaw_82 (z : zZ) (d : Nat) (v100 : Int) (μ : Mu) : mR := g_M_byLaw_82 (fun pc ls st μ => mE z d q_M_byLaw pc ls st μ) v100 μ
def g_M_byLaw_83 (E : Nat → List zv → List zv → Mu → mR) (v1 : Int) (v2 : Int) (v3 : Int) (μ : Mu) : mR := E 83 [(2, 86), (0, v1), (0, v2), (0, v3), (9, 0)] [] μ
noncomputable def f_M_byLaw_83 (z : zZ) (d : Nat) (v1 : Int) (v2 : Int) (v3 : Int) (μ : Mu) : mR := g_M_byLaw_83 (fun pc ls st μ => mE z d q_M_byLaw pc ls st μ) v1 v2 v3 μ
theorem k_M_byLaw : zprK q_M_byLaw.2.2.2 = true ∧ zinc q_M_byLaw.2.2.2 = true := by decide +kernel
set_option maxRecDepth 100000 in
theorem c_M_byLaw (z : zZ) (d : Nat) (v1 : Int) (v2 : Int) (μ : Mu) : mC z (d + 1) 248 [(2, 86), (0, v1), (0, v2)] μ = f_M_byLaw_2 z d v1 v2 0 μ := by
  rw [mC_succ q_M_byLaw rfl rfl rfl]
  rw [mE_bk (M := q_M_byLaw) k_M_byLaw.1 k_M_byLaw.2 [2, 43, 80, 82, 83] 400]
  have key : ∀ (C : Nat → List zv → Mu → mR) (E : Nat → List zv → List zv → Mu → mR), mbk C E q_M_byLaw.1 q_M_byLaw.2.1 z q_M_byLaw.2.2.2 [2, 43, 80, 82, 83] 400 (zfind q_M_byLaw.2.2.2 0) (zentry q_M_byLaw.2.2.1 [(2, 86), (0, v1), (0, v2)]) [] μ = g_M_byLaw_2 E v1 v2 0 μ := by
    intro C E
    rfl
  exact key _ _
set_option maxRecDepth 100000 in
theorem e_M_byLaw_2 (z : zZ) (d : Nat) (v1 : Int) (v2 : Int) (v3 : Int) (μ : Mu) : f_M_byLaw_2 z d v1 v2 v3 μ = bif decide (μ 86 27 ≤ v3) then (some (0, μ)) else (gI v3 14 (bif !decide (μ 105 v3.toNat = v1) then (f_M_byLaw_83 z d v1 v2 v3 μ) else (gI v3 14 (gI v3 14 ((mC z d 249 [(2, 86), (0, μ 107 v3.toNat), (0, μ 108 v3.toNat)] μ).bind fun q1 => (bif decide (q1.1 = 1) then (f_M_byLaw_43 z d v2 v3 q1.2) else (f_M_byLaw_83 z d v1 v2 v3 q1.2))))))) := by
  show mE z d q_M_byLaw 2 [(2, 86), (0, v1), (0, v2), (0, v3), (9, 0)] [] μ = _
  rw [mE_bk (M := q_M_byLaw) k_M_byLaw.1 k_M_byLaw.2 [2, 43, 80, 82, 83] 400]
  have key : ∀ (C : Nat → List zv → Mu → mR) (E : Nat → List zv → List zv → Mu → mR), mbk C E q_M_byLaw.1 q_M_byLaw.2.1 z q_M_byLaw.2.2.2 [2, 43, 80, 82, 83] 400 (zfind q_M_byLaw.2.2.2 2) [(2, 86), (0, v1), (0, v2), (0, v3), (9, 0)] [] μ = bif decide (μ 86 27 ≤ v3) then (some (0, μ)) else (gI v3 14 (bif !decide (μ 105 v3.toNat = v1) then (g_M_byLaw_83 E v1 v2 v3 μ) else (gI v3 14 (gI v3 14 ((C 249 [(2, 86), (0, μ 107 v3.toNat), (0, μ 108 v3.toNat)] μ).bind fun q1 => (bif decide (q1.1 = 1) then (g_M_byLaw_43 E v2 v3 q1.2) else (g_M_byLaw_83 E v1 v2 v3 q1.2))))))) := by
    intro C E
    rfl
  exact key _ _
set_option maxRecDepth 100000 in
theorem e_M_byLaw_83 (z : zZ) (d : Nat) (v1 : Int) (v2 : Int) (v3 : Int) (μ : Mu) : f_M_byLaw_83 z d v1 v2 v3 μ = f_M_byLaw_2 z d v1 v2 (zw (v3 + 1)) μ := by
  show mE z d q_M_byLaw 83 [(2, 86), (0, v1), (0, v2), (0, v3), (9, 0)] [] μ = _
  rw [mE_bk (M := q_M_byLaw) k_M_byLaw.1 k_M_byLaw.2 [2, 43, 80, 82, 83] 400]
  have key : ∀ (C : Nat → List zv → Mu → mR) (E : Nat → List zv → List zv → Mu → mR), mbk C E q_M_byLaw.1 q_M_byLaw.2.1 z q_M_byLaw.2.2.2 [2, 43, 80, 82, 83] 400 (zfind q_M_byLaw.2.2.2 83) [(2, 86), (0, v1), (0, v2), (0, v3), (9, 0)] [] μ = g_M_byLaw_2 E v1 v2 (zw (v3 + 1)) μ := by
    intro C E
    rfl
  exact key _ _
set_option maxRecDepth 100000 in
theorem e_M_byLaw_43 (z : zZ) (d : Nat) (v2 : Int) (v3 : Int) (μ : Mu) : f_M_byLaw_43 z d v2 v3 μ = gI v3 14 (gI v3 14 ((mC z d 249 [(2, 86), (0, μ 106 v3.toNat), (0, μ 107 v3.toNat)] μ).bind fun q1 => (bif decide (0 ≤ q1.1) then (bif decide (q1.1 ≤ v2) then (f_M_byLaw_80 z d q1.1 q1.2) else (f_M_byLaw_82 z d v2 q1.2)) else (f_M_byLaw_82 z d 0 q1.2)))) := by
  show mE z d q_M_byLaw 43 [(2, 86), (9, 0), (0, v2), (0, v3), (9, 0)] [] μ = _
  rw [mE_bk (M := q_M_byLaw) k_M_byLaw.1 k_M_byLaw.2 [2, 43, 80, 82, 83] 400]
  have key : ∀ (C : Nat → List zv → Mu → mR) (E : Nat → List zv → List zv → Mu → mR), mbk C E q_M_byLaw.1 q_M_byLaw.2.1 z q_M_byLaw.2.2.2 [2, 43, 80, 82, 83] 400 (zfind q_M_byLaw.2.2.2 43) [(2, 86), (9, 0), (0, v2), (0, v3), (9, 0)] [] μ = gI v3 14 (gI v3 14 ((C 249 [(2, 86), (0, μ 106 v3.toNat), (0, μ 107 v3.toNat)] μ).bind fun q1 => (bif decide (0 ≤ q1.1) then (bif decide (q1.1 ≤ v2) then (g_M_byLaw_80 E q1.1 q1.2) else (g_M_byLaw_82 E v2 q1.2)) else (g_M_byLaw_82 E 0 q1.2)))) := by
    intro C E
    rfl
  exact key _ _
set_option maxRecDepth 100000 in
theorem e_M_byLaw_80 (z : zZ) (d : Nat) (v4 : Int) (μ : Mu) : f_M_byLaw_80 z d v4 μ = f_M_byLaw_82 z d v4 μ := by
  show mE z d q_M_byLaw 80 [(9, 0), (9, 0), (9, 0), (9, 0), (0, v4)] [] μ = _
  rw [mE_bk (M := q_M_byLaw) k_M_byLaw.1 k_M_byLaw.2 [2, 43, 80, 82, 83] 400]
  have key : ∀ (C : Nat → List zv → Mu → mR) (E : Nat → List zv → List zv → Mu → mR), mbk C E q_M_byLaw.1 q_M_byLaw.2.1 z q_M_byLaw.2.2.2 [2, 43, 80, 82, 83] 400 (zfind q_M_byLaw.2.2.2 80) [(9, 0), (9, 0), (9, 0), (9, 0), (0, v4)] [] μ = g_M_byLaw_82 E v4 μ := by
    intro C E
    rfl
  exact key _ _
set_option maxRecDepth 100000 in
theorem e_M_byLaw_82 (z : zZ) (d : Nat) (v100 : Int) (μ : Mu) : f_M_byLaw_82 z d v100 μ = some (v100, μ) := by
  show mE z d q_M_byLaw 82 [(9, 0), (9, 0), (9, 0), (9, 0), (9, 0)] [(0, v100)] μ = _
  rw [mE_bk (M := q_M_byLaw) k_M_byLaw.1 k_M_byLaw.2 [2, 43, 80, 82, 83] 400]
  have key : ∀ (C : Nat → List zv → Mu → mR) (E : Nat → List zv → List zv → Mu → mR), mbk C E q_M_byLaw.1 q_M_byLaw.2.1 z q_M_byLaw.2.2.2 [2, 43, 80, 82, 83] 400 (zfind q_M_byLaw.2.2.2 82) [(9, 0), (9, 0), (9, 0), (9, 0), (9, 0)] [(0, v100)] μ = some (v100, μ) := by
    intro C E
    rfl
  exact key _ _
def g_M_comesTo_16 (E : Nat → List zv → List zv → Mu → mR) (v2 : Int) (v3 : Int) (v4 : Int) (v5 : Int) (μ : Mu) : mR := E 16 [(2, 86), (9, 0), (0, v2), (0, v3), (0, v4), (0, v5), (9, 0), (9, 0)] [] μ
noncomputable def f_M_comesTo_16 (z : zZ) (d : Nat) (v2 : Int) (v3 : Int) (v4 : Int) (v5 : Int) (μ : Mu) : mR := g_M_comesTo_16 (fun pc ls st μ => mE z d q_M_comesTo pc ls st μ) v2 v3 v4 v5 μ
def g_M_comesTo_65 (E : Nat → List zv → List zv → Mu → mR) (v2 : Int) (v3 : Int) (v4 : Int) (v5 : Int) (v6 : Int) (v7 : Int) (μ : Mu) : mR := E 65 [(2, 86), (9, 0), (0, v2), (0, v3), (0, v4), (0, v5), (0, v6), (0, v7)] [] μ
noncomputable def f_M_comesTo_65 (z : zZ) (d : Nat) (v2 : Int) (v3 : Int) (v4 : Int) (v5 : Int) (v6 : Int) (v7 : Int) (μ : Mu) : mR := g_M_comesTo_65 (fun pc ls st μ => mE z d q_M_comesTo pc ls st μ) v2 v3 v4 v5 v6 v7 μ
def g_M_comesTo_87 (E : Nat → List zv → List zv → Mu → mR) (v2 : Int) (v3 : Int) (v4 : Int) (v5 : Int) (v101 : Int) (v102 : Int) (μ : Mu) : mR := E 87 [(2, 86), (9, 0), (0, v2), (0, v3), (0, v4), (0, v5), (9, 0), (9, 0)] [(0, v102), (0, v101), (2, 109)] μ
noncomputable def f_M_comesTo_87 (z : zZ) (d : Nat) (v2 : Int) (v3 : Int) (v4 : Int) (v5 : Int) (v101 : Int) (v102 : Int) (μ : Mu) : mR := g_M_comesTo_87 (fun pc ls st μ => mE z d q_M_comesTo pc ls st μ) v2 v3 v4 v5 v101 v102 μ
def g_M_comesTo_95 (E : Nat → List zv → List zv → Mu → mR) (v2 : Int) (v3 : Int) (v4 : Int) (v5 : Int) (v6 : Int) (v7 : Int) (μ : Mu) : mR := E 95 [(2, 86), (9, 0), (0, v2), (0, v3), (0, v4), (0, v5), (0, v6), (0, v7)] [] μ
noncomputable def f_M_comesTo_95 (z : zZ) (d : Nat) (v2 : Int) (v3 : Int) (v4 : Int) (v5 : Int) (v6 : Int) (v7 : Int) (μ : Mu) : mR := g_M_comesTo_95 (fun pc ls st μ => mE z d q_M_comesTo pc ls st μ) v2 v3 v4 v5 v6 v7 μ
def g_M_comesTo_137 (E : Nat → List zv → List zv → Mu → mR) (v2 : Int) (v3 : Int) (v4 : Int) (v5 : Int) (v6 : Int) (v7 : Int) (μ : Mu) : mR := E 137 [(2, 86), (9, 0), (0, v2), (0, v3), (0, v4), (0, v5), (0, v6), (0, v7)] [] μ
noncomputable def f_M_comesTo_137 (z : zZ) (d : Nat) (v2 : Int) (v3 : Int) (v4 : Int) (v5 : Int) (v6 : Int) (v7 : Int) (μ : Mu) : mR := g_M_comesTo_137 (fun pc ls st μ => mE z d q_M_comesTo pc ls st μ) v2 v3 v4 v5 v6 v7 μ
def g_M_comesTo_157 (E : Nat → List zv → List zv → Mu → mR) (v2 : Int) (v3 : Int) (v4 : Int) (v5 : Int) (v7 : Int) (v100 : Int) (v101 : Int) (μ : Mu) : mR := E 157 [(2, 86), (9, 0), (0, v2), (0, v3), (0, v4), (0, v5), (9, 0), (0, v7)] [(0, v101), (0, v100)] μ
noncomputable def f_M_comesTo_157 (z : zZ) (d : Nat) (v2 : Int) (v3 : Int) (v4 : Int) (v5 : Int) (v7 : Int) (v100 : Int) (v101 : Int) (μ : Mu) : mR := g_M_comesTo_157 (fun pc ls st μ => mE z d q_M_comesTo pc ls st μ) v2 v3 v4 v5 v7 v100 v101 μ
def g_M_comesTo_194 (E : Nat → List zv → List zv → Mu → mR) (v2 : Int) (v3 : Int) (v4 : Int) (v5 : Int) (v6 : Int) (μ : Mu) : mR := E 194 [(2, 86), (9, 0), (0, v2), (0, v3), (0, v4), (0, v5), (0, v6), (9, 0)] [] μ
noncomputable def f_M_comesTo_194 (z : zZ) (d : Nat) (v2 : Int) (v3 : Int) (v4 : Int) (v5 : Int) (v6 : Int) (μ : Mu) : mR := g_M_comesTo_194 (fun pc ls st μ => mE z d q_M_comesTo pc ls st μ) v2 v3 v4 v5 v6 μ
def g_M_comesTo_205 (E : Nat → List zv → List zv → Mu → mR) (v2 : Int) (v3 : Int) (v4 : Int) (v5 : Int) (v6 : Int) (μ : Mu) : mR := E 205 [(2, 86), (9, 0), (0, v2), (0, v3), (0, v4), (0, v5), (0, v6), (9, 0)] [] μ
noncomputable def f_M_comesTo_205 (z : zZ) (d : Nat) (v2 : Int) (v3 : Int) (v4 : Int) (v5 : Int) (v6 : Int) (μ : Mu) : mR := g_M_comesTo_205 (fun pc ls st μ => mE z d q_M_comesTo pc ls st μ) v2 v3 v4 v5 v6 μ
def g_M_comesTo_232 (E : Nat → List zv → List zv → Mu → mR) (v2 : Int) (v3 : Int) (v4 : Int) (v5 : Int) (μ : Mu) : mR := E 232 [(2, 86), (9, 0), (0, v2), (0, v3), (0, v4), (0, v5), (9, 0), (9, 0)] [] μ
noncomputable def f_M_comesTo_232 (z : zZ) (d : Nat) (v2 : Int) (v3 : Int) (v4 : Int) (v5 : Int) (μ : Mu) : mR := g_M_comesTo_232 (fun pc ls st μ => mE z d q_M_comesTo pc ls st μ) v2 v3 v4 v5 μ
theorem k_M_comesTo : zprK q_M_comesTo.2.2.2 = true ∧ zinc q_M_comesTo.2.2.2 = true := by decide +kernel
set_option maxRecDepth 100000 in
theorem c_M_comesTo (z : zZ) (d : Nat) (v1 : Int) (v2 : Int) (μ : Mu) : mC z (d + 1) 249 [(2, 86), (0, v1), (0, v2)] μ = f_M_comesTo_16 z d v2 0 (zw (220 * (z_div v1 220))) v1 μ := by
  rw [mC_succ q_M_comesTo rfl rfl rfl]
  rw [mE_bk (M := q_M_comesTo) k_M_comesTo.1 k_M_comesTo.2 [16, 65, 87, 95, 137, 157, 194, 205, 232] 400]
  have key : ∀ (C : Nat → List zv → Mu → mR) (E : Nat → List zv → List zv → Mu → mR), mbk C E q_M_comesTo.1 q_M_comesTo.2.1 z q_M_comesTo.2.2.2 [16, 65, 87, 95, 137, 157, 194, 205, 232] 400 (zfind q_M_comesTo.2.2.2 0) (zentry q_M_comesTo.2.2.1 [(2, 86), (0, v1), (0, v2)]) [] μ = g_M_comesTo_16 E v2 0 (zw (220 * (z_div v1 220))) v1 μ := by
    intro C E
    rfl
  exact key _ _
set_option maxRecDepth 100000 in
theorem e_M_comesTo_16 (z : zZ) (d : Nat) (v2 : Int) (v3 : Int) (v4 : Int) (v5 : Int) (μ : Mu) : f_M_comesTo_16 z d v2 v3 v4 v5 μ = bif decide (v2 ≤ v5) then (some (μ 109 0, μ)) else (gI v5 220 (gI v5 220 (bif decide (z_div (μ 104 v5.toNat) 1048576 = 0) then (f_M_comesTo_65 z d v2 v3 v4 (zw (v5 + 1)) (z_div (μ 104 v5.toNat) 1048576) (z_rem (μ 104 v5.toNat) 1048576) μ) else (bif !decide (z_div (μ 104 v5.toNat) 1048576 = 1) then (f_M_comesTo_95 z d v2 v3 v4 (zw (v5 + 1)) (z_div (μ 104 v5.toNat) 1048576) (z_rem (μ 104 v5.toNat) 1048576) μ) else (f_M_comesTo_65 z d v2 v3 v4 (zw (v5 + 1)) (z_div (μ 104 v5.toNat) 1048576) (z_rem (μ 104 v5.toNat) 1048576) μ))))) := by
  show mE z d q_M_comesTo 16 [(2, 86), (9, 0), (0, v2), (0, v3), (0, v4), (0, v5), (9, 0), (9, 0)] [] μ = _
  rw [mE_bk (M := q_M_comesTo) k_M_comesTo.1 k_M_comesTo.2 [16, 65, 87, 95, 137, 157, 194, 205, 232] 400]
  have key : ∀ (C : Nat → List zv → Mu → mR) (E : Nat → List zv → List zv → Mu → mR), mbk C E q_M_comesTo.1 q_M_comesTo.2.1 z q_M_comesTo.2.2.2 [16, 65, 87, 95, 137, 157, 194, 205, 232] 400 (zfind q_M_comesTo.2.2.2 16) [(2, 86), (9, 0), (0, v2), (0, v3), (0, v4), (0, v5), (9, 0), (9, 0)] [] μ = bif decide (v2 ≤ v5) then (some (μ 109 0, μ)) else (gI v5 220 (gI v5 220 (bif decide (z_div (μ 104 v5.toNat) 1048576 = 0) then (g_M_comesTo_65 E v2 v3 v4 (zw (v5 + 1)) (z_div (μ 104 v5.toNat) 1048576) (z_rem (μ 104 v5.toNat) 1048576) μ) else (bif !decide (z_div (μ 104 v5.toNat) 1048576 = 1) then (g_M_comesTo_95 E v2 v3 v4 (zw (v5 + 1)) (z_div (μ 104 v5.toNat) 1048576) (z_rem (μ 104 v5.toNat) 1048576) μ) else (g_M_comesTo_65 E v2 v3 v4 (zw (v5 + 1)) (z_div (μ 104 v5.toNat) 1048576) (z_rem (μ 104 v5.toNat) 1048576) μ))))) := by
    intro C E
    rfl
  exact key _ _
set_option maxRecDepth 100000 in
theorem e_M_comesTo_65 (z : zZ) (d : Nat) (v2 : Int) (v3 : Int) (v4 : Int) (v5 : Int) (v6 : Int) (v7 : Int) (μ : Mu) : f_M_comesTo_65 z d v2 v3 v4 v5 v6 v7 μ = bif !decide (v6 = 0) then (gI v7 10 (f_M_comesTo_87 z d v2 v3 v4 v5 v3 (μ 110 v7.toNat) μ)) else (f_M_comesTo_87 z d v2 v3 v4 v5 v3 v7 μ) := by
  show mE z d q_M_comesTo 65 [(2, 86), (9, 0), (0, v2), (0, v3), (0, v4), (0, v5), (0, v6), (0, v7)] [] μ = _
  rw [mE_bk (M := q_M_comesTo) k_M_comesTo.1 k_M_comesTo.2 [16, 65, 87, 95, 137, 157, 194, 205, 232] 400]
  have key : ∀ (C : Nat → List zv → Mu → mR) (E : Nat → List zv → List zv → Mu → mR), mbk C E q_M_comesTo.1 q_M_comesTo.2.1 z q_M_comesTo.2.2.2 [16, 65, 87, 95, 137, 157, 194, 205, 232] 400 (zfind q_M_comesTo.2.2.2 65) [(2, 86), (9, 0), (0, v2), (0, v3), (0, v4), (0, v5), (0, v6), (0, v7)] [] μ = bif !decide (v6 = 0) then (gI v7 10 (g_M_comesTo_87 E v2 v3 v4 v5 v3 (μ 110 v7.toNat) μ)) else (g_M_comesTo_87 E v2 v3 v4 v5 v3 v7 μ) := by
    intro C E
    rfl
  exact key _ _
set_option maxRecDepth 100000 in
theorem e_M_comesTo_95 (z : zZ) (d : Nat) (v2 : Int) (v3 : Int) (v4 : Int) (v5 : Int) (v6 : Int) (v7 : Int) (μ : Mu) : f_M_comesTo_95 z d v2 v3 v4 v5 v6 v7 μ = bif !decide (v6 = 10) then (bif decide (v6 = 11) then (f_M_comesTo_137 z d v2 v3 v4 v5 v6 v7 μ) else (bif !decide (v6 = 12) then (bif decide (v6 = 5) then (f_M_comesTo_194 z d v2 (zw (v3 - 1)) v4 v5 v6 μ) else (bif !decide (v6 = 6) then (f_M_comesTo_205 z d v2 (zw (v3 - 1)) v4 v5 v6 μ) else (f_M_comesTo_194 z d v2 (zw (v3 - 1)) v4 v5 v6 μ))) else (f_M_comesTo_137 z d v2 v3 v4 v5 v6 v7 μ))) else (gI (zw (v3 - 1)) 220 (gI (zw (v3 - 1)) 220 (f_M_comesTo_232 z d v2 v3 v4 v5 (zup μ 109 ((zw (v3 - 1)).toNat) (zw (1 - (μ 109 ((zw (v3 - 1)).toNat)))))))) := by
  show mE z d q_M_comesTo 95 [(2, 86), (9, 0), (0, v2), (0, v3), (0, v4), (0, v5), (0, v6), (0, v7)] [] μ = _
  rw [mE_bk (M := q_M_comesTo) k_M_comesTo.1 k_M_comesTo.2 [16, 65, 87, 95, 137, 157, 194, 205, 232] 400]
  have key : ∀ (C : Nat → List zv → Mu → mR) (E : Nat → List zv → List zv → Mu → mR), mbk C E q_M_comesTo.1 q_M_comesTo.2.1 z q_M_comesTo.2.2.2 [16, 65, 87, 95, 137, 157, 194, 205, 232] 400 (zfind q_M_comesTo.2.2.2 95) [(2, 86), (9, 0), (0, v2), (0, v3), (0, v4), (0, v5), (0, v6), (0, v7)] [] μ = bif !decide (v6 = 10) then (bif decide (v6 = 11) then (g_M_comesTo_137 E v2 v3 v4 v5 v6 v7 μ) else (bif !decide (v6 = 12) then (bif decide (v6 = 5) then (g_M_comesTo_194 E v2 (zw (v3 - 1)) v4 v5 v6 μ) else (bif !decide (v6 = 6) then (g_M_comesTo_205 E v2 (zw (v3 - 1)) v4 v5 v6 μ) else (g_M_comesTo_194 E v2 (zw (v3 - 1)) v4 v5 v6 μ))) else (g_M_comesTo_137 E v2 v3 v4 v5 v6 v7 μ))) else (gI (zw (v3 - 1)) 220 (gI (zw (v3 - 1)) 220 (g_M_comesTo_232 E v2 v3 v4 v5 (zup μ 109 ((zw (v3 - 1)).toNat) (zw (1 - (μ 109 ((zw (v3 - 1)).toNat)))))))) := by
    intro C E
    rfl
  exact key _ _
set_option maxRecDepth 100000 in
theorem e_M_comesTo_87 (z : zZ) (d : Nat) (v2 : Int) (v3 : Int) (v4 : Int) (v5 : Int) (v101 : Int) (v102 : Int) (μ : Mu) : f_M_comesTo_87 z d v2 v3 v4 v5 v101 v102 μ = gI v101 220 (f_M_comesTo_232 z d v2 (zw (v3 + 1)) v4 v5 (zup μ 109 v101.toNat v102)) := by
  show mE z d q_M_comesTo 87 [(2, 86), (9, 0), (0, v2), (0, v3), (0, v4), (0, v5), (9, 0), (9, 0)] [(0, v102), (0, v101), (2, 109)] μ = _
  rw [mE_bk (M := q_M_comesTo) k_M_comesTo.1 k_M_comesTo.2 [16, 65, 87, 95, 137, 157, 194, 205, 232] 400]
  have key : ∀ (C : Nat → List zv → Mu → mR) (E : Nat → List zv → List zv → Mu → mR), mbk C E q_M_comesTo.1 q_M_comesTo.2.1 z q_M_comesTo.2.2.2 [16, 65, 87, 95, 137, 157, 194, 205, 232] 400 (zfind q_M_comesTo.2.2.2 87) [(2, 86), (9, 0), (0, v2), (0, v3), (0, v4), (0, v5), (9, 0), (9, 0)] [(0, v102), (0, v101), (2, 109)] μ = gI v101 220 (g_M_comesTo_232 E v2 (zw (v3 + 1)) v4 v5 (zup μ 109 v101.toNat v102)) := by
    intro C E
    rfl
  exact key _ _
set_option maxRecDepth 100000 in
theorem e_M_comesTo_137 (z : zZ) (d : Nat) (v2 : Int) (v3 : Int) (v4 : Int) (v5 : Int) (v6 : Int) (v7 : Int) (μ : Mu) : f_M_comesTo_137 z d v2 v3 v4 v5 v6 v7 μ = gI (zw (v3 - 1)) 220 (bif !decide (v6 = 12) then (f_M_comesTo_157 z d v2 v3 v4 v5 v7 (μ 109 ((zw (v3 - 1)).toNat)) 0 μ) else (f_M_comesTo_157 z d v2 v3 v4 v5 v7 (μ 109 ((zw (v3 - 1)).toNat)) 1 μ)) := by
  show mE z d q_M_comesTo 137 [(2, 86), (9, 0), (0, v2), (0, v3), (0, v4), (0, v5), (0, v6), (0, v7)] [] μ = _
  rw [mE_bk (M := q_M_comesTo) k_M_comesTo.1 k_M_comesTo.2 [16, 65, 87, 95, 137, 157, 194, 205, 232] 400]
  have key : ∀ (C : Nat → List zv → Mu → mR) (E : Nat → List zv → List zv → Mu → mR), mbk C E q_M_comesTo.1 q_M_comesTo.2.1 z q_M_comesTo.2.2.2 [16, 65, 87, 95, 137, 157, 194, 205, 232] 400 (zfind q_M_comesTo.2.2.2 137) [(2, 86), (9, 0), (0, v2), (0, v3), (0, v4), (0, v5), (0, v6), (0, v7)] [] μ = gI (zw (v3 - 1)) 220 (bif !decide (v6 = 12) then (g_M_comesTo_157 E v2 v3 v4 v5 v7 (μ 109 ((zw (v3 - 1)).toNat)) 0 μ) else (g_M_comesTo_157 E v2 v3 v4 v5 v7 (μ 109 ((zw (v3 - 1)).toNat)) 1 μ)) := by
    intro C E
    rfl
  exact key _ _
set_option maxRecDepth 100000 in
theorem e_M_comesTo_194 (z : zZ) (d : Nat) (v2 : Int) (v3 : Int) (v4 : Int) (v5 : Int) (v6 : Int) (μ : Mu) : f_M_comesTo_194 z d v2 v3 v4 v5 v6 μ = gI v3 220 (bif !decide (μ 109 v3.toNat = 0) then (f_M_comesTo_205 z d v2 v3 v4 v5 v6 μ) else (some (0, μ))) := by
  show mE z d q_M_comesTo 194 [(2, 86), (9, 0), (0, v2), (0, v3), (0, v4), (0, v5), (0, v6), (9, 0)] [] μ = _
  rw [mE_bk (M := q_M_comesTo) k_M_comesTo.1 k_M_comesTo.2 [16, 65, 87, 95, 137, 157, 194, 205, 232] 400]
  have key : ∀ (C : Nat → List zv → Mu → mR) (E : Nat → List zv → List zv → Mu → mR), mbk C E q_M_comesTo.1 q_M_comesTo.2.1 z q_M_comesTo.2.2.2 [16, 65, 87, 95, 137, 157, 194, 205, 232] 400 (zfind q_M_comesTo.2.2.2 194) [(2, 86), (9, 0), (0, v2), (0, v3), (0, v4), (0, v5), (0, v6), (9, 0)] [] μ = gI v3 220 (bif !decide (μ 109 v3.toNat = 0) then (g_M_comesTo_205 E v2 v3 v4 v5 v6 μ) else (some (0, μ))) := by
    intro C E
    rfl
  exact key _ _
set_option maxRecDepth 100000 in
theorem e_M_comesTo_205 (z : zZ) (d : Nat) (v2 : Int) (v3 : Int) (v4 : Int) (v5 : Int) (v6 : Int) (μ : Mu) : f_M_comesTo_205 z d v2 v3 v4 v5 v6 μ = gI (zw (v3 - 1)) 220 (gI v3 220 ((mC z d 250 [(0, v6), (0, μ 109 ((zw (v3 - 1)).toNat)), (0, μ 109 v3.toNat)] μ).bind fun q1 => (gI (zw (v3 - 1)) 220 (f_M_comesTo_232 z d v2 v3 v4 v5 (zup q1.2 109 ((zw (v3 - 1)).toNat) q1.1))))) := by
  show mE z d q_M_comesTo 205 [(2, 86), (9, 0), (0, v2), (0, v3), (0, v4), (0, v5), (0, v6), (9, 0)] [] μ = _
  rw [mE_bk (M := q_M_comesTo) k_M_comesTo.1 k_M_comesTo.2 [16, 65, 87, 95, 137, 157, 194, 205, 232] 400]
  have key : ∀ (C : Nat → List zv → Mu → mR) (E : Nat → List zv → List zv → Mu → mR), mbk C E q_M_comesTo.1 q_M_comesTo.2.1 z q_M_comesTo.2.2.2 [16, 65, 87, 95, 137, 157, 194, 205, 232] 400 (zfind q_M_comesTo.2.2.2 205) [(2, 86), (9, 0), (0, v2), (0, v3), (0, v4), (0, v5), (0, v6), (9, 0)] [] μ = gI (zw (v3 - 1)) 220 (gI v3 220 ((C 250 [(0, v6), (0, μ 109 ((zw (v3 - 1)).toNat)), (0, μ 109 v3.toNat)] μ).bind fun q1 => (gI (zw (v3 - 1)) 220 (g_M_comesTo_232 E v2 v3 v4 v5 (zup q1.2 109 ((zw (v3 - 1)).toNat) q1.1))))) := by
    intro C E
    rfl
  exact key _ _
set_option maxRecDepth 100000 in
theorem e_M_comesTo_232 (z : zZ) (d : Nat) (v2 : Int) (v3 : Int) (v4 : Int) (v5 : Int) (μ : Mu) : f_M_comesTo_232 z d v2 v3 v4 v5 μ = f_M_comesTo_16 z d v2 v3 v4 v5 μ := by
  show mE z d q_M_comesTo 232 [(2, 86), (9, 0), (0, v2), (0, v3), (0, v4), (0, v5), (9, 0), (9, 0)] [] μ = _
  rw [mE_bk (M := q_M_comesTo) k_M_comesTo.1 k_M_comesTo.2 [16, 65, 87, 95, 137, 157, 194, 205, 232] 400]
  have key : ∀ (C : Nat → List zv → Mu → mR) (E : Nat → List zv → List zv → Mu → mR), mbk C E q_M_comesTo.1 q_M_comesTo.2.1 z q_M_comesTo.2.2.2 [16, 65, 87, 95, 137, 157, 194, 205, 232] 400 (zfind q_M_comesTo.2.2.2 232) [(2, 86), (9, 0), (0, v2), (0, v3), (0, v4), (0, v5), (9, 0), (9, 0)] [] μ = g_M_comesTo_16 E v2 v3 v4 v5 μ := by
    intro C E
    rfl
  exact key _ _
set_option maxRecDepth 100000 in
theorem e_M_comesTo_157 (z : zZ) (d : Nat) (v2 : Int) (v3 : Int) (v4 : Int) (v5 : Int) (v7 : Int) (v100 : Int) (v101 : Int) (μ : Mu) : f_M_comesTo_157 z d v2 v3 v4 v5 v7 v100 v101 μ = bif !decide (v100 = v101) then (f_M_comesTo_232 z d v2 (zw (v3 - 1)) v4 v5 μ) else (f_M_comesTo_232 z d v2 v3 v4 (zw (v4 + v7)) μ) := by
  show mE z d q_M_comesTo 157 [(2, 86), (9, 0), (0, v2), (0, v3), (0, v4), (0, v5), (9, 0), (0, v7)] [(0, v101), (0, v100)] μ = _
  rw [mE_bk (M := q_M_comesTo) k_M_comesTo.1 k_M_comesTo.2 [16, 65, 87, 95, 137, 157, 194, 205, 232] 400]
  have key : ∀ (C : Nat → List zv → Mu → mR) (E : Nat → List zv → List zv → Mu → mR), mbk C E q_M_comesTo.1 q_M_comesTo.2.1 z q_M_comesTo.2.2.2 [16, 65, 87, 95, 137, 157, 194, 205, 232] 400 (zfind q_M_comesTo.2.2.2 157) [(2, 86), (9, 0), (0, v2), (0, v3), (0, v4), (0, v5), (9, 0), (0, v7)] [(0, v101), (0, v100)] μ = bif !decide (v100 = v101) then (g_M_comesTo_232 E v2 (zw (v3 - 1)) v4 v5 μ) else (g_M_comesTo_232 E v2 v3 v4 (zw (v4 + v7)) μ) := by
    intro C E
    rfl
  exact key _ _
