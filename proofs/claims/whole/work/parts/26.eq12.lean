def g_M_exchange_16 (E : Nat → List zv → List zv → Mu → mR) (μ : Mu) : mR := E 16 [(9, 0), (9, 0), (9, 0), (9, 0), (9, 0), (9, 0), (9, 0), (9, 0), (9, 0), (9, 0), (9, 0), (9, 0), (9, 0)] [] μ
noncomputable def f_M_exchange_16 (z : zZ) (d : Nat) (μ : Mu) : mR := g_M_exchange_16 (fun pc ls st μ => mE z d q_M_exchange pc ls st μ) μ
def g_M_exchange_18 (E : Nat → List zv → List zv → Mu → mR) (v1 : Int) (v2 : Int) (μ : Mu) : mR := E 18 [(2, 86), (0, v1), (0, v2), (9, 0), (9, 0), (9, 0), (9, 0), (9, 0), (9, 0), (9, 0), (9, 0), (9, 0), (9, 0)] [] μ
noncomputable def f_M_exchange_18 (z : zZ) (d : Nat) (v1 : Int) (v2 : Int) (μ : Mu) : mR := g_M_exchange_18 (fun pc ls st μ => mE z d q_M_exchange pc ls st μ) v1 v2 μ
def g_M_exchange_49 (E : Nat → List zv → List zv → Mu → mR) (v1 : Int) (v2 : Int) (v3 : Int) (v4 : Int) (v5 : Int) (v6 : Int) (v7 : Int) (v8 : Int) (μ : Mu) : mR := E 49 [(2, 86), (0, v1), (0, v2), (0, v3), (0, v4), (0, v5), (0, v6), (0, v7), (0, v8), (9, 0), (9, 0), (9, 0), (9, 0)] [] μ
noncomputable def f_M_exchange_49 (z : zZ) (d : Nat) (v1 : Int) (v2 : Int) (v3 : Int) (v4 : Int) (v5 : Int) (v6 : Int) (v7 : Int) (v8 : Int) (μ : Mu) : mR := g_M_exchange_49 (fun pc ls st μ => mE z d q_M_exchange pc ls st μ) v1 v2 v3 v4 v5 v6 v7 v8 μ
def g_M_exchange_86 (E : Nat → List zv → List zv → Mu → mR) (v1 : Int) (v2 : Int) (v3 : Int) (v4 : Int) (v5 : Int) (v6 : Int) (v7 : Int) (v8 : Int) (v9 : Int) (v10 : Int) (μ : Mu) : mR := E 86 [(2, 86), (0, v1), (0, v2), (0, v3), (0, v4), (0, v5), (0, v6), (0, v7), (0, v8), (0, v9), (0, v10), (9, 0), (9, 0)] [] μ
noncomputable def f_M_exchange_86 (z : zZ) (d : Nat) (v1 : Int) (v2 : Int) (v3 : Int) (v4 : Int) (v5 : Int) (v6 : Int) (v7 : Int) (v8 : Int) (v9 : Int) (v10 : Int) (μ : Mu) : mR := g_M_exchange_86 (fun pc ls st μ => mE z d q_M_exchange pc ls st μ) v1 v2 v3 v4 v5 v6 v7 v8 v9 v10 μ
def g_M_exchange_165 (E : Nat → List zv → List zv → Mu → mR) (v1 : Int) (v2 : Int) (v3 : Int) (v4 : Int) (v5 : Int) (v6 : Int) (v7 : Int) (v8 : Int) (v11 : Int) (v12 : Int) (μ : Mu) : mR := E 165 [(2, 86), (0, v1), (0, v2), (0, v3), (0, v4), (0, v5), (0, v6), (0, v7), (0, v8), (9, 0), (9, 0), (0, v11), (0, v12)] [] μ
noncomputable def f_M_exchange_165 (z : zZ) (d : Nat) (v1 : Int) (v2 : Int) (v3 : Int) (v4 : Int) (v5 : Int) (v6 : Int) (v7 : Int) (v8 : Int) (v11 : Int) (v12 : Int) (μ : Mu) : mR := g_M_exchange_165 (fun pc ls st μ => mE z d q_M_exchange pc ls st μ) v1 v2 v3 v4 v5 v6 v7 v8 v11 v12 μ
def g_M_exchange_190 (E : Nat → List zv → List zv → Mu → mR) (v1 : Int) (v2 : Int) (v3 : Int) (v4 : Int) (v5 : Int) (v8 : Int) (v11 : Int) (v12 : Int) (μ : Mu) : mR := E 190 [(2, 86), (0, v1), (0, v2), (0, v3), (0, v4), (0, v5), (9, 0), (9, 0), (0, v8), (9, 0), (9, 0), (0, v11), (0, v12)] [] μ
noncomputable def f_M_exchange_190 (z : zZ) (d : Nat) (v1 : Int) (v2 : Int) (v3 : Int) (v4 : Int) (v5 : Int) (v8 : Int) (v11 : Int) (v12 : Int) (μ : Mu) : mR := g_M_exchange_190 (fun pc ls st μ => mE z d q_M_exchange pc ls st μ) v1 v2 v3 v4 v5 v8 v11 v12 μ
def g_M_exchange_201 (E : Nat → List zv → List zv → Mu → mR) (v1 : Int) (v2 : Int) (v3 : Int) (v4 : Int) (v5 : Int) (v6 : Int) (v7 : Int) (v8 : Int) (μ : Mu) : mR := E 201 [(2, 86), (0, v1), (0, v2), (0, v3), (0, v4), (0, v5), (0, v6), (0, v7), (0, v8), (9, 0), (9, 0), (9, 0), (9, 0)] [] μ
noncomputable def f_M_exchange_201 (z : zZ) (d : Nat) (v1 : Int) (v2 : Int) (v3 : Int) (v4 : Int) (v5 : Int) (v6 : Int) (v7 : Int) (v8 : Int) (μ : Mu) : mR := g_M_exchange_201 (fun pc ls st μ => mE z d q_M_exchange pc ls st μ) v1 v2 v3 v4 v5 v6 v7 v8 μ
def g_M_exchange_207 (E : Nat → List zv → List zv → Mu → mR) (v2 : Int) (v5 : Int) (v6 : Int) (v7 : Int) (μ : Mu) : mR := E 207 [(9, 0), (9, 0), (0, v2), (9, 0), (9, 0), (0, v5), (0, v6), (0, v7), (9, 0), (9, 0), (9, 0), (9, 0), (9, 0)] [] μ
noncomputable def f_M_exchange_207 (z : zZ) (d : Nat) (v2 : Int) (v5 : Int) (v6 : Int) (v7 : Int) (μ : Mu) : mR := g_M_exchange_207 (fun pc ls st μ => mE z d q_M_exchange pc ls st μ) v2 v5 v6 v7 μ
def g_M_exchange_214 (E : Nat → List zv → List zv → Mu → mR) (v2 : Int) (v6 : Int) (v7 : Int) (μ : Mu) : mR := E 214 [(9, 0), (9, 0), (0, v2), (9, 0), (9, 0), (9, 0), (0, v6), (0, v7), (9, 0), (9, 0), (9, 0), (9, 0), (9, 0)] [] μ
noncomputable def f_M_exchange_214 (z : zZ) (d : Nat) (v2 : Int) (v6 : Int) (v7 : Int) (μ : Mu) : mR := g_M_exchange_214 (fun pc ls st μ => mE z d q_M_exchange pc ls st μ) v2 v6 v7 μ
def g_M_exchange_225 (E : Nat → List zv → List zv → Mu → mR) (v2 : Int) (v6 : Int) (v7 : Int) (μ : Mu) : mR := E 225 [(9, 0), (9, 0), (0, v2), (9, 0), (9, 0), (9, 0), (0, v6), (0, v7), (9, 0), (9, 0), (9, 0), (9, 0), (9, 0)] [] μ
noncomputable def f_M_exchange_225 (z : zZ) (d : Nat) (v2 : Int) (v6 : Int) (v7 : Int) (μ : Mu) : mR := g_M_exchange_225 (fun pc ls st μ => mE z d q_M_exchange pc ls st μ) v2 v6 v7 μ
def g_M_exchange_238 (E : Nat → List zv → List zv → Mu → mR) (v2 : Int) (v6 : Int) (v7 : Int) (μ : Mu) : mR := E 238 [(9, 0), (9, 0), (0, v2), (9, 0), (9, 0), (9, 0), (0, v6), (0, v7), (9, 0), (9, 0), (9, 0), (9, 0), (9, 0)] [] μ
noncomputable def f_M_exchange_238 (z : zZ) (d : Nat) (v2 : Int) (v6 : Int) (v7 : Int) (μ : Mu) : mR := g_M_exchange_238 (fun pc ls st μ => mE z d q_M_exchange pc ls st μ) v2 v6 v7 μ
def g_M_exchange_251 (E : Nat → List zv → List zv → Mu → mR) (v7 : Int) (μ : Mu) : mR := E 251 [(9, 0), (9, 0), (9, 0), (9, 0), (9, 0), (9, 0), (9, 0), (0, v7), (9, 0), (9, 0), (9, 0), (9, 0), (9, 0)] [] μ
noncomputable def f_M_exchange_251 (z : zZ) (d : Nat) (v7 : Int) (μ : Mu) : mR := g_M_exchange_251 (fun pc ls st μ => mE z d q_M_exchange pc ls st μ) v7 μ
def g_M_exchange_253 (E : Nat → List zv → List zv → Mu → mR) (v100 : Int) (μ : Mu) : mR := E 253 [(9, 0), (9, 0), (9, 0), (9, 0), (9, 0), (9, 0), (9, 0), (9, 0), (9, 0), (9, 0), (9, 0), (9, 0), (9, 0)] [(0, v100)] μ
noncomputable def f_M_exchange_253 (z : zZ) (d : Nat) (v100 : Int) (μ : Mu) : mR := g_M_exchange_253 (fun pc ls st μ => mE z d q_M_exchange pc ls st μ) v100 μ
theorem k_M_exchange : zprK q_M_exchange.2.2.2 = true ∧ zinc q_M_exchange.2.2.2 = true := by decide +kernel
set_option maxRecDepth 100000 in
theorem c_M_exchange (z : zZ) (d : Nat) (v1 : Int) (v2 : Int) (μ : Mu) : mC z (d + 1) 270 [(2, 86), (0, v1), (0, v2)] μ = (mC z d 185 [(0, v1)] μ).bind fun q1 => (bif decide (q1.1 = 0) then (f_M_exchange_16 z d q1.2) else ((mC z d 183 [(0, v2), (0, 0), (0, 3)] q1.2).bind fun q2 => (bif !decide (q2.1 = 0) then (f_M_exchange_18 z d v1 v2 q2.2) else (f_M_exchange_16 z d q2.2)))) := by
  rw [mC_succ q_M_exchange rfl rfl rfl]
  rw [mE_bk (M := q_M_exchange) k_M_exchange.1 k_M_exchange.2 [16, 18, 49, 86, 165, 190, 201, 207, 214, 225, 238, 251, 253] 400]
  have key : ∀ (C : Nat → List zv → Mu → mR) (E : Nat → List zv → List zv → Mu → mR), mbk C E q_M_exchange.1 q_M_exchange.2.1 z q_M_exchange.2.2.2 [16, 18, 49, 86, 165, 190, 201, 207, 214, 225, 238, 251, 253] 400 (zfind q_M_exchange.2.2.2 0) (zentry q_M_exchange.2.2.1 [(2, 86), (0, v1), (0, v2)]) [] μ = (C 185 [(0, v1)] μ).bind fun q1 => (bif decide (q1.1 = 0) then (g_M_exchange_16 E q1.2) else ((C 183 [(0, v2), (0, 0), (0, 3)] q1.2).bind fun q2 => (bif !decide (q2.1 = 0) then (g_M_exchange_18 E v1 v2 q2.2) else (g_M_exchange_16 E q2.2)))) := by
    intro C E
    rfl
  exact key _ _
set_option maxRecDepth 100000 in
theorem e_M_exchange_16 (z : zZ) (d : Nat) (μ : Mu) : f_M_exchange_16 z d μ = some ((-1), μ) := by
  show mE z d q_M_exchange 16 [(9, 0), (9, 0), (9, 0), (9, 0), (9, 0), (9, 0), (9, 0), (9, 0), (9, 0), (9, 0), (9, 0), (9, 0), (9, 0)] [] μ = _
  rw [mE_bk (M := q_M_exchange) k_M_exchange.1 k_M_exchange.2 [16, 18, 49, 86, 165, 190, 201, 207, 214, 225, 238, 251, 253] 400]
  have key : ∀ (C : Nat → List zv → Mu → mR) (E : Nat → List zv → List zv → Mu → mR), mbk C E q_M_exchange.1 q_M_exchange.2.1 z q_M_exchange.2.2.2 [16, 18, 49, 86, 165, 190, 201, 207, 214, 225, 238, 251, 253] 400 (zfind q_M_exchange.2.2.2 16) [(9, 0), (9, 0), (9, 0), (9, 0), (9, 0), (9, 0), (9, 0), (9, 0), (9, 0), (9, 0), (9, 0), (9, 0), (9, 0)] [] μ = some ((-1), μ) := by
    intro C E
    rfl
  exact key _ _
set_option maxRecDepth 100000 in
theorem e_M_exchange_18 (z : zZ) (d : Nat) (v1 : Int) (v2 : Int) (μ : Mu) : f_M_exchange_18 z d v1 v2 μ = (mC z d 263 [(2, 86), (0, v1)] μ).bind fun q1 => ((mC z d 263 [(2, 86), (0, zw (1 - v1))] q1.2).bind fun q2 => ((mC z d 252 [(2, 86)] q2.2).bind fun q3 => (f_M_exchange_49 z d v1 v2 q1.1 q2.1 0 ((-1)) 0 0 q3.2))) := by
  show mE z d q_M_exchange 18 [(2, 86), (0, v1), (0, v2), (9, 0), (9, 0), (9, 0), (9, 0), (9, 0), (9, 0), (9, 0), (9, 0), (9, 0), (9, 0)] [] μ = _
  rw [mE_bk (M := q_M_exchange) k_M_exchange.1 k_M_exchange.2 [16, 18, 49, 86, 165, 190, 201, 207, 214, 225, 238, 251, 253] 400]
  have key : ∀ (C : Nat → List zv → Mu → mR) (E : Nat → List zv → List zv → Mu → mR), mbk C E q_M_exchange.1 q_M_exchange.2.1 z q_M_exchange.2.2.2 [16, 18, 49, 86, 165, 190, 201, 207, 214, 225, 238, 251, 253] 400 (zfind q_M_exchange.2.2.2 18) [(2, 86), (0, v1), (0, v2), (9, 0), (9, 0), (9, 0), (9, 0), (9, 0), (9, 0), (9, 0), (9, 0), (9, 0), (9, 0)] [] μ = (C 263 [(2, 86), (0, v1)] μ).bind fun q1 => ((C 263 [(2, 86), (0, zw (1 - v1))] q1.2).bind fun q2 => ((C 252 [(2, 86)] q2.2).bind fun q3 => (g_M_exchange_49 E v1 v2 q1.1 q2.1 0 ((-1)) 0 0 q3.2))) := by
    intro C E
    rfl
  exact key _ _
set_option maxRecDepth 100000 in
theorem e_M_exchange_49 (z : zZ) (d : Nat) (v1 : Int) (v2 : Int) (v3 : Int) (v4 : Int) (v5 : Int) (v6 : Int) (v7 : Int) (v8 : Int) (μ : Mu) : f_M_exchange_49 z d v1 v2 v3 v4 v5 v6 v7 v8 μ = bif decide (144 ≤ v8) then (f_M_exchange_207 z d v2 v5 v6 v7 μ) else ((mC z d 271 [(2, 86), (0, v1), (0, z_div v8 12), (0, z_rem v8 12)] μ).bind fun q1 => (bif !decide (q1.1 = 0) then (f_M_exchange_86 z d v1 v2 v3 v4 v5 v6 v7 v8 (z_div v8 12) (z_rem v8 12) q1.2) else (f_M_exchange_201 z d v1 v2 v3 v4 v5 v6 v7 v8 q1.2))) := by
  show mE z d q_M_exchange 49 [(2, 86), (0, v1), (0, v2), (0, v3), (0, v4), (0, v5), (0, v6), (0, v7), (0, v8), (9, 0), (9, 0), (9, 0), (9, 0)] [] μ = _
  rw [mE_bk (M := q_M_exchange) k_M_exchange.1 k_M_exchange.2 [16, 18, 49, 86, 165, 190, 201, 207, 214, 225, 238, 251, 253] 400]
  have key : ∀ (C : Nat → List zv → Mu → mR) (E : Nat → List zv → List zv → Mu → mR), mbk C E q_M_exchange.1 q_M_exchange.2.1 z q_M_exchange.2.2.2 [16, 18, 49, 86, 165, 190, 201, 207, 214, 225, 238, 251, 253] 400 (zfind q_M_exchange.2.2.2 49) [(2, 86), (0, v1), (0, v2), (0, v3), (0, v4), (0, v5), (0, v6), (0, v7), (0, v8), (9, 0), (9, 0), (9, 0), (9, 0)] [] μ = bif decide (144 ≤ v8) then (g_M_exchange_207 E v2 v5 v6 v7 μ) else ((C 271 [(2, 86), (0, v1), (0, z_div v8 12), (0, z_rem v8 12)] μ).bind fun q1 => (bif !decide (q1.1 = 0) then (g_M_exchange_86 E v1 v2 v3 v4 v5 v6 v7 v8 (z_div v8 12) (z_rem v8 12) q1.2) else (g_M_exchange_201 E v1 v2 v3 v4 v5 v6 v7 v8 q1.2))) := by
    intro C E
    rfl
  exact key _ _
set_option maxRecDepth 100000 in
theorem e_M_exchange_207 (z : zZ) (d : Nat) (v2 : Int) (v5 : Int) (v6 : Int) (v7 : Int) (μ : Mu) : f_M_exchange_207 z d v2 v5 v6 v7 μ = bif !decide (v2 = 0) then (f_M_exchange_214 z d v2 v6 v7 μ) else (some (v5, μ)) := by
  show mE z d q_M_exchange 207 [(9, 0), (9, 0), (0, v2), (9, 0), (9, 0), (0, v5), (0, v6), (0, v7), (9, 0), (9, 0), (9, 0), (9, 0), (9, 0)] [] μ = _
  rw [mE_bk (M := q_M_exchange) k_M_exchange.1 k_M_exchange.2 [16, 18, 49, 86, 165, 190, 201, 207, 214, 225, 238, 251, 253] 400]
  have key : ∀ (C : Nat → List zv → Mu → mR) (E : Nat → List zv → List zv → Mu → mR), mbk C E q_M_exchange.1 q_M_exchange.2.1 z q_M_exchange.2.2.2 [16, 18, 49, 86, 165, 190, 201, 207, 214, 225, 238, 251, 253] 400 (zfind q_M_exchange.2.2.2 207) [(9, 0), (9, 0), (0, v2), (9, 0), (9, 0), (0, v5), (0, v6), (0, v7), (9, 0), (9, 0), (9, 0), (9, 0), (9, 0)] [] μ = bif !decide (v2 = 0) then (g_M_exchange_214 E v2 v6 v7 μ) else (some (v5, μ)) := by
    intro C E
    rfl
  exact key _ _
set_option maxRecDepth 100000 in
theorem e_M_exchange_86 (z : zZ) (d : Nat) (v1 : Int) (v2 : Int) (v3 : Int) (v4 : Int) (v5 : Int) (v6 : Int) (v7 : Int) (v8 : Int) (v9 : Int) (v10 : Int) (μ : Mu) : f_M_exchange_86 z d v1 v2 v3 v4 v5 v6 v7 v8 v9 v10 μ = (mC z d 272 [(2, 86), (0, v1), (0, v9), (0, v10)] μ).bind fun q1 => ((mC z d 263 [(2, 86), (0, v1)] q1.2).bind fun q2 => ((mC z d 263 [(2, 86), (0, zw (1 - v1))] q2.2).bind fun q3 => ((mC z d 254 [(2, 86)] q3.2).bind fun q4 => ((mC z d 246 [(2, 86), (0, v1)] q4.2).bind fun q5 => ((mC z d 248 [(2, 86), (0, 119), (0, 999)] (zup (zup q5.2 110 7 v9) 110 9 v10)).bind fun q6 => (bif decide (zw (q2.1 - v3) ≤ q6.1) then (f_M_exchange_201 z d v1 v2 v3 v4 v5 v6 v7 v8 q6.2) else (bif decide (0 < zw (q3.1 - v4)) then (f_M_exchange_165 z d v1 v2 v3 v4 v5 v6 v7 v8 (zw (q2.1 - v3)) (zw (q3.1 - v4)) q6.2) else (f_M_exchange_201 z d v1 v2 v3 v4 v5 v6 v7 v8 q6.2)))))))) := by
  show mE z d q_M_exchange 86 [(2, 86), (0, v1), (0, v2), (0, v3), (0, v4), (0, v5), (0, v6), (0, v7), (0, v8), (0, v9), (0, v10), (9, 0), (9, 0)] [] μ = _
  rw [mE_bk (M := q_M_exchange) k_M_exchange.1 k_M_exchange.2 [16, 18, 49, 86, 165, 190, 201, 207, 214, 225, 238, 251, 253] 400]
  have key : ∀ (C : Nat → List zv → Mu → mR) (E : Nat → List zv → List zv → Mu → mR), mbk C E q_M_exchange.1 q_M_exchange.2.1 z q_M_exchange.2.2.2 [16, 18, 49, 86, 165, 190, 201, 207, 214, 225, 238, 251, 253] 400 (zfind q_M_exchange.2.2.2 86) [(2, 86), (0, v1), (0, v2), (0, v3), (0, v4), (0, v5), (0, v6), (0, v7), (0, v8), (0, v9), (0, v10), (9, 0), (9, 0)] [] μ = (C 272 [(2, 86), (0, v1), (0, v9), (0, v10)] μ).bind fun q1 => ((C 263 [(2, 86), (0, v1)] q1.2).bind fun q2 => ((C 263 [(2, 86), (0, zw (1 - v1))] q2.2).bind fun q3 => ((C 254 [(2, 86)] q3.2).bind fun q4 => ((C 246 [(2, 86), (0, v1)] q4.2).bind fun q5 => ((C 248 [(2, 86), (0, 119), (0, 999)] (zup (zup q5.2 110 7 v9) 110 9 v10)).bind fun q6 => (bif decide (zw (q2.1 - v3) ≤ q6.1) then (g_M_exchange_201 E v1 v2 v3 v4 v5 v6 v7 v8 q6.2) else (bif decide (0 < zw (q3.1 - v4)) then (g_M_exchange_165 E v1 v2 v3 v4 v5 v6 v7 v8 (zw (q2.1 - v3)) (zw (q3.1 - v4)) q6.2) else (g_M_exchange_201 E v1 v2 v3 v4 v5 v6 v7 v8 q6.2)))))))) := by
    intro C E
    rfl
  exact key _ _
set_option maxRecDepth 100000 in
theorem e_M_exchange_201 (z : zZ) (d : Nat) (v1 : Int) (v2 : Int) (v3 : Int) (v4 : Int) (v5 : Int) (v6 : Int) (v7 : Int) (v8 : Int) (μ : Mu) : f_M_exchange_201 z d v1 v2 v3 v4 v5 v6 v7 v8 μ = f_M_exchange_49 z d v1 v2 v3 v4 v5 v6 v7 (zw (v8 + 1)) μ := by
  show mE z d q_M_exchange 201 [(2, 86), (0, v1), (0, v2), (0, v3), (0, v4), (0, v5), (0, v6), (0, v7), (0, v8), (9, 0), (9, 0), (9, 0), (9, 0)] [] μ = _
  rw [mE_bk (M := q_M_exchange) k_M_exchange.1 k_M_exchange.2 [16, 18, 49, 86, 165, 190, 201, 207, 214, 225, 238, 251, 253] 400]
  have key : ∀ (C : Nat → List zv → Mu → mR) (E : Nat → List zv → List zv → Mu → mR), mbk C E q_M_exchange.1 q_M_exchange.2.1 z q_M_exchange.2.2.2 [16, 18, 49, 86, 165, 190, 201, 207, 214, 225, 238, 251, 253] 400 (zfind q_M_exchange.2.2.2 201) [(2, 86), (0, v1), (0, v2), (0, v3), (0, v4), (0, v5), (0, v6), (0, v7), (0, v8), (9, 0), (9, 0), (9, 0), (9, 0)] [] μ = g_M_exchange_49 E v1 v2 v3 v4 v5 v6 v7 (zw (v8 + 1)) μ := by
    intro C E
    rfl
  exact key _ _
set_option maxRecDepth 100000 in
theorem e_M_exchange_214 (z : zZ) (d : Nat) (v2 : Int) (v6 : Int) (v7 : Int) (μ : Mu) : f_M_exchange_214 z d v2 v6 v7 μ = bif !decide (v6 = (-1)) then (f_M_exchange_225 z d v2 v6 v7 μ) else (f_M_exchange_253 z d ((-2)) μ) := by
  show mE z d q_M_exchange 214 [(9, 0), (9, 0), (0, v2), (9, 0), (9, 0), (9, 0), (0, v6), (0, v7), (9, 0), (9, 0), (9, 0), (9, 0), (9, 0)] [] μ = _
  rw [mE_bk (M := q_M_exchange) k_M_exchange.1 k_M_exchange.2 [16, 18, 49, 86, 165, 190, 201, 207, 214, 225, 238, 251, 253] 400]
  have key : ∀ (C : Nat → List zv → Mu → mR) (E : Nat → List zv → List zv → Mu → mR), mbk C E q_M_exchange.1 q_M_exchange.2.1 z q_M_exchange.2.2.2 [16, 18, 49, 86, 165, 190, 201, 207, 214, 225, 238, 251, 253] 400 (zfind q_M_exchange.2.2.2 214) [(9, 0), (9, 0), (0, v2), (9, 0), (9, 0), (9, 0), (0, v6), (0, v7), (9, 0), (9, 0), (9, 0), (9, 0), (9, 0)] [] μ = bif !decide (v6 = (-1)) then (g_M_exchange_225 E v2 v6 v7 μ) else (g_M_exchange_253 E ((-2)) μ) := by
    intro C E
    rfl
  exact key _ _
set_option maxRecDepth 100000 in
theorem e_M_exchange_165 (z : zZ) (d : Nat) (v1 : Int) (v2 : Int) (v3 : Int) (v4 : Int) (v5 : Int) (v6 : Int) (v7 : Int) (v8 : Int) (v11 : Int) (v12 : Int) (μ : Mu) : f_M_exchange_165 z d v1 v2 v3 v4 v5 v6 v7 v8 v11 v12 μ = bif decide (v6 = (-1)) then (f_M_exchange_190 z d v1 v2 v3 v4 (zw (v5 + 1)) v8 v11 v12 μ) else (bif decide (v7 < zw (v11 + v12)) then (f_M_exchange_190 z d v1 v2 v3 v4 (zw (v5 + 1)) v8 v11 v12 μ) else (f_M_exchange_201 z d v1 v2 v3 v4 (zw (v5 + 1)) v6 v7 v8 μ)) := by
  show mE z d q_M_exchange 165 [(2, 86), (0, v1), (0, v2), (0, v3), (0, v4), (0, v5), (0, v6), (0, v7), (0, v8), (9, 0), (9, 0), (0, v11), (0, v12)] [] μ = _
  rw [mE_bk (M := q_M_exchange) k_M_exchange.1 k_M_exchange.2 [16, 18, 49, 86, 165, 190, 201, 207, 214, 225, 238, 251, 253] 400]
  have key : ∀ (C : Nat → List zv → Mu → mR) (E : Nat → List zv → List zv → Mu → mR), mbk C E q_M_exchange.1 q_M_exchange.2.1 z q_M_exchange.2.2.2 [16, 18, 49, 86, 165, 190, 201, 207, 214, 225, 238, 251, 253] 400 (zfind q_M_exchange.2.2.2 165) [(2, 86), (0, v1), (0, v2), (0, v3), (0, v4), (0, v5), (0, v6), (0, v7), (0, v8), (9, 0), (9, 0), (0, v11), (0, v12)] [] μ = bif decide (v6 = (-1)) then (g_M_exchange_190 E v1 v2 v3 v4 (zw (v5 + 1)) v8 v11 v12 μ) else (bif decide (v7 < zw (v11 + v12)) then (g_M_exchange_190 E v1 v2 v3 v4 (zw (v5 + 1)) v8 v11 v12 μ) else (g_M_exchange_201 E v1 v2 v3 v4 (zw (v5 + 1)) v6 v7 v8 μ)) := by
    intro C E
    rfl
  exact key _ _
set_option maxRecDepth 100000 in
theorem e_M_exchange_225 (z : zZ) (d : Nat) (v2 : Int) (v6 : Int) (v7 : Int) (μ : Mu) : f_M_exchange_225 z d v2 v6 v7 μ = bif !decide (v2 = 1) then (f_M_exchange_238 z d v2 v6 v7 μ) else (f_M_exchange_253 z d (z_div v6 12) μ) := by
  show mE z d q_M_exchange 225 [(9, 0), (9, 0), (0, v2), (9, 0), (9, 0), (9, 0), (0, v6), (0, v7), (9, 0), (9, 0), (9, 0), (9, 0), (9, 0)] [] μ = _
  rw [mE_bk (M := q_M_exchange) k_M_exchange.1 k_M_exchange.2 [16, 18, 49, 86, 165, 190, 201, 207, 214, 225, 238, 251, 253] 400]
  have key : ∀ (C : Nat → List zv → Mu → mR) (E : Nat → List zv → List zv → Mu → mR), mbk C E q_M_exchange.1 q_M_exchange.2.1 z q_M_exchange.2.2.2 [16, 18, 49, 86, 165, 190, 201, 207, 214, 225, 238, 251, 253] 400 (zfind q_M_exchange.2.2.2 225) [(9, 0), (9, 0), (0, v2), (9, 0), (9, 0), (9, 0), (0, v6), (0, v7), (9, 0), (9, 0), (9, 0), (9, 0), (9, 0)] [] μ = bif !decide (v2 = 1) then (g_M_exchange_238 E v2 v6 v7 μ) else (g_M_exchange_253 E (z_div v6 12) μ) := by
    intro C E
    rfl
  exact key _ _
set_option maxRecDepth 100000 in
theorem e_M_exchange_253 (z : zZ) (d : Nat) (v100 : Int) (μ : Mu) : f_M_exchange_253 z d v100 μ = some (v100, μ) := by
  show mE z d q_M_exchange 253 [(9, 0), (9, 0), (9, 0), (9, 0), (9, 0), (9, 0), (9, 0), (9, 0), (9, 0), (9, 0), (9, 0), (9, 0), (9, 0)] [(0, v100)] μ = _
  rw [mE_bk (M := q_M_exchange) k_M_exchange.1 k_M_exchange.2 [16, 18, 49, 86, 165, 190, 201, 207, 214, 225, 238, 251, 253] 400]
  have key : ∀ (C : Nat → List zv → Mu → mR) (E : Nat → List zv → List zv → Mu → mR), mbk C E q_M_exchange.1 q_M_exchange.2.1 z q_M_exchange.2.2.2 [16, 18, 49, 86, 165, 190, 201, 207, 214, 225, 238, 251, 253] 400 (zfind q_M_exchange.2.2.2 253) [(9, 0), (9, 0), (9, 0), (9, 0), (9, 0), (9, 0), (9, 0), (9, 0), (9, 0), (9, 0), (9, 0), (9, 0), (9, 0)] [(0, v100)] μ = some (v100, μ) := by
    intro C E
    rfl
  exact key _ _
set_option maxRecDepth 100000 in
theorem e_M_exchange_190 (z : zZ) (d : Nat) (v1 : Int) (v2 : Int) (v3 : Int) (v4 : Int) (v5 : Int) (v8 : Int) (v11 : Int) (v12 : Int) (μ : Mu) : f_M_exchange_190 z d v1 v2 v3 v4 v5 v8 v11 v12 μ = f_M_exchange_201 z d v1 v2 v3 v4 v5 v8 (zw (v11 + v12)) v8 μ := by
  show mE z d q_M_exchange 190 [(2, 86), (0, v1), (0, v2), (0, v3), (0, v4), (0, v5), (9, 0), (9, 0), (0, v8), (9, 0), (9, 0), (0, v11), (0, v12)] [] μ = _
  rw [mE_bk (M := q_M_exchange) k_M_exchange.1 k_M_exchange.2 [16, 18, 49, 86, 165, 190, 201, 207, 214, 225, 238, 251, 253] 400]
  have key : ∀ (C : Nat → List zv → Mu → mR) (E : Nat → List zv → List zv → Mu → mR), mbk C E q_M_exchange.1 q_M_exchange.2.1 z q_M_exchange.2.2.2 [16, 18, 49, 86, 165, 190, 201, 207, 214, 225, 238, 251, 253] 400 (zfind q_M_exchange.2.2.2 190) [(2, 86), (0, v1), (0, v2), (0, v3), (0, v4), (0, v5), (9, 0), (9, 0), (0, v8), (9, 0), (9, 0), (0, v11), (0, v12)] [] μ = g_M_exchange_201 E v1 v2 v3 v4 v5 v8 (zw (v11 + v12)) v8 μ := by
    intro C E
    rfl
  exact key _ _
set_option maxRecDepth 100000 in
theorem e_M_exchange_238 (z : zZ) (d : Nat) (v2 : Int) (v6 : Int) (v7 : Int) (μ : Mu) : f_M_exchange_238 z d v2 v6 v7 μ = bif !decide (v2 = 2) then (f_M_exchange_251 z d v7 μ) else (f_M_exchange_253 z d (z_rem v6 12) μ) := by
  show mE z d q_M_exchange 238 [(9, 0), (9, 0), (0, v2), (9, 0), (9, 0), (9, 0), (0, v6), (0, v7), (9, 0), (9, 0), (9, 0), (9, 0), (9, 0)] [] μ = _
  rw [mE_bk (M := q_M_exchange) k_M_exchange.1 k_M_exchange.2 [16, 18, 49, 86, 165, 190, 201, 207, 214, 225, 238, 251, 253] 400]
  have key : ∀ (C : Nat → List zv → Mu → mR) (E : Nat → List zv → List zv → Mu → mR), mbk C E q_M_exchange.1 q_M_exchange.2.1 z q_M_exchange.2.2.2 [16, 18, 49, 86, 165, 190, 201, 207, 214, 225, 238, 251, 253] 400 (zfind q_M_exchange.2.2.2 238) [(9, 0), (9, 0), (0, v2), (9, 0), (9, 0), (9, 0), (0, v6), (0, v7), (9, 0), (9, 0), (9, 0), (9, 0), (9, 0)] [] μ = bif !decide (v2 = 2) then (g_M_exchange_251 E v7 μ) else (g_M_exchange_253 E (z_rem v6 12) μ) := by
    intro C E
    rfl
  exact key _ _
set_option maxRecDepth 100000 in
theorem e_M_exchange_251 (z : zZ) (d : Nat) (v7 : Int) (μ : Mu) : f_M_exchange_251 z d v7 μ = f_M_exchange_253 z d v7 μ := by
  show mE z d q_M_exchange 251 [(9, 0), (9, 0), (9, 0), (9, 0), (9, 0), (9, 0), (9, 0), (0, v7), (9, 0), (9, 0), (9, 0), (9, 0), (9, 0)] [] μ = _
  rw [mE_bk (M := q_M_exchange) k_M_exchange.1 k_M_exchange.2 [16, 18, 49, 86, 165, 190, 201, 207, 214, 225, 238, 251, 253] 400]
  have key : ∀ (C : Nat → List zv → Mu → mR) (E : Nat → List zv → List zv → Mu → mR), mbk C E q_M_exchange.1 q_M_exchange.2.1 z q_M_exchange.2.2.2 [16, 18, 49, 86, 165, 190, 201, 207, 214, 225, 238, 251, 253] 400 (zfind q_M_exchange.2.2.2 251) [(9, 0), (9, 0), (9, 0), (9, 0), (9, 0), (9, 0), (9, 0), (0, v7), (9, 0), (9, 0), (9, 0), (9, 0), (9, 0)] [] μ = g_M_exchange_253 E v7 μ := by
    intro C E
    rfl
  exact key _ _
def g_M_areExchanged_39 (E : Nat → List zv → List zv → Mu → mR) (μ : Mu) : mR := E 39 [(9, 0), (9, 0), (9, 0), (9, 0)] [] μ
noncomputable def f_M_areExchanged_39 (z : zZ) (d : Nat) (μ : Mu) : mR := g_M_areExchanged_39 (fun pc ls st μ => mE z d q_M_areExchanged pc ls st μ) μ
def g_M_areExchanged_40 (E : Nat → List zv → List zv → Mu → mR) (v100 : Int) (μ : Mu) : mR := E 40 [(9, 0), (9, 0), (9, 0), (9, 0)] [(0, v100)] μ
noncomputable def f_M_areExchanged_40 (z : zZ) (d : Nat) (v100 : Int) (μ : Mu) : mR := g_M_areExchanged_40 (fun pc ls st μ => mE z d q_M_areExchanged pc ls st μ) v100 μ
theorem k_M_areExchanged : zprK q_M_areExchanged.2.2.2 = true ∧ zinc q_M_areExchanged.2.2.2 = true := by decide +kernel
set_option maxRecDepth 100000 in
theorem c_M_areExchanged (z : zZ) (d : Nat) (v1 : Int) (v2 : Int) (v3 : Int) (μ : Mu) : mC z (d + 1) 271 [(2, 86), (0, v1), (0, v2), (0, v3)] μ = bif decide (v2 = v3) then (f_M_areExchanged_39 z d μ) else (gI (zw ((zw (12 * v1)) + v2)) 24 (bif decide (μ 90 ((zw ((zw (12 * v1)) + v2)).toNat) ≤ 0) then (f_M_areExchanged_39 z d μ) else (gI (zw ((zw (12 * (zw (1 - v1)))) + v3)) 24 (bif decide (μ 90 ((zw ((zw (12 * (zw (1 - v1)))) + v3)).toNat) ≤ 0) then (f_M_areExchanged_39 z d μ) else (f_M_areExchanged_40 z d 1 μ))))) := by
  rw [mC_succ q_M_areExchanged rfl rfl rfl]
  rw [mE_bk (M := q_M_areExchanged) k_M_areExchanged.1 k_M_areExchanged.2 [39, 40] 400]
  have key : ∀ (C : Nat → List zv → Mu → mR) (E : Nat → List zv → List zv → Mu → mR), mbk C E q_M_areExchanged.1 q_M_areExchanged.2.1 z q_M_areExchanged.2.2.2 [39, 40] 400 (zfind q_M_areExchanged.2.2.2 0) (zentry q_M_areExchanged.2.2.1 [(2, 86), (0, v1), (0, v2), (0, v3)]) [] μ = bif decide (v2 = v3) then (g_M_areExchanged_39 E μ) else (gI (zw ((zw (12 * v1)) + v2)) 24 (bif decide (μ 90 ((zw ((zw (12 * v1)) + v2)).toNat) ≤ 0) then (g_M_areExchanged_39 E μ) else (gI (zw ((zw (12 * (zw (1 - v1)))) + v3)) 24 (bif decide (μ 90 ((zw ((zw (12 * (zw (1 - v1)))) + v3)).toNat) ≤ 0) then (g_M_areExchanged_39 E μ) else (g_M_areExchanged_40 E 1 μ))))) := by
    intro C E
    rfl
  exact key _ _
set_option maxRecDepth 100000 in
theorem e_M_areExchanged_39 (z : zZ) (d : Nat) (μ : Mu) : f_M_areExchanged_39 z d μ = f_M_areExchanged_40 z d 0 μ := by
  show mE z d q_M_areExchanged 39 [(9, 0), (9, 0), (9, 0), (9, 0)] [] μ = _
  rw [mE_bk (M := q_M_areExchanged) k_M_areExchanged.1 k_M_areExchanged.2 [39, 40] 400]
  have key : ∀ (C : Nat → List zv → Mu → mR) (E : Nat → List zv → List zv → Mu → mR), mbk C E q_M_areExchanged.1 q_M_areExchanged.2.1 z q_M_areExchanged.2.2.2 [39, 40] 400 (zfind q_M_areExchanged.2.2.2 39) [(9, 0), (9, 0), (9, 0), (9, 0)] [] μ = g_M_areExchanged_40 E 0 μ := by
    intro C E
    rfl
  exact key _ _
set_option maxRecDepth 100000 in
theorem e_M_areExchanged_40 (z : zZ) (d : Nat) (v100 : Int) (μ : Mu) : f_M_areExchanged_40 z d v100 μ = g01 v100 (some (v100, μ)) := by
  show mE z d q_M_areExchanged 40 [(9, 0), (9, 0), (9, 0), (9, 0)] [(0, v100)] μ = _
  rw [mE_bk (M := q_M_areExchanged) k_M_areExchanged.1 k_M_areExchanged.2 [39, 40] 400]
  have key : ∀ (C : Nat → List zv → Mu → mR) (E : Nat → List zv → List zv → Mu → mR), mbk C E q_M_areExchanged.1 q_M_areExchanged.2.1 z q_M_areExchanged.2.2.2 [39, 40] 400 (zfind q_M_areExchanged.2.2.2 40) [(9, 0), (9, 0), (9, 0), (9, 0)] [(0, v100)] μ = g01 v100 (some (v100, μ)) := by
    intro C E
    rfl
  exact key _ _
def g_M_exchanges_78 (E : Nat → List zv → List zv → Mu → mR) (v1 : Int) (v2 : Int) (v3 : Int) (v4 : Int) (v5 : Int) (μ : Mu) : mR := E 78 [(2, 86), (0, v1), (0, v2), (0, v3), (0, v4), (0, v5)] [] μ
noncomputable def f_M_exchanges_78 (z : zZ) (d : Nat) (v1 : Int) (v2 : Int) (v3 : Int) (v4 : Int) (v5 : Int) (μ : Mu) : mR := g_M_exchanges_78 (fun pc ls st μ => mE z d q_M_exchanges pc ls st μ) v1 v2 v3 v4 v5 μ
theorem k_M_exchanges : zprK q_M_exchanges.2.2.2 = true ∧ zinc q_M_exchanges.2.2.2 = true := by decide +kernel
set_option maxRecDepth 100000 in
theorem c_M_exchanges (z : zZ) (d : Nat) (v1 : Int) (v2 : Int) (v3 : Int) (μ : Mu) : mC z (d + 1) 272 [(2, 86), (0, v1), (0, v2), (0, v3)] μ = gI (zw ((zw (12 * v1)) + v2)) 24 (gI (zw ((zw (12 * v1)) + v2)) 24 (gI (zw ((zw (12 * (zw (1 - v1)))) + v3)) 24 (gI (zw ((zw (12 * (zw (1 - v1)))) + v3)) 24 ((mC z d 204 [(2, 90), (0, zw ((zw (12 * v1)) + v3)), (0, 1)] (zup (zup μ 90 ((zw ((zw (12 * v1)) + v2)).toNat) (zw ((μ 90 ((zw ((zw (12 * v1)) + v2)).toNat)) - 1))) 90 ((zw ((zw (12 * (zw (1 - v1)))) + v3)).toNat) (zw (((zup μ 90 ((zw ((zw (12 * v1)) + v2)).toNat) (zw ((μ 90 ((zw ((zw (12 * v1)) + v2)).toNat)) - 1))) 90 ((zw ((zw (12 * (zw (1 - v1)))) + v3)).toNat)) - 1)))).bind fun q1 => ((mC z d 204 [(2, 90), (0, zw ((zw (12 * (zw (1 - v1)))) + v2)), (0, 1)] q1.2).bind fun q2 => (f_M_exchanges_78 z d v1 v2 v3 (zw (12 * v1)) (zw (12 * (zw (1 - v1)))) q2.2)))))) := by
  rw [mC_succ q_M_exchanges rfl rfl rfl]
  rw [mE_bk (M := q_M_exchanges) k_M_exchanges.1 k_M_exchanges.2 [78] 400]
  have key : ∀ (C : Nat → List zv → Mu → mR) (E : Nat → List zv → List zv → Mu → mR), mbk C E q_M_exchanges.1 q_M_exchanges.2.1 z q_M_exchanges.2.2.2 [78] 400 (zfind q_M_exchanges.2.2.2 0) (zentry q_M_exchanges.2.2.1 [(2, 86), (0, v1), (0, v2), (0, v3)]) [] μ = gI (zw ((zw (12 * v1)) + v2)) 24 (gI (zw ((zw (12 * v1)) + v2)) 24 (gI (zw ((zw (12 * (zw (1 - v1)))) + v3)) 24 (gI (zw ((zw (12 * (zw (1 - v1)))) + v3)) 24 ((C 204 [(2, 90), (0, zw ((zw (12 * v1)) + v3)), (0, 1)] (zup (zup μ 90 ((zw ((zw (12 * v1)) + v2)).toNat) (zw ((μ 90 ((zw ((zw (12 * v1)) + v2)).toNat)) - 1))) 90 ((zw ((zw (12 * (zw (1 - v1)))) + v3)).toNat) (zw (((zup μ 90 ((zw ((zw (12 * v1)) + v2)).toNat) (zw ((μ 90 ((zw ((zw (12 * v1)) + v2)).toNat)) - 1))) 90 ((zw ((zw (12 * (zw (1 - v1)))) + v3)).toNat)) - 1)))).bind fun q1 => ((C 204 [(2, 90), (0, zw ((zw (12 * (zw (1 - v1)))) + v2)), (0, 1)] q1.2).bind fun q2 => (g_M_exchanges_78 E v1 v2 v3 (zw (12 * v1)) (zw (12 * (zw (1 - v1)))) q2.2)))))) := by
    intro C E
    rfl
  exact key _ _
set_option maxRecDepth 100000 in
theorem e_M_exchanges_78 (z : zZ) (d : Nat) (v1 : Int) (v2 : Int) (v3 : Int) (v4 : Int) (v5 : Int) (μ : Mu) : f_M_exchanges_78 z d v1 v2 v3 v4 v5 μ = some (0, μ) := by
  show mE z d q_M_exchanges 78 [(2, 86), (0, v1), (0, v2), (0, v3), (0, v4), (0, v5)] [] μ = _
  rw [mE_bk (M := q_M_exchanges) k_M_exchanges.1 k_M_exchanges.2 [78] 400]
  have key : ∀ (C : Nat → List zv → Mu → mR) (E : Nat → List zv → List zv → Mu → mR), mbk C E q_M_exchanges.1 q_M_exchanges.2.1 z q_M_exchanges.2.2.2 [78] 400 (zfind q_M_exchanges.2.2.2 78) [(2, 86), (0, v1), (0, v2), (0, v3), (0, v4), (0, v5)] [] μ = some (0, μ) := by
    intro C E
    rfl
  exact key _ _
def g_M_exchanged_31 (E : Nat → List zv → List zv → Mu → mR) (μ : Mu) : mR := E 31 [(9, 0), (9, 0), (9, 0), (9, 0)] [] μ
noncomputable def f_M_exchanged_31 (z : zZ) (d : Nat) (μ : Mu) : mR := g_M_exchanged_31 (fun pc ls st μ => mE z d q_M_exchanged pc ls st μ) μ
def g_M_exchanged_33 (E : Nat → List zv → List zv → Mu → mR) (v1 : Int) (v2 : Int) (v3 : Int) (μ : Mu) : mR := E 33 [(2, 86), (0, v1), (0, v2), (0, v3)] [] μ
noncomputable def f_M_exchanged_33 (z : zZ) (d : Nat) (v1 : Int) (v2 : Int) (v3 : Int) (μ : Mu) : mR := g_M_exchanged_33 (fun pc ls st μ => mE z d q_M_exchanged pc ls st μ) v1 v2 v3 μ
theorem k_M_exchanged : zprK q_M_exchanged.2.2.2 = true ∧ zinc q_M_exchanged.2.2.2 = true := by decide +kernel
set_option maxRecDepth 100000 in
theorem c_M_exchanged (z : zZ) (d : Nat) (v1 : Int) (v2 : Int) (v3 : Int) (μ : Mu) : mC z (d + 1) 273 [(2, 86), (0, v1), (0, v2), (0, v3)] μ = (mC z d 185 [(0, v1)] μ).bind fun q1 => (bif decide (q1.1 = 0) then (f_M_exchanged_31 z d q1.2) else ((mC z d 182 [(0, v2)] q1.2).bind fun q2 => (bif decide (q2.1 = 0) then (f_M_exchanged_31 z d q2.2) else ((mC z d 182 [(0, v3)] q2.2).bind fun q3 => (bif decide (q3.1 = 0) then (f_M_exchanged_31 z d q3.2) else ((mC z d 271 [(2, 86), (0, v1), (0, v2), (0, v3)] q3.2).bind fun q4 => (bif !decide (q4.1 = 0) then (f_M_exchanged_33 z d v1 v2 v3 q4.2) else (f_M_exchanged_31 z d q4.2)))))))) := by
  rw [mC_succ q_M_exchanged rfl rfl rfl]
  rw [mE_bk (M := q_M_exchanged) k_M_exchanged.1 k_M_exchanged.2 [31, 33] 400]
  have key : ∀ (C : Nat → List zv → Mu → mR) (E : Nat → List zv → List zv → Mu → mR), mbk C E q_M_exchanged.1 q_M_exchanged.2.1 z q_M_exchanged.2.2.2 [31, 33] 400 (zfind q_M_exchanged.2.2.2 0) (zentry q_M_exchanged.2.2.1 [(2, 86), (0, v1), (0, v2), (0, v3)]) [] μ = (C 185 [(0, v1)] μ).bind fun q1 => (bif decide (q1.1 = 0) then (g_M_exchanged_31 E q1.2) else ((C 182 [(0, v2)] q1.2).bind fun q2 => (bif decide (q2.1 = 0) then (g_M_exchanged_31 E q2.2) else ((C 182 [(0, v3)] q2.2).bind fun q3 => (bif decide (q3.1 = 0) then (g_M_exchanged_31 E q3.2) else ((C 271 [(2, 86), (0, v1), (0, v2), (0, v3)] q3.2).bind fun q4 => (bif !decide (q4.1 = 0) then (g_M_exchanged_33 E v1 v2 v3 q4.2) else (g_M_exchanged_31 E q4.2)))))))) := by
    intro C E
    rfl
  exact key _ _
set_option maxRecDepth 100000 in
theorem e_M_exchanged_31 (z : zZ) (d : Nat) (μ : Mu) : f_M_exchanged_31 z d μ = some (0, μ) := by
  show mE z d q_M_exchanged 31 [(9, 0), (9, 0), (9, 0), (9, 0)] [] μ = _
  rw [mE_bk (M := q_M_exchanged) k_M_exchanged.1 k_M_exchanged.2 [31, 33] 400]
  have key : ∀ (C : Nat → List zv → Mu → mR) (E : Nat → List zv → List zv → Mu → mR), mbk C E q_M_exchanged.1 q_M_exchanged.2.1 z q_M_exchanged.2.2.2 [31, 33] 400 (zfind q_M_exchanged.2.2.2 31) [(9, 0), (9, 0), (9, 0), (9, 0)] [] μ = some (0, μ) := by
    intro C E
    rfl
  exact key _ _
set_option maxRecDepth 100000 in
theorem e_M_exchanged_33 (z : zZ) (d : Nat) (v1 : Int) (v2 : Int) (v3 : Int) (μ : Mu) : f_M_exchanged_33 z d v1 v2 v3 μ = (mC z d 272 [(2, 86), (0, v1), (0, v2), (0, v3)] μ).bind fun q1 => (some (1, q1.2)) := by
  show mE z d q_M_exchanged 33 [(2, 86), (0, v1), (0, v2), (0, v3)] [] μ = _
  rw [mE_bk (M := q_M_exchanged) k_M_exchanged.1 k_M_exchanged.2 [31, 33] 400]
  have key : ∀ (C : Nat → List zv → Mu → mR) (E : Nat → List zv → List zv → Mu → mR), mbk C E q_M_exchanged.1 q_M_exchanged.2.1 z q_M_exchanged.2.2.2 [31, 33] 400 (zfind q_M_exchanged.2.2.2 33) [(2, 86), (0, v1), (0, v2), (0, v3)] [] μ = (C 272 [(2, 86), (0, v1), (0, v2), (0, v3)] μ).bind fun q1 => (some (1, q1.2)) := by
    intro C E
    rfl
  exact key _ _
def g_M_home_35 (E : Nat → List zv → List zv → Mu → mR) (μ : Mu) : mR := E 35 [(9, 0), (9, 0), (9, 0), (9, 0)] [] μ
noncomputable def f_M_home_35 (z : zZ) (d : Nat) (μ : Mu) : mR := g_M_home_35 (fun pc ls st μ => mE z d q_M_home pc ls st μ) μ
def g_M_home_37 (E : Nat → List zv → List zv → Mu → mR) (v1 : Int) (v2 : Int) (μ : Mu) : mR := E 37 [(2, 86), (0, v1), (0, v2), (9, 0)] [] μ
noncomputable def f_M_home_37 (z : zZ) (d : Nat) (v1 : Int) (v2 : Int) (μ : Mu) : mR := g_M_home_37 (fun pc ls st μ => mE z d q_M_home pc ls st μ) v1 v2 μ
def g_M_home_39 (E : Nat → List zv → List zv → Mu → mR) (v1 : Int) (v2 : Int) (v3 : Int) (μ : Mu) : mR := E 39 [(2, 86), (0, v1), (0, v2), (0, v3)] [] μ
noncomputable def f_M_home_39 (z : zZ) (d : Nat) (v1 : Int) (v2 : Int) (v3 : Int) (μ : Mu) : mR := g_M_home_39 (fun pc ls st μ => mE z d q_M_home pc ls st μ) v1 v2 v3 μ
def g_M_home_88 (E : Nat → List zv → List zv → Mu → mR) (μ : Mu) : mR := E 88 [(9, 0), (9, 0), (9, 0), (9, 0)] [] μ
noncomputable def f_M_home_88 (z : zZ) (d : Nat) (μ : Mu) : mR := g_M_home_88 (fun pc ls st μ => mE z d q_M_home pc ls st μ) μ
theorem k_M_home : zprK q_M_home.2.2.2 = true ∧ zinc q_M_home.2.2.2 = true := by decide +kernel
set_option maxRecDepth 100000 in
theorem c_M_home (z : zZ) (d : Nat) (v1 : Int) (v2 : Int) (μ : Mu) : mC z (d + 1) 274 [(2, 86), (0, v1), (0, v2)] μ = (mC z d 182 [(0, v1)] μ).bind fun q1 => (bif decide (q1.1 = 0) then (f_M_home_35 z d q1.2) else (bif decide (v2 < 1) then (f_M_home_35 z d q1.2) else (gI v1 24 (bif decide (q1.2 92 v1.toNat < v2) then (f_M_home_35 z d q1.2) else (gI (zw (12 + v1)) 24 (bif decide (v2 ≤ q1.2 92 ((zw (12 + v1)).toNat)) then (f_M_home_37 z d v1 v2 q1.2) else (f_M_home_35 z d q1.2))))))) := by
  rw [mC_succ q_M_home rfl rfl rfl]
  rw [mE_bk (M := q_M_home) k_M_home.1 k_M_home.2 [35, 37, 39, 88] 400]
  have key : ∀ (C : Nat → List zv → Mu → mR) (E : Nat → List zv → List zv → Mu → mR), mbk C E q_M_home.1 q_M_home.2.1 z q_M_home.2.2.2 [35, 37, 39, 88] 400 (zfind q_M_home.2.2.2 0) (zentry q_M_home.2.2.1 [(2, 86), (0, v1), (0, v2)]) [] μ = (C 182 [(0, v1)] μ).bind fun q1 => (bif decide (q1.1 = 0) then (g_M_home_35 E q1.2) else (bif decide (v2 < 1) then (g_M_home_35 E q1.2) else (gI v1 24 (bif decide (q1.2 92 v1.toNat < v2) then (g_M_home_35 E q1.2) else (gI (zw (12 + v1)) 24 (bif decide (v2 ≤ q1.2 92 ((zw (12 + v1)).toNat)) then (g_M_home_37 E v1 v2 q1.2) else (g_M_home_35 E q1.2))))))) := by
    intro C E
    rfl
  exact key _ _
set_option maxRecDepth 100000 in
theorem e_M_home_35 (z : zZ) (d : Nat) (μ : Mu) : f_M_home_35 z d μ = some (0, μ) := by
  show mE z d q_M_home 35 [(9, 0), (9, 0), (9, 0), (9, 0)] [] μ = _
  rw [mE_bk (M := q_M_home) k_M_home.1 k_M_home.2 [35, 37, 39, 88] 400]
  have key : ∀ (C : Nat → List zv → Mu → mR) (E : Nat → List zv → List zv → Mu → mR), mbk C E q_M_home.1 q_M_home.2.1 z q_M_home.2.2.2 [35, 37, 39, 88] 400 (zfind q_M_home.2.2.2 35) [(9, 0), (9, 0), (9, 0), (9, 0)] [] μ = some (0, μ) := by
    intro C E
    rfl
  exact key _ _
set_option maxRecDepth 100000 in
theorem e_M_home_37 (z : zZ) (d : Nat) (v1 : Int) (v2 : Int) (μ : Mu) : f_M_home_37 z d v1 v2 μ = f_M_home_39 z d v1 v2 0 μ := by
  show mE z d q_M_home 37 [(2, 86), (0, v1), (0, v2), (9, 0)] [] μ = _
  rw [mE_bk (M := q_M_home) k_M_home.1 k_M_home.2 [35, 37, 39, 88] 400]
  have key : ∀ (C : Nat → List zv → Mu → mR) (E : Nat → List zv → List zv → Mu → mR), mbk C E q_M_home.1 q_M_home.2.1 z q_M_home.2.2.2 [35, 37, 39, 88] 400 (zfind q_M_home.2.2.2 37) [(2, 86), (0, v1), (0, v2), (9, 0)] [] μ = g_M_home_39 E v1 v2 0 μ := by
    intro C E
    rfl
  exact key _ _
set_option maxRecDepth 100000 in
theorem e_M_home_39 (z : zZ) (d : Nat) (v1 : Int) (v2 : Int) (v3 : Int) (μ : Mu) : f_M_home_39 z d v1 v2 v3 μ = bif decide (2 ≤ v3) then (f_M_home_88 z d μ) else (gI (zw ((zw (12 * v3)) + v1)) 24 (gI (zw ((zw (12 * v3)) + v1)) 24 ((mC z d 204 [(2, 90), (0, zw ((zw (12 * v3)) + v1)), (0, v2)] (zup μ 92 ((zw ((zw (12 * v3)) + v1)).toNat) (zw ((μ 92 ((zw ((zw (12 * v3)) + v1)).toNat)) - v2)))).bind fun q1 => (f_M_home_39 z d v1 v2 (zw (v3 + 1)) q1.2)))) := by
  show mE z d q_M_home 39 [(2, 86), (0, v1), (0, v2), (0, v3)] [] μ = _
  rw [mE_bk (M := q_M_home) k_M_home.1 k_M_home.2 [35, 37, 39, 88] 400]
  have key : ∀ (C : Nat → List zv → Mu → mR) (E : Nat → List zv → List zv → Mu → mR), mbk C E q_M_home.1 q_M_home.2.1 z q_M_home.2.2.2 [35, 37, 39, 88] 400 (zfind q_M_home.2.2.2 39) [(2, 86), (0, v1), (0, v2), (0, v3)] [] μ = bif decide (2 ≤ v3) then (g_M_home_88 E μ) else (gI (zw ((zw (12 * v3)) + v1)) 24 (gI (zw ((zw (12 * v3)) + v1)) 24 ((C 204 [(2, 90), (0, zw ((zw (12 * v3)) + v1)), (0, v2)] (zup μ 92 ((zw ((zw (12 * v3)) + v1)).toNat) (zw ((μ 92 ((zw ((zw (12 * v3)) + v1)).toNat)) - v2)))).bind fun q1 => (g_M_home_39 E v1 v2 (zw (v3 + 1)) q1.2)))) := by
    intro C E
    rfl
  exact key _ _
set_option maxRecDepth 100000 in
theorem e_M_home_88 (z : zZ) (d : Nat) (μ : Mu) : f_M_home_88 z d μ = some (1, μ) := by
  show mE z d q_M_home 88 [(9, 0), (9, 0), (9, 0), (9, 0)] [] μ = _
  rw [mE_bk (M := q_M_home) k_M_home.1 k_M_home.2 [35, 37, 39, 88] 400]
  have key : ∀ (C : Nat → List zv → Mu → mR) (E : Nat → List zv → List zv → Mu → mR), mbk C E q_M_home.1 q_M_home.2.1 z q_M_home.2.2.2 [35, 37, 39, 88] 400 (zfind q_M_home.2.2.2 88) [(9, 0), (9, 0), (9, 0), (9, 0)] [] μ = some (1, μ) := by
    intro C E
    rfl
  exact key _ _
