def g_W_exchange_16 (E : Nat → List zv → List zv → Mu → mR) (μ : Mu) : mR := E 16 [(9, 0), (9, 0), (9, 0), (9, 0), (9, 0), (9, 0), (9, 0), (9, 0), (9, 0), (9, 0)] [] μ
noncomputable def f_W_exchange_16 (z : zZ) (d : Nat) (μ : Mu) : mR := g_W_exchange_16 (fun pc ls st μ => mE z d q_W_exchange pc ls st μ) μ
def g_W_exchange_62 (E : Nat → List zv → List zv → Mu → mR) (v1 : Int) (v2 : Int) (v3 : Int) (v4 : Int) (v5 : Int) (v6 : Int) (v7 : Int) (v8 : Int) (μ : Mu) : mR := E 62 [(2, 0), (0, v1), (0, v2), (0, v3), (0, v4), (0, v5), (0, v6), (0, v7), (0, v8), (9, 0)] [] μ
noncomputable def f_W_exchange_62 (z : zZ) (d : Nat) (v1 : Int) (v2 : Int) (v3 : Int) (v4 : Int) (v5 : Int) (v6 : Int) (v7 : Int) (v8 : Int) (μ : Mu) : mR := g_W_exchange_62 (fun pc ls st μ => mE z d q_W_exchange pc ls st μ) v1 v2 v3 v4 v5 v6 v7 v8 μ
def g_W_exchange_98 (E : Nat → List zv → List zv → Mu → mR) (v1 : Int) (v2 : Int) (v3 : Int) (v4 : Int) (v5 : Int) (v6 : Int) (v7 : Int) (v8 : Int) (v9 : Int) (μ : Mu) : mR := E 98 [(2, 0), (0, v1), (0, v2), (0, v3), (0, v4), (0, v5), (0, v6), (0, v7), (0, v8), (0, v9)] [] μ
noncomputable def f_W_exchange_98 (z : zZ) (d : Nat) (v1 : Int) (v2 : Int) (v3 : Int) (v4 : Int) (v5 : Int) (v6 : Int) (v7 : Int) (v8 : Int) (v9 : Int) (μ : Mu) : mR := g_W_exchange_98 (fun pc ls st μ => mE z d q_W_exchange pc ls st μ) v1 v2 v3 v4 v5 v6 v7 v8 v9 μ
def g_W_exchange_118 (E : Nat → List zv → List zv → Mu → mR) (v1 : Int) (v2 : Int) (v3 : Int) (v4 : Int) (v5 : Int) (v6 : Int) (v7 : Int) (v8 : Int) (μ : Mu) : mR := E 118 [(2, 0), (0, v1), (0, v2), (0, v3), (0, v4), (0, v5), (0, v6), (0, v7), (0, v8), (9, 0)] [] μ
noncomputable def f_W_exchange_118 (z : zZ) (d : Nat) (v1 : Int) (v2 : Int) (v3 : Int) (v4 : Int) (v5 : Int) (v6 : Int) (v7 : Int) (v8 : Int) (μ : Mu) : mR := g_W_exchange_118 (fun pc ls st μ => mE z d q_W_exchange pc ls st μ) v1 v2 v3 v4 v5 v6 v7 v8 μ
def g_W_exchange_152 (E : Nat → List zv → List zv → Mu → mR) (v5 : Int) (μ : Mu) : mR := E 152 [(9, 0), (9, 0), (9, 0), (9, 0), (9, 0), (0, v5), (9, 0), (9, 0), (9, 0), (9, 0)] [] μ
noncomputable def f_W_exchange_152 (z : zZ) (d : Nat) (v5 : Int) (μ : Mu) : mR := g_W_exchange_152 (fun pc ls st μ => mE z d q_W_exchange pc ls st μ) v5 μ
def g_W_exchange_155 (E : Nat → List zv → List zv → Mu → mR) (v5 : Int) (v7 : Int) (μ : Mu) : mR := E 155 [(9, 0), (9, 0), (9, 0), (9, 0), (9, 0), (0, v5), (9, 0), (0, v7), (9, 0), (9, 0)] [] μ
noncomputable def f_W_exchange_155 (z : zZ) (d : Nat) (v5 : Int) (v7 : Int) (μ : Mu) : mR := g_W_exchange_155 (fun pc ls st μ => mE z d q_W_exchange pc ls st μ) v5 v7 μ
def g_W_exchange_170 (E : Nat → List zv → List zv → Mu → mR) (v100 : Int) (μ : Mu) : mR := E 170 [(9, 0), (9, 0), (9, 0), (9, 0), (9, 0), (9, 0), (9, 0), (9, 0), (9, 0), (9, 0)] [(0, v100)] μ
noncomputable def f_W_exchange_170 (z : zZ) (d : Nat) (v100 : Int) (μ : Mu) : mR := g_W_exchange_170 (fun pc ls st μ => mE z d q_W_exchange pc ls st μ) v100 μ
def g_W_exchange_171 (E : Nat → List zv → List zv → Mu → mR) (v5 : Int) (v7 : Int) (μ : Mu) : mR := E 171 [(9, 0), (9, 0), (9, 0), (9, 0), (9, 0), (0, v5), (9, 0), (0, v7), (9, 0), (9, 0)] [] μ
noncomputable def f_W_exchange_171 (z : zZ) (d : Nat) (v5 : Int) (v7 : Int) (μ : Mu) : mR := g_W_exchange_171 (fun pc ls st μ => mE z d q_W_exchange pc ls st μ) v5 v7 μ
def g_W_exchange_186 (E : Nat → List zv → List zv → Mu → mR) (v100 : Int) (μ : Mu) : mR := E 186 [(9, 0), (9, 0), (9, 0), (9, 0), (9, 0), (9, 0), (9, 0), (9, 0), (9, 0), (9, 0)] [(0, v100)] μ
noncomputable def f_W_exchange_186 (z : zZ) (d : Nat) (v100 : Int) (μ : Mu) : mR := g_W_exchange_186 (fun pc ls st μ => mE z d q_W_exchange pc ls st μ) v100 μ
def g_W_exchange_187 (E : Nat → List zv → List zv → Mu → mR) (v6 : Int) (μ : Mu) : mR := E 187 [(9, 0), (9, 0), (9, 0), (9, 0), (9, 0), (9, 0), (0, v6), (9, 0), (9, 0), (9, 0)] [] μ
noncomputable def f_W_exchange_187 (z : zZ) (d : Nat) (v6 : Int) (μ : Mu) : mR := g_W_exchange_187 (fun pc ls st μ => mE z d q_W_exchange pc ls st μ) v6 μ
theorem k_W_exchange : zprK q_W_exchange.2.2.2 = true ∧ zinc q_W_exchange.2.2.2 = true := by decide +kernel
set_option maxRecDepth 100000 in
theorem c_W_exchange (z : zZ) (d : Nat) (v1 : Int) (v2 : Int) (μ : Mu) : mC z (d + 1) 122 [(2, 0), (0, v1), (0, v2)] μ = (mC z d 15 [(0, v1)] μ).bind fun q1 => (bif decide (q1.1 = 0) then (f_W_exchange_16 z d q1.2) else (bif decide (v2 < 0) then (f_W_exchange_16 z d q1.2) else (bif decide (v2 ≤ 3) then ((mC z d 105 [(2, 0), (0, 0)] q1.2).bind fun q2 => ((mC z d 105 [(2, 0), (0, 1)] q2.2).bind fun q3 => ((mC z d 109 [(2, 0), (0, v1), (0, (-1)), (0, (-1)), (0, (-1))] q3.2).bind fun q4 => ((mC z d 109 [(2, 0), (0, zw (1 - v1)), (0, (-1)), (0, (-1)), (0, (-1))] q4.2).bind fun q5 => (f_W_exchange_62 z d v1 v2 q4.1 q5.1 0 ((-2)) 0 0 q5.2))))) else (f_W_exchange_16 z d q1.2)))) := by
  rw [mC_succ q_W_exchange rfl rfl rfl]
  rw [mE_bk (M := q_W_exchange) k_W_exchange.1 k_W_exchange.2 [16, 62, 98, 118, 152, 155, 170, 171, 186, 187] 400]
  have key : ∀ (C : Nat → List zv → Mu → mR) (E : Nat → List zv → List zv → Mu → mR), mbk C E q_W_exchange.1 q_W_exchange.2.1 z q_W_exchange.2.2.2 [16, 62, 98, 118, 152, 155, 170, 171, 186, 187] 400 (zfind q_W_exchange.2.2.2 0) (zentry q_W_exchange.2.2.1 [(2, 0), (0, v1), (0, v2)]) [] μ = (C 15 [(0, v1)] μ).bind fun q1 => (bif decide (q1.1 = 0) then (g_W_exchange_16 E q1.2) else (bif decide (v2 < 0) then (g_W_exchange_16 E q1.2) else (bif decide (v2 ≤ 3) then ((C 105 [(2, 0), (0, 0)] q1.2).bind fun q2 => ((C 105 [(2, 0), (0, 1)] q2.2).bind fun q3 => ((C 109 [(2, 0), (0, v1), (0, (-1)), (0, (-1)), (0, (-1))] q3.2).bind fun q4 => ((C 109 [(2, 0), (0, zw (1 - v1)), (0, (-1)), (0, (-1)), (0, (-1))] q4.2).bind fun q5 => (g_W_exchange_62 E v1 v2 q4.1 q5.1 0 ((-2)) 0 0 q5.2))))) else (g_W_exchange_16 E q1.2)))) := by
    intro C E
    rfl
  exact key _ _
set_option maxRecDepth 100000 in
theorem e_W_exchange_16 (z : zZ) (d : Nat) (μ : Mu) : f_W_exchange_16 z d μ = some ((-1), μ) := by
  show mE z d q_W_exchange 16 [(9, 0), (9, 0), (9, 0), (9, 0), (9, 0), (9, 0), (9, 0), (9, 0), (9, 0), (9, 0)] [] μ = _
  rw [mE_bk (M := q_W_exchange) k_W_exchange.1 k_W_exchange.2 [16, 62, 98, 118, 152, 155, 170, 171, 186, 187] 400]
  have key : ∀ (C : Nat → List zv → Mu → mR) (E : Nat → List zv → List zv → Mu → mR), mbk C E q_W_exchange.1 q_W_exchange.2.1 z q_W_exchange.2.2.2 [16, 62, 98, 118, 152, 155, 170, 171, 186, 187] 400 (zfind q_W_exchange.2.2.2 16) [(9, 0), (9, 0), (9, 0), (9, 0), (9, 0), (9, 0), (9, 0), (9, 0), (9, 0), (9, 0)] [] μ = some ((-1), μ) := by
    intro C E
    rfl
  exact key _ _
set_option maxRecDepth 100000 in
theorem e_W_exchange_62 (z : zZ) (d : Nat) (v1 : Int) (v2 : Int) (v3 : Int) (v4 : Int) (v5 : Int) (v6 : Int) (v7 : Int) (v8 : Int) (μ : Mu) : f_W_exchange_62 z d v1 v2 v3 v4 v5 v6 v7 v8 μ = bif decide (144 ≤ v8) then (bif decide (v2 = 0) then (f_W_exchange_152 z d v5 μ) else bif decide (v2 = 1) then (f_W_exchange_155 z d v5 v7 μ) else bif decide (v2 = 2) then (f_W_exchange_171 z d v5 v7 μ) else (f_W_exchange_187 z d v6 μ)) else ((mC z d 123 [(2, 0), (0, v1), (0, z_div v8 12), (0, z_rem v8 12), (0, v3), (0, v4)] μ).bind fun q1 => (bif decide (q1.1 ≤ 0) then (f_W_exchange_98 z d v1 v2 v3 v4 v5 v6 v7 v8 q1.1 q1.2) else (f_W_exchange_98 z d v1 v2 v3 v4 (zw (v5 + 1)) v6 v7 v8 q1.1 q1.2))) := by
  show mE z d q_W_exchange 62 [(2, 0), (0, v1), (0, v2), (0, v3), (0, v4), (0, v5), (0, v6), (0, v7), (0, v8), (9, 0)] [] μ = _
  rw [mE_bk (M := q_W_exchange) k_W_exchange.1 k_W_exchange.2 [16, 62, 98, 118, 152, 155, 170, 171, 186, 187] 400]
  have key : ∀ (C : Nat → List zv → Mu → mR) (E : Nat → List zv → List zv → Mu → mR), mbk C E q_W_exchange.1 q_W_exchange.2.1 z q_W_exchange.2.2.2 [16, 62, 98, 118, 152, 155, 170, 171, 186, 187] 400 (zfind q_W_exchange.2.2.2 62) [(2, 0), (0, v1), (0, v2), (0, v3), (0, v4), (0, v5), (0, v6), (0, v7), (0, v8), (9, 0)] [] μ = bif decide (144 ≤ v8) then (bif decide (v2 = 0) then (g_W_exchange_152 E v5 μ) else bif decide (v2 = 1) then (g_W_exchange_155 E v5 v7 μ) else bif decide (v2 = 2) then (g_W_exchange_171 E v5 v7 μ) else (g_W_exchange_187 E v6 μ)) else ((C 123 [(2, 0), (0, v1), (0, z_div v8 12), (0, z_rem v8 12), (0, v3), (0, v4)] μ).bind fun q1 => (bif decide (q1.1 ≤ 0) then (g_W_exchange_98 E v1 v2 v3 v4 v5 v6 v7 v8 q1.1 q1.2) else (g_W_exchange_98 E v1 v2 v3 v4 (zw (v5 + 1)) v6 v7 v8 q1.1 q1.2))) := by
    intro C E
    rfl
  exact key _ _
set_option maxRecDepth 100000 in
theorem e_W_exchange_152 (z : zZ) (d : Nat) (v5 : Int) (μ : Mu) : f_W_exchange_152 z d v5 μ = some (v5, μ) := by
  show mE z d q_W_exchange 152 [(9, 0), (9, 0), (9, 0), (9, 0), (9, 0), (0, v5), (9, 0), (9, 0), (9, 0), (9, 0)] [] μ = _
  rw [mE_bk (M := q_W_exchange) k_W_exchange.1 k_W_exchange.2 [16, 62, 98, 118, 152, 155, 170, 171, 186, 187] 400]
  have key : ∀ (C : Nat → List zv → Mu → mR) (E : Nat → List zv → List zv → Mu → mR), mbk C E q_W_exchange.1 q_W_exchange.2.1 z q_W_exchange.2.2.2 [16, 62, 98, 118, 152, 155, 170, 171, 186, 187] 400 (zfind q_W_exchange.2.2.2 152) [(9, 0), (9, 0), (9, 0), (9, 0), (9, 0), (0, v5), (9, 0), (9, 0), (9, 0), (9, 0)] [] μ = some (v5, μ) := by
    intro C E
    rfl
  exact key _ _
set_option maxRecDepth 100000 in
theorem e_W_exchange_155 (z : zZ) (d : Nat) (v5 : Int) (v7 : Int) (μ : Mu) : f_W_exchange_155 z d v5 v7 μ = bif !decide (v5 = 0) then (f_W_exchange_170 z d (z_div v7 12) μ) else (f_W_exchange_170 z d ((-2)) μ) := by
  show mE z d q_W_exchange 155 [(9, 0), (9, 0), (9, 0), (9, 0), (9, 0), (0, v5), (9, 0), (0, v7), (9, 0), (9, 0)] [] μ = _
  rw [mE_bk (M := q_W_exchange) k_W_exchange.1 k_W_exchange.2 [16, 62, 98, 118, 152, 155, 170, 171, 186, 187] 400]
  have key : ∀ (C : Nat → List zv → Mu → mR) (E : Nat → List zv → List zv → Mu → mR), mbk C E q_W_exchange.1 q_W_exchange.2.1 z q_W_exchange.2.2.2 [16, 62, 98, 118, 152, 155, 170, 171, 186, 187] 400 (zfind q_W_exchange.2.2.2 155) [(9, 0), (9, 0), (9, 0), (9, 0), (9, 0), (0, v5), (9, 0), (0, v7), (9, 0), (9, 0)] [] μ = bif !decide (v5 = 0) then (g_W_exchange_170 E (z_div v7 12) μ) else (g_W_exchange_170 E ((-2)) μ) := by
    intro C E
    rfl
  exact key _ _
set_option maxRecDepth 100000 in
theorem e_W_exchange_171 (z : zZ) (d : Nat) (v5 : Int) (v7 : Int) (μ : Mu) : f_W_exchange_171 z d v5 v7 μ = bif !decide (v5 = 0) then (f_W_exchange_186 z d (z_rem v7 12) μ) else (f_W_exchange_186 z d ((-2)) μ) := by
  show mE z d q_W_exchange 171 [(9, 0), (9, 0), (9, 0), (9, 0), (9, 0), (0, v5), (9, 0), (0, v7), (9, 0), (9, 0)] [] μ = _
  rw [mE_bk (M := q_W_exchange) k_W_exchange.1 k_W_exchange.2 [16, 62, 98, 118, 152, 155, 170, 171, 186, 187] 400]
  have key : ∀ (C : Nat → List zv → Mu → mR) (E : Nat → List zv → List zv → Mu → mR), mbk C E q_W_exchange.1 q_W_exchange.2.1 z q_W_exchange.2.2.2 [16, 62, 98, 118, 152, 155, 170, 171, 186, 187] 400 (zfind q_W_exchange.2.2.2 171) [(9, 0), (9, 0), (9, 0), (9, 0), (9, 0), (0, v5), (9, 0), (0, v7), (9, 0), (9, 0)] [] μ = bif !decide (v5 = 0) then (g_W_exchange_186 E (z_rem v7 12) μ) else (g_W_exchange_186 E ((-2)) μ) := by
    intro C E
    rfl
  exact key _ _
set_option maxRecDepth 100000 in
theorem e_W_exchange_187 (z : zZ) (d : Nat) (v6 : Int) (μ : Mu) : f_W_exchange_187 z d v6 μ = some (v6, μ) := by
  show mE z d q_W_exchange 187 [(9, 0), (9, 0), (9, 0), (9, 0), (9, 0), (9, 0), (0, v6), (9, 0), (9, 0), (9, 0)] [] μ = _
  rw [mE_bk (M := q_W_exchange) k_W_exchange.1 k_W_exchange.2 [16, 62, 98, 118, 152, 155, 170, 171, 186, 187] 400]
  have key : ∀ (C : Nat → List zv → Mu → mR) (E : Nat → List zv → List zv → Mu → mR), mbk C E q_W_exchange.1 q_W_exchange.2.1 z q_W_exchange.2.2.2 [16, 62, 98, 118, 152, 155, 170, 171, 186, 187] 400 (zfind q_W_exchange.2.2.2 187) [(9, 0), (9, 0), (9, 0), (9, 0), (9, 0), (9, 0), (0, v6), (9, 0), (9, 0), (9, 0)] [] μ = some (v6, μ) := by
    intro C E
    rfl
  exact key _ _
set_option maxRecDepth 100000 in
theorem e_W_exchange_98 (z : zZ) (d : Nat) (v1 : Int) (v2 : Int) (v3 : Int) (v4 : Int) (v5 : Int) (v6 : Int) (v7 : Int) (v8 : Int) (v9 : Int) (μ : Mu) : f_W_exchange_98 z d v1 v2 v3 v4 v5 v6 v7 v8 v9 μ = bif decide (v9 ≤ 0) then (f_W_exchange_118 z d v1 v2 v3 v4 v5 v6 v7 v8 μ) else (bif decide (v9 ≤ v6) then (f_W_exchange_118 z d v1 v2 v3 v4 v5 v6 v7 v8 μ) else (f_W_exchange_118 z d v1 v2 v3 v4 v5 v9 v8 v8 μ)) := by
  show mE z d q_W_exchange 98 [(2, 0), (0, v1), (0, v2), (0, v3), (0, v4), (0, v5), (0, v6), (0, v7), (0, v8), (0, v9)] [] μ = _
  rw [mE_bk (M := q_W_exchange) k_W_exchange.1 k_W_exchange.2 [16, 62, 98, 118, 152, 155, 170, 171, 186, 187] 400]
  have key : ∀ (C : Nat → List zv → Mu → mR) (E : Nat → List zv → List zv → Mu → mR), mbk C E q_W_exchange.1 q_W_exchange.2.1 z q_W_exchange.2.2.2 [16, 62, 98, 118, 152, 155, 170, 171, 186, 187] 400 (zfind q_W_exchange.2.2.2 98) [(2, 0), (0, v1), (0, v2), (0, v3), (0, v4), (0, v5), (0, v6), (0, v7), (0, v8), (0, v9)] [] μ = bif decide (v9 ≤ 0) then (g_W_exchange_118 E v1 v2 v3 v4 v5 v6 v7 v8 μ) else (bif decide (v9 ≤ v6) then (g_W_exchange_118 E v1 v2 v3 v4 v5 v6 v7 v8 μ) else (g_W_exchange_118 E v1 v2 v3 v4 v5 v9 v8 v8 μ)) := by
    intro C E
    rfl
  exact key _ _
set_option maxRecDepth 100000 in
theorem e_W_exchange_170 (z : zZ) (d : Nat) (v100 : Int) (μ : Mu) : f_W_exchange_170 z d v100 μ = some (v100, μ) := by
  show mE z d q_W_exchange 170 [(9, 0), (9, 0), (9, 0), (9, 0), (9, 0), (9, 0), (9, 0), (9, 0), (9, 0), (9, 0)] [(0, v100)] μ = _
  rw [mE_bk (M := q_W_exchange) k_W_exchange.1 k_W_exchange.2 [16, 62, 98, 118, 152, 155, 170, 171, 186, 187] 400]
  have key : ∀ (C : Nat → List zv → Mu → mR) (E : Nat → List zv → List zv → Mu → mR), mbk C E q_W_exchange.1 q_W_exchange.2.1 z q_W_exchange.2.2.2 [16, 62, 98, 118, 152, 155, 170, 171, 186, 187] 400 (zfind q_W_exchange.2.2.2 170) [(9, 0), (9, 0), (9, 0), (9, 0), (9, 0), (9, 0), (9, 0), (9, 0), (9, 0), (9, 0)] [(0, v100)] μ = some (v100, μ) := by
    intro C E
    rfl
  exact key _ _
set_option maxRecDepth 100000 in
theorem e_W_exchange_186 (z : zZ) (d : Nat) (v100 : Int) (μ : Mu) : f_W_exchange_186 z d v100 μ = some (v100, μ) := by
  show mE z d q_W_exchange 186 [(9, 0), (9, 0), (9, 0), (9, 0), (9, 0), (9, 0), (9, 0), (9, 0), (9, 0), (9, 0)] [(0, v100)] μ = _
  rw [mE_bk (M := q_W_exchange) k_W_exchange.1 k_W_exchange.2 [16, 62, 98, 118, 152, 155, 170, 171, 186, 187] 400]
  have key : ∀ (C : Nat → List zv → Mu → mR) (E : Nat → List zv → List zv → Mu → mR), mbk C E q_W_exchange.1 q_W_exchange.2.1 z q_W_exchange.2.2.2 [16, 62, 98, 118, 152, 155, 170, 171, 186, 187] 400 (zfind q_W_exchange.2.2.2 186) [(9, 0), (9, 0), (9, 0), (9, 0), (9, 0), (9, 0), (9, 0), (9, 0), (9, 0), (9, 0)] [(0, v100)] μ = some (v100, μ) := by
    intro C E
    rfl
  exact key _ _
set_option maxRecDepth 100000 in
theorem e_W_exchange_118 (z : zZ) (d : Nat) (v1 : Int) (v2 : Int) (v3 : Int) (v4 : Int) (v5 : Int) (v6 : Int) (v7 : Int) (v8 : Int) (μ : Mu) : f_W_exchange_118 z d v1 v2 v3 v4 v5 v6 v7 v8 μ = f_W_exchange_62 z d v1 v2 v3 v4 v5 v6 v7 (zw (v8 + 1)) μ := by
  show mE z d q_W_exchange 118 [(2, 0), (0, v1), (0, v2), (0, v3), (0, v4), (0, v5), (0, v6), (0, v7), (0, v8), (9, 0)] [] μ = _
  rw [mE_bk (M := q_W_exchange) k_W_exchange.1 k_W_exchange.2 [16, 62, 98, 118, 152, 155, 170, 171, 186, 187] 400]
  have key : ∀ (C : Nat → List zv → Mu → mR) (E : Nat → List zv → List zv → Mu → mR), mbk C E q_W_exchange.1 q_W_exchange.2.1 z q_W_exchange.2.2.2 [16, 62, 98, 118, 152, 155, 170, 171, 186, 187] 400 (zfind q_W_exchange.2.2.2 118) [(2, 0), (0, v1), (0, v2), (0, v3), (0, v4), (0, v5), (0, v6), (0, v7), (0, v8), (9, 0)] [] μ = g_W_exchange_62 E v1 v2 v3 v4 v5 v6 v7 (zw (v8 + 1)) μ := by
    intro C E
    rfl
  exact key _ _
def g_W_gainTogether_32 (E : Nat → List zv → List zv → Mu → mR) (μ : Mu) : mR := E 32 [(9, 0), (9, 0), (9, 0), (9, 0), (9, 0), (9, 0), (9, 0), (9, 0), (9, 0)] [] μ
noncomputable def f_W_gainTogether_32 (z : zZ) (d : Nat) (μ : Mu) : mR := g_W_gainTogether_32 (fun pc ls st μ => mE z d q_W_gainTogether pc ls st μ) μ
def g_W_gainTogether_34 (E : Nat → List zv → List zv → Mu → mR) (v1 : Int) (v2 : Int) (v3 : Int) (v4 : Int) (v5 : Int) (μ : Mu) : mR := E 34 [(2, 0), (0, v1), (0, v2), (0, v3), (0, v4), (0, v5), (9, 0), (9, 0), (9, 0)] [] μ
noncomputable def f_W_gainTogether_34 (z : zZ) (d : Nat) (v1 : Int) (v2 : Int) (v3 : Int) (v4 : Int) (v5 : Int) (μ : Mu) : mR := g_W_gainTogether_34 (fun pc ls st μ => mE z d q_W_gainTogether pc ls st μ) v1 v2 v3 v4 v5 μ
def g_W_gainTogether_39 (E : Nat → List zv → List zv → Mu → mR) (v1 : Int) (v2 : Int) (v3 : Int) (v4 : Int) (v5 : Int) (μ : Mu) : mR := E 39 [(2, 0), (0, v1), (0, v2), (0, v3), (0, v4), (0, v5), (9, 0), (9, 0), (9, 0)] [] μ
noncomputable def f_W_gainTogether_39 (z : zZ) (d : Nat) (v1 : Int) (v2 : Int) (v3 : Int) (v4 : Int) (v5 : Int) (μ : Mu) : mR := g_W_gainTogether_39 (fun pc ls st μ => mE z d q_W_gainTogether pc ls st μ) v1 v2 v3 v4 v5 μ
def g_W_gainTogether_93 (E : Nat → List zv → List zv → Mu → mR) (v1 : Int) (v2 : Int) (v3 : Int) (v4 : Int) (v5 : Int) (v7 : Int) (μ : Mu) : mR := E 93 [(2, 0), (0, v1), (0, v2), (0, v3), (0, v4), (0, v5), (9, 0), (0, v7), (9, 0)] [] μ
noncomputable def f_W_gainTogether_93 (z : zZ) (d : Nat) (v1 : Int) (v2 : Int) (v3 : Int) (v4 : Int) (v5 : Int) (v7 : Int) (μ : Mu) : mR := g_W_gainTogether_93 (fun pc ls st μ => mE z d q_W_gainTogether pc ls st μ) v1 v2 v3 v4 v5 v7 μ
theorem k_W_gainTogether : zprK q_W_gainTogether.2.2.2 = true ∧ zinc q_W_gainTogether.2.2.2 = true := by decide +kernel
set_option maxRecDepth 100000 in
theorem c_W_gainTogether (z : zZ) (d : Nat) (v1 : Int) (v2 : Int) (v3 : Int) (v4 : Int) (v5 : Int) (μ : Mu) : mC z (d + 1) 123 [(2, 0), (0, v1), (0, v2), (0, v3), (0, v4), (0, v5)] μ = (mC z d 124 [(2, 0), (0, v1), (0, v2), (0, v3)] μ).bind fun q1 => (bif !decide (q1.1 = 0) then ((mC z d 125 [(2, 0), (0, v1), (0, v3)] q1.2).bind fun q2 => (bif decide (q2.1 = 0) then (f_W_gainTogether_32 z d q2.2) else ((mC z d 125 [(2, 0), (0, zw (1 - v1)), (0, v2)] q2.2).bind fun q3 => (bif !decide (q3.1 = 0) then (f_W_gainTogether_34 z d v1 v2 v3 v4 v5 q3.2) else (f_W_gainTogether_32 z d q3.2))))) else (some (0, q1.2))) := by
  rw [mC_succ q_W_gainTogether rfl rfl rfl]
  rw [mE_bk (M := q_W_gainTogether) k_W_gainTogether.1 k_W_gainTogether.2 [32, 34, 39, 93] 400]
  have key : ∀ (C : Nat → List zv → Mu → mR) (E : Nat → List zv → List zv → Mu → mR), mbk C E q_W_gainTogether.1 q_W_gainTogether.2.1 z q_W_gainTogether.2.2.2 [32, 34, 39, 93] 400 (zfind q_W_gainTogether.2.2.2 0) (zentry q_W_gainTogether.2.2.1 [(2, 0), (0, v1), (0, v2), (0, v3), (0, v4), (0, v5)]) [] μ = (C 124 [(2, 0), (0, v1), (0, v2), (0, v3)] μ).bind fun q1 => (bif !decide (q1.1 = 0) then ((C 125 [(2, 0), (0, v1), (0, v3)] q1.2).bind fun q2 => (bif decide (q2.1 = 0) then (g_W_gainTogether_32 E q2.2) else ((C 125 [(2, 0), (0, zw (1 - v1)), (0, v2)] q2.2).bind fun q3 => (bif !decide (q3.1 = 0) then (g_W_gainTogether_34 E v1 v2 v3 v4 v5 q3.2) else (g_W_gainTogether_32 E q3.2))))) else (some (0, q1.2))) := by
    intro C E
    rfl
  exact key _ _
set_option maxRecDepth 100000 in
theorem e_W_gainTogether_32 (z : zZ) (d : Nat) (μ : Mu) : f_W_gainTogether_32 z d μ = some (0, μ) := by
  show mE z d q_W_gainTogether 32 [(9, 0), (9, 0), (9, 0), (9, 0), (9, 0), (9, 0), (9, 0), (9, 0), (9, 0)] [] μ = _
  rw [mE_bk (M := q_W_gainTogether) k_W_gainTogether.1 k_W_gainTogether.2 [32, 34, 39, 93] 400]
  have key : ∀ (C : Nat → List zv → Mu → mR) (E : Nat → List zv → List zv → Mu → mR), mbk C E q_W_gainTogether.1 q_W_gainTogether.2.1 z q_W_gainTogether.2.2.2 [32, 34, 39, 93] 400 (zfind q_W_gainTogether.2.2.2 32) [(9, 0), (9, 0), (9, 0), (9, 0), (9, 0), (9, 0), (9, 0), (9, 0), (9, 0)] [] μ = some (0, μ) := by
    intro C E
    rfl
  exact key _ _
set_option maxRecDepth 100000 in
theorem e_W_gainTogether_34 (z : zZ) (d : Nat) (v1 : Int) (v2 : Int) (v3 : Int) (v4 : Int) (v5 : Int) (μ : Mu) : f_W_gainTogether_34 z d v1 v2 v3 v4 v5 μ = (mC z d 82 [(2, 0), (0, v1)] μ).bind fun q1 => (f_W_gainTogether_39 z d v1 v2 v3 v4 v5 q1.2) := by
  show mE z d q_W_gainTogether 34 [(2, 0), (0, v1), (0, v2), (0, v3), (0, v4), (0, v5), (9, 0), (9, 0), (9, 0)] [] μ = _
  rw [mE_bk (M := q_W_gainTogether) k_W_gainTogether.1 k_W_gainTogether.2 [32, 34, 39, 93] 400]
  have key : ∀ (C : Nat → List zv → Mu → mR) (E : Nat → List zv → List zv → Mu → mR), mbk C E q_W_gainTogether.1 q_W_gainTogether.2.1 z q_W_gainTogether.2.2.2 [32, 34, 39, 93] 400 (zfind q_W_gainTogether.2.2.2 34) [(2, 0), (0, v1), (0, v2), (0, v3), (0, v4), (0, v5), (9, 0), (9, 0), (9, 0)] [] μ = (C 82 [(2, 0), (0, v1)] μ).bind fun q1 => (g_W_gainTogether_39 E v1 v2 v3 v4 v5 q1.2) := by
    intro C E
    rfl
  exact key _ _
set_option maxRecDepth 100000 in
theorem e_W_gainTogether_39 (z : zZ) (d : Nat) (v1 : Int) (v2 : Int) (v3 : Int) (v4 : Int) (v5 : Int) (μ : Mu) (m0_6 : Nat) (hcm0_6 : m0_6 = 41 ∨ m0_6 = 47) (hm0_6 : μ 0 6 = ((m0_6 : Nat) : Int) + 1) : f_W_gainTogether_39 z d v1 v2 v3 v4 v5 μ = (mC z d 86 [(2, ((m0_6 : Nat) : Int)), (0, 119), (2, 53)] (zup (zup μ 53 7 v2) 53 9 v3)).bind fun q1 => ((mC z d 109 [(2, 0), (0, v1), (0, v3), (0, v2), (0, zw (v4 + q1.1))] q1.2).bind fun q2 => (bif decide (zw (v4 + q1.1) < q2.1) then (f_W_gainTogether_93 z d v1 v2 v3 v4 v5 q2.1 q2.2) else (some (0, q2.2)))) := by
  show mE z d q_W_gainTogether 39 [(2, 0), (0, v1), (0, v2), (0, v3), (0, v4), (0, v5), (9, 0), (9, 0), (9, 0)] [] μ = _
  rw [mE_bk (M := q_W_gainTogether) k_W_gainTogether.1 k_W_gainTogether.2 [32, 34, 39, 93] 400]
  have key : ∀ (C : Nat → List zv → Mu → mR) (E : Nat → List zv → List zv → Mu → mR), mbk C E q_W_gainTogether.1 q_W_gainTogether.2.1 z q_W_gainTogether.2.2.2 [32, 34, 39, 93] 400 (zfind q_W_gainTogether.2.2.2 39) [(2, 0), (0, v1), (0, v2), (0, v3), (0, v4), (0, v5), (9, 0), (9, 0), (9, 0)] [] μ = (C 86 [(2, ((m0_6 : Nat) : Int)), (0, 119), (2, 53)] (zup (zup μ 53 7 v2) 53 9 v3)).bind fun q1 => ((C 109 [(2, 0), (0, v1), (0, v3), (0, v2), (0, zw (v4 + q1.1))] q1.2).bind fun q2 => (bif decide (zw (v4 + q1.1) < q2.1) then (g_W_gainTogether_93 E v1 v2 v3 v4 v5 q2.1 q2.2) else (some (0, q2.2)))) := by
    intro C E
    rcases hcm0_6 with rfl | rfl <;> (rw [← zup_self hm0_6]; rfl)
  exact key _ _
set_option maxRecDepth 100000 in
theorem e_W_gainTogether_93 (z : zZ) (d : Nat) (v1 : Int) (v2 : Int) (v3 : Int) (v4 : Int) (v5 : Int) (v7 : Int) (μ : Mu) : f_W_gainTogether_93 z d v1 v2 v3 v4 v5 v7 μ = (mC z d 109 [(2, 0), (0, zw (1 - v1)), (0, v2), (0, v3), (0, v5)] μ).bind fun q1 => (bif decide (v5 < q1.1) then (some (zw ((zw ((zw (v7 - v4)) + q1.1)) - v5), q1.2)) else (some (0, q1.2))) := by
  show mE z d q_W_gainTogether 93 [(2, 0), (0, v1), (0, v2), (0, v3), (0, v4), (0, v5), (9, 0), (0, v7), (9, 0)] [] μ = _
  rw [mE_bk (M := q_W_gainTogether) k_W_gainTogether.1 k_W_gainTogether.2 [32, 34, 39, 93] 400]
  have key : ∀ (C : Nat → List zv → Mu → mR) (E : Nat → List zv → List zv → Mu → mR), mbk C E q_W_gainTogether.1 q_W_gainTogether.2.1 z q_W_gainTogether.2.2.2 [32, 34, 39, 93] 400 (zfind q_W_gainTogether.2.2.2 93) [(2, 0), (0, v1), (0, v2), (0, v3), (0, v4), (0, v5), (9, 0), (0, v7), (9, 0)] [] μ = (C 109 [(2, 0), (0, zw (1 - v1)), (0, v2), (0, v3), (0, v5)] μ).bind fun q1 => (bif decide (v5 < q1.1) then (some (zw ((zw ((zw (v7 - v4)) + q1.1)) - v5), q1.2)) else (some (0, q1.2))) := by
    intro C E
    rfl
  exact key _ _
def g_W_canExchange_5 (E : Nat → List zv → List zv → Mu → mR) (v1 : Int) (v2 : Int) (v3 : Int) (μ : Mu) : mR := E 5 [(2, 0), (0, v1), (0, v2), (0, v3)] [] μ
noncomputable def f_W_canExchange_5 (z : zZ) (d : Nat) (v1 : Int) (v2 : Int) (v3 : Int) (μ : Mu) : mR := g_W_canExchange_5 (fun pc ls st μ => mE z d q_W_canExchange pc ls st μ) v1 v2 v3 μ
def g_W_canExchange_21 (E : Nat → List zv → List zv → Mu → mR) (v1 : Int) (v2 : Int) (v3 : Int) (μ : Mu) : mR := E 21 [(2, 0), (0, v1), (0, v2), (0, v3)] [] μ
noncomputable def f_W_canExchange_21 (z : zZ) (d : Nat) (v1 : Int) (v2 : Int) (v3 : Int) (μ : Mu) : mR := g_W_canExchange_21 (fun pc ls st μ => mE z d q_W_canExchange pc ls st μ) v1 v2 v3 μ
def g_W_canExchange_43 (E : Nat → List zv → List zv → Mu → mR) (μ : Mu) : mR := E 43 [(9, 0), (9, 0), (9, 0), (9, 0)] [] μ
noncomputable def f_W_canExchange_43 (z : zZ) (d : Nat) (μ : Mu) : mR := g_W_canExchange_43 (fun pc ls st μ => mE z d q_W_canExchange pc ls st μ) μ
def g_W_canExchange_44 (E : Nat → List zv → List zv → Mu → mR) (v100 : Int) (μ : Mu) : mR := E 44 [(9, 0), (9, 0), (9, 0), (9, 0)] [(0, v100)] μ
noncomputable def f_W_canExchange_44 (z : zZ) (d : Nat) (v100 : Int) (μ : Mu) : mR := g_W_canExchange_44 (fun pc ls st μ => mE z d q_W_canExchange pc ls st μ) v100 μ
theorem k_W_canExchange : zprK q_W_canExchange.2.2.2 = true ∧ zinc q_W_canExchange.2.2.2 = true := by decide +kernel
set_option maxRecDepth 100000 in
theorem c_W_canExchange (z : zZ) (d : Nat) (v1 : Int) (v2 : Int) (v3 : Int) (μ : Mu) : mC z (d + 1) 124 [(2, 0), (0, v1), (0, v2), (0, v3)] μ = bif decide (v2 = v3) then (f_W_canExchange_43 z d μ) else (f_W_canExchange_5 z d v1 v2 v3 μ) := by
  rw [mC_succ q_W_canExchange rfl rfl rfl]
  rw [mE_bk (M := q_W_canExchange) k_W_canExchange.1 k_W_canExchange.2 [5, 21, 43, 44] 400]
  have key : ∀ (C : Nat → List zv → Mu → mR) (E : Nat → List zv → List zv → Mu → mR), mbk C E q_W_canExchange.1 q_W_canExchange.2.1 z q_W_canExchange.2.2.2 [5, 21, 43, 44] 400 (zfind q_W_canExchange.2.2.2 0) (zentry q_W_canExchange.2.2.1 [(2, 0), (0, v1), (0, v2), (0, v3)]) [] μ = bif decide (v2 = v3) then (g_W_canExchange_43 E μ) else (g_W_canExchange_5 E v1 v2 v3 μ) := by
    intro C E
    rfl
  exact key _ _
set_option maxRecDepth 100000 in
theorem e_W_canExchange_43 (z : zZ) (d : Nat) (μ : Mu) : f_W_canExchange_43 z d μ = f_W_canExchange_44 z d 0 μ := by
  show mE z d q_W_canExchange 43 [(9, 0), (9, 0), (9, 0), (9, 0)] [] μ = _
  rw [mE_bk (M := q_W_canExchange) k_W_canExchange.1 k_W_canExchange.2 [5, 21, 43, 44] 400]
  have key : ∀ (C : Nat → List zv → Mu → mR) (E : Nat → List zv → List zv → Mu → mR), mbk C E q_W_canExchange.1 q_W_canExchange.2.1 z q_W_canExchange.2.2.2 [5, 21, 43, 44] 400 (zfind q_W_canExchange.2.2.2 43) [(9, 0), (9, 0), (9, 0), (9, 0)] [] μ = g_W_canExchange_44 E 0 μ := by
    intro C E
    rfl
  exact key _ _
set_option maxRecDepth 100000 in
theorem e_W_canExchange_5 (z : zZ) (d : Nat) (v1 : Int) (v2 : Int) (v3 : Int) (μ : Mu) (hv1 : v1 = 0 ∨ v1 = 1) : f_W_canExchange_5 z d v1 v2 v3 μ = gI (zw (0 + v2)) 36 (bif decide (μ ((4 + 9 * v1.toNat) + 3) ((zw (0 + v2)).toNat) ≤ 0) then (f_W_canExchange_43 z d μ) else (f_W_canExchange_21 z d v1 v2 v3 μ)) := by
  show mE z d q_W_canExchange 5 [(2, 0), (0, v1), (0, v2), (0, v3)] [] μ = _
  rw [mE_bk (M := q_W_canExchange) k_W_canExchange.1 k_W_canExchange.2 [5, 21, 43, 44] 400]
  have key : ∀ (C : Nat → List zv → Mu → mR) (E : Nat → List zv → List zv → Mu → mR), mbk C E q_W_canExchange.1 q_W_canExchange.2.1 z q_W_canExchange.2.2.2 [5, 21, 43, 44] 400 (zfind q_W_canExchange.2.2.2 5) [(2, 0), (0, v1), (0, v2), (0, v3)] [] μ = gI (zw (0 + v2)) 36 (bif decide (μ ((4 + 9 * v1.toNat) + 3) ((zw (0 + v2)).toNat) ≤ 0) then (g_W_canExchange_43 E μ) else (g_W_canExchange_21 E v1 v2 v3 μ)) := by
    intro C E
    rcases hv1 with rfl | rfl <;> (rfl)
  exact key _ _
set_option maxRecDepth 100000 in
theorem e_W_canExchange_44 (z : zZ) (d : Nat) (v100 : Int) (μ : Mu) : f_W_canExchange_44 z d v100 μ = g01 v100 (some (v100, μ)) := by
  show mE z d q_W_canExchange 44 [(9, 0), (9, 0), (9, 0), (9, 0)] [(0, v100)] μ = _
  rw [mE_bk (M := q_W_canExchange) k_W_canExchange.1 k_W_canExchange.2 [5, 21, 43, 44] 400]
  have key : ∀ (C : Nat → List zv → Mu → mR) (E : Nat → List zv → List zv → Mu → mR), mbk C E q_W_canExchange.1 q_W_canExchange.2.1 z q_W_canExchange.2.2.2 [5, 21, 43, 44] 400 (zfind q_W_canExchange.2.2.2 44) [(9, 0), (9, 0), (9, 0), (9, 0)] [(0, v100)] μ = g01 v100 (some (v100, μ)) := by
    intro C E
    rfl
  exact key _ _
set_option maxRecDepth 100000 in
theorem e_W_canExchange_21 (z : zZ) (d : Nat) (v1 : Int) (v2 : Int) (v3 : Int) (μ : Mu) (hv1 : v1 = 0 ∨ v1 = 1) : f_W_canExchange_21 z d v1 v2 v3 μ = gI (zw (0 + v3)) 36 (bif decide (μ ((4 + 9 * (zw (1 - v1)).toNat) + 3) ((zw (0 + v3)).toNat) ≤ 0) then (f_W_canExchange_43 z d μ) else (f_W_canExchange_44 z d 1 μ)) := by
  show mE z d q_W_canExchange 21 [(2, 0), (0, v1), (0, v2), (0, v3)] [] μ = _
  rw [mE_bk (M := q_W_canExchange) k_W_canExchange.1 k_W_canExchange.2 [5, 21, 43, 44] 400]
  have key : ∀ (C : Nat → List zv → Mu → mR) (E : Nat → List zv → List zv → Mu → mR), mbk C E q_W_canExchange.1 q_W_canExchange.2.1 z q_W_canExchange.2.2.2 [5, 21, 43, 44] 400 (zfind q_W_canExchange.2.2.2 21) [(2, 0), (0, v1), (0, v2), (0, v3)] [] μ = gI (zw (0 + v3)) 36 (bif decide (μ ((4 + 9 * (zw (1 - v1)).toNat) + 3) ((zw (0 + v3)).toNat) ≤ 0) then (g_W_canExchange_43 E μ) else (g_W_canExchange_44 E 1 μ)) := by
    intro C E
    rcases hv1 with rfl | rfl <;> (rfl)
  exact key _ _
def g_W_wants_13 (E : Nat → List zv → List zv → Mu → mR) (v2 : Int) (o3 : Nat) (v4 : Int) (v5 : Int) (μ : Mu) : mR := E 13 [(9, 0), (9, 0), (0, v2), (2, ((o3 : Nat) : Int)), (0, v4), (0, v5)] [] μ
noncomputable def f_W_wants_13 (z : zZ) (d : Nat) (v2 : Int) (o3 : Nat) (v4 : Int) (v5 : Int) (μ : Mu) : mR := g_W_wants_13 (fun pc ls st μ => mE z d q_W_wants pc ls st μ) v2 o3 v4 v5 μ
def g_W_wants_47 (E : Nat → List zv → List zv → Mu → mR) (v2 : Int) (o3 : Nat) (v4 : Int) (v5 : Int) (μ : Mu) : mR := E 47 [(9, 0), (9, 0), (0, v2), (2, ((o3 : Nat) : Int)), (0, v4), (0, v5)] [] μ
noncomputable def f_W_wants_47 (z : zZ) (d : Nat) (v2 : Int) (o3 : Nat) (v4 : Int) (v5 : Int) (μ : Mu) : mR := g_W_wants_47 (fun pc ls st μ => mE z d q_W_wants pc ls st μ) v2 o3 v4 v5 μ
def g_W_wants_71 (E : Nat → List zv → List zv → Mu → mR) (v100 : Int) (μ : Mu) : mR := E 71 [(9, 0), (9, 0), (9, 0), (9, 0), (9, 0), (9, 0)] [(0, v100)] μ
noncomputable def f_W_wants_71 (z : zZ) (d : Nat) (v100 : Int) (μ : Mu) : mR := g_W_wants_71 (fun pc ls st μ => mE z d q_W_wants pc ls st μ) v100 μ
theorem k_W_wants : zprK q_W_wants.2.2.2 = true ∧ zinc q_W_wants.2.2.2 = true := by decide +kernel
set_option maxRecDepth 100000 in
theorem c_W_wants (z : zZ) (d : Nat) (v1 : Int) (v2 : Int) (μ : Mu) (hv1 : v1 = 0 ∨ v1 = 1) : mC z (d + 1) 125 [(2, 0), (0, v1), (0, v2)] μ = f_W_wants_13 z d v2 (4 + 9 * v1.toNat) 0 0 μ := by
  rw [mC_succ q_W_wants rfl rfl rfl]
  rw [mE_bk (M := q_W_wants) k_W_wants.1 k_W_wants.2 [13, 47, 71] 400]
  have key : ∀ (C : Nat → List zv → Mu → mR) (E : Nat → List zv → List zv → Mu → mR), mbk C E q_W_wants.1 q_W_wants.2.1 z q_W_wants.2.2.2 [13, 47, 71] 400 (zfind q_W_wants.2.2.2 0) (zentry q_W_wants.2.2.1 [(2, 0), (0, v1), (0, v2)]) [] μ = g_W_wants_13 E v2 (4 + 9 * v1.toNat) 0 0 μ := by
    intro C E
    rcases hv1 with rfl | rfl <;> (rfl)
  exact key _ _
set_option maxRecDepth 100000 in
theorem e_W_wants_13 (z : zZ) (d : Nat) (v2 : Int) (o3 : Nat) (v4 : Int) (v5 : Int) (μ : Mu) (ho3 : o3 = 4 ∨ o3 = 13) : f_W_wants_13 z d v2 o3 v4 v5 μ = bif decide (μ o3 6 ≤ v5) then (gI (zw (0 + v2)) 36 (bif decide (v4 ≤ μ (o3 + 3) ((zw (0 + v2)).toNat)) then (f_W_wants_71 z d 0 μ) else (f_W_wants_71 z d 1 μ))) else ((mC z d 36 [(2, ((o3 : Nat) : Int)), (0, v5)] μ).bind fun q1 => (bif !decide (q1.1 = 0) then (f_W_wants_47 z d v2 o3 v4 v5 q1.2) else (gI v5 12 ((mC z d 75 [(0, q1.2 (o3 + 4) v5.toNat), (0, v2)] q1.2).bind fun q2 => (f_W_wants_47 z d v2 o3 (zw (v4 + q2.1)) v5 q2.2))))) := by
  show mE z d q_W_wants 13 [(9, 0), (9, 0), (0, v2), (2, ((o3 : Nat) : Int)), (0, v4), (0, v5)] [] μ = _
  rw [mE_bk (M := q_W_wants) k_W_wants.1 k_W_wants.2 [13, 47, 71] 400]
  have key : ∀ (C : Nat → List zv → Mu → mR) (E : Nat → List zv → List zv → Mu → mR), mbk C E q_W_wants.1 q_W_wants.2.1 z q_W_wants.2.2.2 [13, 47, 71] 400 (zfind q_W_wants.2.2.2 13) [(9, 0), (9, 0), (0, v2), (2, ((o3 : Nat) : Int)), (0, v4), (0, v5)] [] μ = bif decide (μ o3 6 ≤ v5) then (gI (zw (0 + v2)) 36 (bif decide (v4 ≤ μ (o3 + 3) ((zw (0 + v2)).toNat)) then (g_W_wants_71 E 0 μ) else (g_W_wants_71 E 1 μ))) else ((C 36 [(2, ((o3 : Nat) : Int)), (0, v5)] μ).bind fun q1 => (bif !decide (q1.1 = 0) then (g_W_wants_47 E v2 o3 v4 v5 q1.2) else (gI v5 12 ((C 75 [(0, q1.2 (o3 + 4) v5.toNat), (0, v2)] q1.2).bind fun q2 => (g_W_wants_47 E v2 o3 (zw (v4 + q2.1)) v5 q2.2))))) := by
    intro C E
    rcases ho3 with rfl | rfl <;> (rfl)
  exact key _ _
set_option maxRecDepth 100000 in
theorem e_W_wants_71 (z : zZ) (d : Nat) (v100 : Int) (μ : Mu) : f_W_wants_71 z d v100 μ = g01 v100 (some (v100, μ)) := by
  show mE z d q_W_wants 71 [(9, 0), (9, 0), (9, 0), (9, 0), (9, 0), (9, 0)] [(0, v100)] μ = _
  rw [mE_bk (M := q_W_wants) k_W_wants.1 k_W_wants.2 [13, 47, 71] 400]
  have key : ∀ (C : Nat → List zv → Mu → mR) (E : Nat → List zv → List zv → Mu → mR), mbk C E q_W_wants.1 q_W_wants.2.1 z q_W_wants.2.2.2 [13, 47, 71] 400 (zfind q_W_wants.2.2.2 71) [(9, 0), (9, 0), (9, 0), (9, 0), (9, 0), (9, 0)] [(0, v100)] μ = g01 v100 (some (v100, μ)) := by
    intro C E
    rfl
  exact key _ _
set_option maxRecDepth 100000 in
theorem e_W_wants_47 (z : zZ) (d : Nat) (v2 : Int) (o3 : Nat) (v4 : Int) (v5 : Int) (μ : Mu) (ho3 : o3 = 4 ∨ o3 = 13) : f_W_wants_47 z d v2 o3 v4 v5 μ = f_W_wants_13 z d v2 o3 v4 (zw (v5 + 1)) μ := by
  show mE z d q_W_wants 47 [(9, 0), (9, 0), (0, v2), (2, ((o3 : Nat) : Int)), (0, v4), (0, v5)] [] μ = _
  rw [mE_bk (M := q_W_wants) k_W_wants.1 k_W_wants.2 [13, 47, 71] 400]
  have key : ∀ (C : Nat → List zv → Mu → mR) (E : Nat → List zv → List zv → Mu → mR), mbk C E q_W_wants.1 q_W_wants.2.1 z q_W_wants.2.2.2 [13, 47, 71] 400 (zfind q_W_wants.2.2.2 47) [(9, 0), (9, 0), (0, v2), (2, ((o3 : Nat) : Int)), (0, v4), (0, v5)] [] μ = g_W_wants_13 E v2 o3 v4 (zw (v5 + 1)) μ := by
    intro C E
    rcases ho3 with rfl | rfl <;> (rfl)
  exact key _ _
def g_W_exchanged_31 (E : Nat → List zv → List zv → Mu → mR) (μ : Mu) : mR := E 31 [(9, 0), (9, 0), (9, 0), (9, 0)] [] μ
noncomputable def f_W_exchanged_31 (z : zZ) (d : Nat) (μ : Mu) : mR := g_W_exchanged_31 (fun pc ls st μ => mE z d q_W_exchanged pc ls st μ) μ
def g_W_exchanged_33 (E : Nat → List zv → List zv → Mu → mR) (v1 : Int) (v2 : Int) (v3 : Int) (μ : Mu) : mR := E 33 [(2, 0), (0, v1), (0, v2), (0, v3)] [] μ
noncomputable def f_W_exchanged_33 (z : zZ) (d : Nat) (v1 : Int) (v2 : Int) (v3 : Int) (μ : Mu) : mR := g_W_exchanged_33 (fun pc ls st μ => mE z d q_W_exchanged pc ls st μ) v1 v2 v3 μ
def g_W_exchanged_95 (E : Nat → List zv → List zv → Mu → mR) (v1 : Int) (v2 : Int) (v3 : Int) (μ : Mu) : mR := E 95 [(2, 0), (0, v1), (0, v2), (0, v3)] [] μ
noncomputable def f_W_exchanged_95 (z : zZ) (d : Nat) (v1 : Int) (v2 : Int) (v3 : Int) (μ : Mu) : mR := g_W_exchanged_95 (fun pc ls st μ => mE z d q_W_exchanged pc ls st μ) v1 v2 v3 μ
theorem k_W_exchanged : zprK q_W_exchanged.2.2.2 = true ∧ zinc q_W_exchanged.2.2.2 = true := by decide +kernel
set_option maxRecDepth 100000 in
theorem c_W_exchanged (z : zZ) (d : Nat) (v1 : Int) (v2 : Int) (v3 : Int) (μ : Mu) : mC z (d + 1) 126 [(2, 0), (0, v1), (0, v2), (0, v3)] μ = (mC z d 15 [(0, v1)] μ).bind fun q1 => (bif decide (q1.1 = 0) then (f_W_exchanged_31 z d q1.2) else ((mC z d 13 [(0, v2)] q1.2).bind fun q2 => (bif decide (q2.1 = 0) then (f_W_exchanged_31 z d q2.2) else ((mC z d 13 [(0, v3)] q2.2).bind fun q3 => (bif decide (q3.1 = 0) then (f_W_exchanged_31 z d q3.2) else ((mC z d 124 [(2, 0), (0, v1), (0, v2), (0, v3)] q3.2).bind fun q4 => (bif !decide (q4.1 = 0) then (f_W_exchanged_33 z d v1 v2 v3 q4.2) else (f_W_exchanged_31 z d q4.2)))))))) := by
  rw [mC_succ q_W_exchanged rfl rfl rfl]
  rw [mE_bk (M := q_W_exchanged) k_W_exchanged.1 k_W_exchanged.2 [31, 33, 95] 400]
  have key : ∀ (C : Nat → List zv → Mu → mR) (E : Nat → List zv → List zv → Mu → mR), mbk C E q_W_exchanged.1 q_W_exchanged.2.1 z q_W_exchanged.2.2.2 [31, 33, 95] 400 (zfind q_W_exchanged.2.2.2 0) (zentry q_W_exchanged.2.2.1 [(2, 0), (0, v1), (0, v2), (0, v3)]) [] μ = (C 15 [(0, v1)] μ).bind fun q1 => (bif decide (q1.1 = 0) then (g_W_exchanged_31 E q1.2) else ((C 13 [(0, v2)] q1.2).bind fun q2 => (bif decide (q2.1 = 0) then (g_W_exchanged_31 E q2.2) else ((C 13 [(0, v3)] q2.2).bind fun q3 => (bif decide (q3.1 = 0) then (g_W_exchanged_31 E q3.2) else ((C 124 [(2, 0), (0, v1), (0, v2), (0, v3)] q3.2).bind fun q4 => (bif !decide (q4.1 = 0) then (g_W_exchanged_33 E v1 v2 v3 q4.2) else (g_W_exchanged_31 E q4.2)))))))) := by
    intro C E
    rfl
  exact key _ _
set_option maxRecDepth 100000 in
theorem e_W_exchanged_31 (z : zZ) (d : Nat) (μ : Mu) : f_W_exchanged_31 z d μ = some (0, μ) := by
  show mE z d q_W_exchanged 31 [(9, 0), (9, 0), (9, 0), (9, 0)] [] μ = _
  rw [mE_bk (M := q_W_exchanged) k_W_exchanged.1 k_W_exchanged.2 [31, 33, 95] 400]
  have key : ∀ (C : Nat → List zv → Mu → mR) (E : Nat → List zv → List zv → Mu → mR), mbk C E q_W_exchanged.1 q_W_exchanged.2.1 z q_W_exchanged.2.2.2 [31, 33, 95] 400 (zfind q_W_exchanged.2.2.2 31) [(9, 0), (9, 0), (9, 0), (9, 0)] [] μ = some (0, μ) := by
    intro C E
    rfl
  exact key _ _
set_option maxRecDepth 100000 in
theorem e_W_exchanged_33 (z : zZ) (d : Nat) (v1 : Int) (v2 : Int) (v3 : Int) (μ : Mu) (hv1 : v1 = 0 ∨ v1 = 1) : f_W_exchanged_33 z d v1 v2 v3 μ = gI (zw (0 + v2)) 36 (gI (zw (0 + v2)) 36 ((mC z d 42 [(2, (((4 + 9 * (zw (1 - v1)).toNat) : Nat) : Int)), (0, 0), (0, v2), (0, 1)] (zup μ ((4 + 9 * v1.toNat) + 3) ((zw (0 + v2)).toNat) (zw ((μ ((4 + 9 * v1.toNat) + 3) ((zw (0 + v2)).toNat)) - 1)))).bind fun q1 => (gI (zw (0 + v3)) 36 (gI (zw (0 + v3)) 36 ((mC z d 42 [(2, (((4 + 9 * v1.toNat) : Nat) : Int)), (0, 0), (0, v3), (0, 1)] (zup q1.2 ((4 + 9 * (zw (1 - v1)).toNat) + 3) ((zw (0 + v3)).toNat) (zw ((q1.2 ((4 + 9 * (zw (1 - v1)).toNat) + 3) ((zw (0 + v3)).toNat)) - 1)))).bind fun q2 => (f_W_exchanged_95 z d v1 v2 v3 q2.2)))))) := by
  show mE z d q_W_exchanged 33 [(2, 0), (0, v1), (0, v2), (0, v3)] [] μ = _
  rw [mE_bk (M := q_W_exchanged) k_W_exchanged.1 k_W_exchanged.2 [31, 33, 95] 400]
  have key : ∀ (C : Nat → List zv → Mu → mR) (E : Nat → List zv → List zv → Mu → mR), mbk C E q_W_exchanged.1 q_W_exchanged.2.1 z q_W_exchanged.2.2.2 [31, 33, 95] 400 (zfind q_W_exchanged.2.2.2 33) [(2, 0), (0, v1), (0, v2), (0, v3)] [] μ = gI (zw (0 + v2)) 36 (gI (zw (0 + v2)) 36 ((C 42 [(2, (((4 + 9 * (zw (1 - v1)).toNat) : Nat) : Int)), (0, 0), (0, v2), (0, 1)] (zup μ ((4 + 9 * v1.toNat) + 3) ((zw (0 + v2)).toNat) (zw ((μ ((4 + 9 * v1.toNat) + 3) ((zw (0 + v2)).toNat)) - 1)))).bind fun q1 => (gI (zw (0 + v3)) 36 (gI (zw (0 + v3)) 36 ((C 42 [(2, (((4 + 9 * v1.toNat) : Nat) : Int)), (0, 0), (0, v3), (0, 1)] (zup q1.2 ((4 + 9 * (zw (1 - v1)).toNat) + 3) ((zw (0 + v3)).toNat) (zw ((q1.2 ((4 + 9 * (zw (1 - v1)).toNat) + 3) ((zw (0 + v3)).toNat)) - 1)))).bind fun q2 => (g_W_exchanged_95 E v1 v2 v3 q2.2)))))) := by
    intro C E
    rcases hv1 with rfl | rfl <;> (rfl)
  exact key _ _
set_option maxRecDepth 100000 in
theorem e_W_exchanged_95 (z : zZ) (d : Nat) (v1 : Int) (v2 : Int) (v3 : Int) (μ : Mu) : f_W_exchanged_95 z d v1 v2 v3 μ = some (1, μ) := by
  show mE z d q_W_exchanged 95 [(2, 0), (0, v1), (0, v2), (0, v3)] [] μ = _
  rw [mE_bk (M := q_W_exchanged) k_W_exchanged.1 k_W_exchanged.2 [31, 33, 95] 400]
  have key : ∀ (C : Nat → List zv → Mu → mR) (E : Nat → List zv → List zv → Mu → mR), mbk C E q_W_exchanged.1 q_W_exchanged.2.1 z q_W_exchanged.2.2.2 [31, 33, 95] 400 (zfind q_W_exchanged.2.2.2 95) [(2, 0), (0, v1), (0, v2), (0, v3)] [] μ = some (1, μ) := by
    intro C E
    rfl
  exact key _ _
