def g_M_against_16 (E : Nat → List zv → List zv → Mu → mR) (μ : Mu) : mR := E 16 [(9, 0), (9, 0), (9, 0), (9, 0), (9, 0), (9, 0), (9, 0)] [] μ
noncomputable def f_M_against_16 (z : zZ) (d : Nat) (μ : Mu) : mR := g_M_against_16 (fun pc ls st μ => mE z d q_M_against pc ls st μ) μ
def g_M_against_26 (E : Nat → List zv → List zv → Mu → mR) (v1 : Int) (v2 : Int) (v3 : Int) (v4 : Int) (v5 : Int) (μ : Mu) : mR := E 26 [(2, 86), (0, v1), (0, v2), (0, v3), (0, v4), (0, v5), (9, 0)] [] μ
noncomputable def f_M_against_26 (z : zZ) (d : Nat) (v1 : Int) (v2 : Int) (v3 : Int) (v4 : Int) (v5 : Int) (μ : Mu) : mR := g_M_against_26 (fun pc ls st μ => mE z d q_M_against pc ls st μ) v1 v2 v3 v4 v5 μ
def g_M_against_89 (E : Nat → List zv → List zv → Mu → mR) (v1 : Int) (v2 : Int) (v5 : Int) (v6 : Int) (μ : Mu) : mR := E 89 [(2, 86), (0, v1), (0, v2), (9, 0), (9, 0), (0, v5), (0, v6)] [] μ
noncomputable def f_M_against_89 (z : zZ) (d : Nat) (v1 : Int) (v2 : Int) (v5 : Int) (v6 : Int) (μ : Mu) : mR := g_M_against_89 (fun pc ls st μ => mE z d q_M_against pc ls st μ) v1 v2 v5 v6 μ
def g_M_against_96 (E : Nat → List zv → List zv → Mu → mR) (v1 : Int) (v2 : Int) (v3 : Int) (v4 : Int) (v5 : Int) (μ : Mu) : mR := E 96 [(2, 86), (0, v1), (0, v2), (0, v3), (0, v4), (0, v5), (9, 0)] [] μ
noncomputable def f_M_against_96 (z : zZ) (d : Nat) (v1 : Int) (v2 : Int) (v3 : Int) (v4 : Int) (v5 : Int) (μ : Mu) : mR := g_M_against_96 (fun pc ls st μ => mE z d q_M_against pc ls st μ) v1 v2 v3 v4 v5 μ
def g_M_against_112 (E : Nat → List zv → List zv → Mu → mR) (v100 : Int) (μ : Mu) : mR := E 112 [(9, 0), (9, 0), (9, 0), (9, 0), (9, 0), (9, 0), (9, 0)] [(0, v100)] μ
noncomputable def f_M_against_112 (z : zZ) (d : Nat) (v100 : Int) (μ : Mu) : mR := g_M_against_112 (fun pc ls st μ => mE z d q_M_against pc ls st μ) v100 μ
theorem k_M_against : zprK q_M_against.2.2.2 = true ∧ zinc q_M_against.2.2.2 = true := by decide +kernel
set_option maxRecDepth 100000 in
theorem c_M_against (z : zZ) (d : Nat) (v1 : Int) (v2 : Int) (μ : Mu) : mC z (d + 1) 265 [(2, 86), (0, v1), (0, v2)] μ = (mC z d 185 [(0, v1)] μ).bind fun q1 => (bif decide (q1.1 = 0) then (f_M_against_16 z d q1.2) else ((mC z d 183 [(0, v2), (0, 0), (0, 1)] q1.2).bind fun q2 => (bif !decide (q2.1 = 0) then (f_M_against_26 z d v1 v2 0 ((-1)) 0 q2.2) else (f_M_against_16 z d q2.2)))) := by
  rw [mC_succ q_M_against rfl rfl rfl]
  rw [mE_bk (M := q_M_against) k_M_against.1 k_M_against.2 [16, 26, 89, 96, 112] 400]
  have key : ∀ (C : Nat → List zv → Mu → mR) (E : Nat → List zv → List zv → Mu → mR), mbk C E q_M_against.1 q_M_against.2.1 z q_M_against.2.2.2 [16, 26, 89, 96, 112] 400 (zfind q_M_against.2.2.2 0) (zentry q_M_against.2.2.1 [(2, 86), (0, v1), (0, v2)]) [] μ = (C 185 [(0, v1)] μ).bind fun q1 => (bif decide (q1.1 = 0) then (g_M_against_16 E q1.2) else ((C 183 [(0, v2), (0, 0), (0, 1)] q1.2).bind fun q2 => (bif !decide (q2.1 = 0) then (g_M_against_26 E v1 v2 0 ((-1)) 0 q2.2) else (g_M_against_16 E q2.2)))) := by
    intro C E
    rfl
  exact key _ _
set_option maxRecDepth 100000 in
theorem e_M_against_16 (z : zZ) (d : Nat) (μ : Mu) : f_M_against_16 z d μ = some ((-1), μ) := by
  show mE z d q_M_against 16 [(9, 0), (9, 0), (9, 0), (9, 0), (9, 0), (9, 0), (9, 0)] [] μ = _
  rw [mE_bk (M := q_M_against) k_M_against.1 k_M_against.2 [16, 26, 89, 96, 112] 400]
  have key : ∀ (C : Nat → List zv → Mu → mR) (E : Nat → List zv → List zv → Mu → mR), mbk C E q_M_against.1 q_M_against.2.1 z q_M_against.2.2.2 [16, 26, 89, 96, 112] 400 (zfind q_M_against.2.2.2 16) [(9, 0), (9, 0), (9, 0), (9, 0), (9, 0), (9, 0), (9, 0)] [] μ = some ((-1), μ) := by
    intro C E
    rfl
  exact key _ _
set_option maxRecDepth 100000 in
theorem e_M_against_26 (z : zZ) (d : Nat) (v1 : Int) (v2 : Int) (v3 : Int) (v4 : Int) (v5 : Int) (μ : Mu) : f_M_against_26 z d v1 v2 v3 v4 v5 μ = (mC z d 198 [(2, 86), (0, v1)] μ).bind fun q1 => (bif decide (z_shl 1 q1.1 ≤ v5) then (bif !decide (v2 = 0) then (f_M_against_112 z d v3 q1.2) else (f_M_against_112 z d v4 q1.2)) else ((mC z d 264 [(2, 86), (0, v1), (0, v5)] q1.2).bind fun q2 => (bif !decide (q2.1 = 0) then ((mC z d 266 [(2, 86), (0, v1), (0, v5)] q2.2).bind fun q3 => (bif decide (q3.1 < v4) then (f_M_against_96 z d v1 v2 v3 v4 v5 q3.2) else (bif !decide (q3.1 = v4) then (f_M_against_89 z d v1 v2 v5 q3.1 q3.2) else ((mC z d 236 [(0, v5)] q3.2).bind fun q4 => ((mC z d 236 [(0, v3)] q4.2).bind fun q5 => (bif decide (q4.1 < q5.1) then (f_M_against_89 z d v1 v2 v5 q3.1 q5.2) else (f_M_against_96 z d v1 v2 v3 v4 v5 q5.2))))))) else (f_M_against_96 z d v1 v2 v3 v4 v5 q2.2)))) := by
  show mE z d q_M_against 26 [(2, 86), (0, v1), (0, v2), (0, v3), (0, v4), (0, v5), (9, 0)] [] μ = _
  rw [mE_bk (M := q_M_against) k_M_against.1 k_M_against.2 [16, 26, 89, 96, 112] 400]
  have key : ∀ (C : Nat → List zv → Mu → mR) (E : Nat → List zv → List zv → Mu → mR), mbk C E q_M_against.1 q_M_against.2.1 z q_M_against.2.2.2 [16, 26, 89, 96, 112] 400 (zfind q_M_against.2.2.2 26) [(2, 86), (0, v1), (0, v2), (0, v3), (0, v4), (0, v5), (9, 0)] [] μ = (C 198 [(2, 86), (0, v1)] μ).bind fun q1 => (bif decide (z_shl 1 q1.1 ≤ v5) then (bif !decide (v2 = 0) then (g_M_against_112 E v3 q1.2) else (g_M_against_112 E v4 q1.2)) else ((C 264 [(2, 86), (0, v1), (0, v5)] q1.2).bind fun q2 => (bif !decide (q2.1 = 0) then ((C 266 [(2, 86), (0, v1), (0, v5)] q2.2).bind fun q3 => (bif decide (q3.1 < v4) then (g_M_against_96 E v1 v2 v3 v4 v5 q3.2) else (bif !decide (q3.1 = v4) then (g_M_against_89 E v1 v2 v5 q3.1 q3.2) else ((C 236 [(0, v5)] q3.2).bind fun q4 => ((C 236 [(0, v3)] q4.2).bind fun q5 => (bif decide (q4.1 < q5.1) then (g_M_against_89 E v1 v2 v5 q3.1 q5.2) else (g_M_against_96 E v1 v2 v3 v4 v5 q5.2))))))) else (g_M_against_96 E v1 v2 v3 v4 v5 q2.2)))) := by
    intro C E
    rfl
  exact key _ _
set_option maxRecDepth 100000 in
theorem e_M_against_112 (z : zZ) (d : Nat) (v100 : Int) (μ : Mu) : f_M_against_112 z d v100 μ = some (v100, μ) := by
  show mE z d q_M_against 112 [(9, 0), (9, 0), (9, 0), (9, 0), (9, 0), (9, 0), (9, 0)] [(0, v100)] μ = _
  rw [mE_bk (M := q_M_against) k_M_against.1 k_M_against.2 [16, 26, 89, 96, 112] 400]
  have key : ∀ (C : Nat → List zv → Mu → mR) (E : Nat → List zv → List zv → Mu → mR), mbk C E q_M_against.1 q_M_against.2.1 z q_M_against.2.2.2 [16, 26, 89, 96, 112] 400 (zfind q_M_against.2.2.2 112) [(9, 0), (9, 0), (9, 0), (9, 0), (9, 0), (9, 0), (9, 0)] [(0, v100)] μ = some (v100, μ) := by
    intro C E
    rfl
  exact key _ _
set_option maxRecDepth 100000 in
theorem e_M_against_96 (z : zZ) (d : Nat) (v1 : Int) (v2 : Int) (v3 : Int) (v4 : Int) (v5 : Int) (μ : Mu) : f_M_against_96 z d v1 v2 v3 v4 v5 μ = f_M_against_26 z d v1 v2 v3 v4 (zw (v5 + 1)) μ := by
  show mE z d q_M_against 96 [(2, 86), (0, v1), (0, v2), (0, v3), (0, v4), (0, v5), (9, 0)] [] μ = _
  rw [mE_bk (M := q_M_against) k_M_against.1 k_M_against.2 [16, 26, 89, 96, 112] 400]
  have key : ∀ (C : Nat → List zv → Mu → mR) (E : Nat → List zv → List zv → Mu → mR), mbk C E q_M_against.1 q_M_against.2.1 z q_M_against.2.2.2 [16, 26, 89, 96, 112] 400 (zfind q_M_against.2.2.2 96) [(2, 86), (0, v1), (0, v2), (0, v3), (0, v4), (0, v5), (9, 0)] [] μ = g_M_against_26 E v1 v2 v3 v4 (zw (v5 + 1)) μ := by
    intro C E
    rfl
  exact key _ _
set_option maxRecDepth 100000 in
theorem e_M_against_89 (z : zZ) (d : Nat) (v1 : Int) (v2 : Int) (v5 : Int) (v6 : Int) (μ : Mu) : f_M_against_89 z d v1 v2 v5 v6 μ = f_M_against_96 z d v1 v2 v5 v6 v5 μ := by
  show mE z d q_M_against 89 [(2, 86), (0, v1), (0, v2), (9, 0), (9, 0), (0, v5), (0, v6)] [] μ = _
  rw [mE_bk (M := q_M_against) k_M_against.1 k_M_against.2 [16, 26, 89, 96, 112] 400]
  have key : ∀ (C : Nat → List zv → Mu → mR) (E : Nat → List zv → List zv → Mu → mR), mbk C E q_M_against.1 q_M_against.2.1 z q_M_against.2.2.2 [16, 26, 89, 96, 112] 400 (zfind q_M_against.2.2.2 89) [(2, 86), (0, v1), (0, v2), (9, 0), (9, 0), (0, v5), (0, v6)] [] μ = g_M_against_96 E v1 v2 v5 v6 v5 μ := by
    intro C E
    rfl
  exact key _ _
def g_M_beatenBy_5 (E : Nat → List zv → List zv → Mu → mR) (v1 : Int) (v2 : Int) (v3 : Int) (v4 : Int) (μ : Mu) : mR := E 5 [(2, 86), (0, v1), (0, v2), (0, v3), (0, v4), (9, 0)] [] μ
noncomputable def f_M_beatenBy_5 (z : zZ) (d : Nat) (v1 : Int) (v2 : Int) (v3 : Int) (v4 : Int) (μ : Mu) : mR := g_M_beatenBy_5 (fun pc ls st μ => mE z d q_M_beatenBy pc ls st μ) v1 v2 v3 v4 μ
def g_M_beatenBy_38 (E : Nat → List zv → List zv → Mu → mR) (v1 : Int) (v2 : Int) (v3 : Int) (v4 : Int) (v5 : Int) (μ : Mu) : mR := E 38 [(2, 86), (0, v1), (0, v2), (0, v3), (0, v4), (0, v5)] [] μ
noncomputable def f_M_beatenBy_38 (z : zZ) (d : Nat) (v1 : Int) (v2 : Int) (v3 : Int) (v4 : Int) (v5 : Int) (μ : Mu) : mR := g_M_beatenBy_38 (fun pc ls st μ => mE z d q_M_beatenBy pc ls st μ) v1 v2 v3 v4 v5 μ
def g_M_beatenBy_76 (E : Nat → List zv → List zv → Mu → mR) (v1 : Int) (v2 : Int) (v3 : Int) (v4 : Int) (v5 : Int) (μ : Mu) : mR := E 76 [(2, 86), (0, v1), (0, v2), (0, v3), (0, v4), (0, v5)] [] μ
noncomputable def f_M_beatenBy_76 (z : zZ) (d : Nat) (v1 : Int) (v2 : Int) (v3 : Int) (v4 : Int) (v5 : Int) (μ : Mu) : mR := g_M_beatenBy_76 (fun pc ls st μ => mE z d q_M_beatenBy pc ls st μ) v1 v2 v3 v4 v5 μ
def g_M_beatenBy_82 (E : Nat → List zv → List zv → Mu → mR) (v1 : Int) (v2 : Int) (v3 : Int) (v4 : Int) (μ : Mu) : mR := E 82 [(2, 86), (0, v1), (0, v2), (0, v3), (0, v4), (9, 0)] [] μ
noncomputable def f_M_beatenBy_82 (z : zZ) (d : Nat) (v1 : Int) (v2 : Int) (v3 : Int) (v4 : Int) (μ : Mu) : mR := g_M_beatenBy_82 (fun pc ls st μ => mE z d q_M_beatenBy pc ls st μ) v1 v2 v3 v4 μ
theorem k_M_beatenBy : zprK q_M_beatenBy.2.2.2 = true ∧ zinc q_M_beatenBy.2.2.2 = true := by decide +kernel
set_option maxRecDepth 100000 in
theorem c_M_beatenBy (z : zZ) (d : Nat) (v1 : Int) (v2 : Int) (μ : Mu) : mC z (d + 1) 266 [(2, 86), (0, v1), (0, v2)] μ = f_M_beatenBy_5 z d v1 v2 0 0 μ := by
  rw [mC_succ q_M_beatenBy rfl rfl rfl]
  rw [mE_bk (M := q_M_beatenBy) k_M_beatenBy.1 k_M_beatenBy.2 [5, 38, 76, 82] 400]
  have key : ∀ (C : Nat → List zv → Mu → mR) (E : Nat → List zv → List zv → Mu → mR), mbk C E q_M_beatenBy.1 q_M_beatenBy.2.1 z q_M_beatenBy.2.2.2 [5, 38, 76, 82] 400 (zfind q_M_beatenBy.2.2.2 0) (zentry q_M_beatenBy.2.2.1 [(2, 86), (0, v1), (0, v2)]) [] μ = g_M_beatenBy_5 E v1 v2 0 0 μ := by
    intro C E
    rfl
  exact key _ _
set_option maxRecDepth 100000 in
theorem e_M_beatenBy_5 (z : zZ) (d : Nat) (v1 : Int) (v2 : Int) (v3 : Int) (v4 : Int) (μ : Mu) : f_M_beatenBy_5 z d v1 v2 v3 v4 μ = (mC z d 198 [(2, 86), (0, zw (1 - v1))] μ).bind fun q1 => (bif decide (q1.1 ≤ v4) then ((mC z d 236 [(0, v3)] q1.2).bind fun q2 => (some (q2.1, q2.2))) else ((mC z d 199 [(2, 86), (0, zw (1 - v1))] q1.2).bind fun q3 => ((mC z d 189 [(0, q3.1), (0, v4)] q3.2).bind fun q4 => (bif !decide (q4.1 = 0) then (f_M_beatenBy_38 z d v1 v2 v3 v4 0 q4.2) else (f_M_beatenBy_82 z d v1 v2 v3 v4 q4.2))))) := by
  show mE z d q_M_beatenBy 5 [(2, 86), (0, v1), (0, v2), (0, v3), (0, v4), (9, 0)] [] μ = _
  rw [mE_bk (M := q_M_beatenBy) k_M_beatenBy.1 k_M_beatenBy.2 [5, 38, 76, 82] 400]
  have key : ∀ (C : Nat → List zv → Mu → mR) (E : Nat → List zv → List zv → Mu → mR), mbk C E q_M_beatenBy.1 q_M_beatenBy.2.1 z q_M_beatenBy.2.2.2 [5, 38, 76, 82] 400 (zfind q_M_beatenBy.2.2.2 5) [(2, 86), (0, v1), (0, v2), (0, v3), (0, v4), (9, 0)] [] μ = (C 198 [(2, 86), (0, zw (1 - v1))] μ).bind fun q1 => (bif decide (q1.1 ≤ v4) then ((C 236 [(0, v3)] q1.2).bind fun q2 => (some (q2.1, q2.2))) else ((C 199 [(2, 86), (0, zw (1 - v1))] q1.2).bind fun q3 => ((C 189 [(0, q3.1), (0, v4)] q3.2).bind fun q4 => (bif !decide (q4.1 = 0) then (g_M_beatenBy_38 E v1 v2 v3 v4 0 q4.2) else (g_M_beatenBy_82 E v1 v2 v3 v4 q4.2))))) := by
    intro C E
    rfl
  exact key _ _
set_option maxRecDepth 100000 in
theorem e_M_beatenBy_38 (z : zZ) (d : Nat) (v1 : Int) (v2 : Int) (v3 : Int) (v4 : Int) (v5 : Int) (μ : Mu) : f_M_beatenBy_38 z d v1 v2 v3 v4 v5 μ = (mC z d 198 [(2, 86), (0, v1)] μ).bind fun q1 => (bif decide (q1.1 ≤ v5) then (f_M_beatenBy_82 z d v1 v2 v3 v4 q1.2) else ((mC z d 189 [(0, v2), (0, v5)] q1.2).bind fun q2 => (bif decide (q2.1 = 0) then (f_M_beatenBy_76 z d v1 v2 v3 v4 v5 q2.2) else ((mC z d 241 [(2, 86), (0, v1), (0, v5), (0, v4)] q2.2).bind fun q3 => (bif decide (q3.1 = 0) then (f_M_beatenBy_76 z d v1 v2 v3 v4 v5 q3.2) else (f_M_beatenBy_76 z d v1 v2 (z_or v3 (z_shl 1 v4)) v4 v5 q3.2)))))) := by
  show mE z d q_M_beatenBy 38 [(2, 86), (0, v1), (0, v2), (0, v3), (0, v4), (0, v5)] [] μ = _
  rw [mE_bk (M := q_M_beatenBy) k_M_beatenBy.1 k_M_beatenBy.2 [5, 38, 76, 82] 400]
  have key : ∀ (C : Nat → List zv → Mu → mR) (E : Nat → List zv → List zv → Mu → mR), mbk C E q_M_beatenBy.1 q_M_beatenBy.2.1 z q_M_beatenBy.2.2.2 [5, 38, 76, 82] 400 (zfind q_M_beatenBy.2.2.2 38) [(2, 86), (0, v1), (0, v2), (0, v3), (0, v4), (0, v5)] [] μ = (C 198 [(2, 86), (0, v1)] μ).bind fun q1 => (bif decide (q1.1 ≤ v5) then (g_M_beatenBy_82 E v1 v2 v3 v4 q1.2) else ((C 189 [(0, v2), (0, v5)] q1.2).bind fun q2 => (bif decide (q2.1 = 0) then (g_M_beatenBy_76 E v1 v2 v3 v4 v5 q2.2) else ((C 241 [(2, 86), (0, v1), (0, v5), (0, v4)] q2.2).bind fun q3 => (bif decide (q3.1 = 0) then (g_M_beatenBy_76 E v1 v2 v3 v4 v5 q3.2) else (g_M_beatenBy_76 E v1 v2 (z_or v3 (z_shl 1 v4)) v4 v5 q3.2)))))) := by
    intro C E
    rfl
  exact key _ _
set_option maxRecDepth 100000 in
theorem e_M_beatenBy_82 (z : zZ) (d : Nat) (v1 : Int) (v2 : Int) (v3 : Int) (v4 : Int) (μ : Mu) : f_M_beatenBy_82 z d v1 v2 v3 v4 μ = f_M_beatenBy_5 z d v1 v2 v3 (zw (v4 + 1)) μ := by
  show mE z d q_M_beatenBy 82 [(2, 86), (0, v1), (0, v2), (0, v3), (0, v4), (9, 0)] [] μ = _
  rw [mE_bk (M := q_M_beatenBy) k_M_beatenBy.1 k_M_beatenBy.2 [5, 38, 76, 82] 400]
  have key : ∀ (C : Nat → List zv → Mu → mR) (E : Nat → List zv → List zv → Mu → mR), mbk C E q_M_beatenBy.1 q_M_beatenBy.2.1 z q_M_beatenBy.2.2.2 [5, 38, 76, 82] 400 (zfind q_M_beatenBy.2.2.2 82) [(2, 86), (0, v1), (0, v2), (0, v3), (0, v4), (9, 0)] [] μ = g_M_beatenBy_5 E v1 v2 v3 (zw (v4 + 1)) μ := by
    intro C E
    rfl
  exact key _ _
set_option maxRecDepth 100000 in
theorem e_M_beatenBy_76 (z : zZ) (d : Nat) (v1 : Int) (v2 : Int) (v3 : Int) (v4 : Int) (v5 : Int) (μ : Mu) : f_M_beatenBy_76 z d v1 v2 v3 v4 v5 μ = f_M_beatenBy_38 z d v1 v2 v3 v4 (zw (v5 + 1)) μ := by
  show mE z d q_M_beatenBy 76 [(2, 86), (0, v1), (0, v2), (0, v3), (0, v4), (0, v5)] [] μ = _
  rw [mE_bk (M := q_M_beatenBy) k_M_beatenBy.1 k_M_beatenBy.2 [5, 38, 76, 82] 400]
  have key : ∀ (C : Nat → List zv → Mu → mR) (E : Nat → List zv → List zv → Mu → mR), mbk C E q_M_beatenBy.1 q_M_beatenBy.2.1 z q_M_beatenBy.2.2.2 [5, 38, 76, 82] 400 (zfind q_M_beatenBy.2.2.2 76) [(2, 86), (0, v1), (0, v2), (0, v3), (0, v4), (0, v5)] [] μ = g_M_beatenBy_38 E v1 v2 v3 v4 (zw (v5 + 1)) μ := by
    intro C E
    rfl
  exact key _ _
def g_M_atOnce_22 (E : Nat → List zv → List zv → Mu → mR) (v1 : Int) (v2 : Int) (v3 : Int) (v4 : Int) (μ : Mu) : mR := E 22 [(2, 86), (0, v1), (0, v2), (0, v3), (0, v4)] [] μ
noncomputable def f_M_atOnce_22 (z : zZ) (d : Nat) (v1 : Int) (v2 : Int) (v3 : Int) (v4 : Int) (μ : Mu) : mR := g_M_atOnce_22 (fun pc ls st μ => mE z d q_M_atOnce pc ls st μ) v1 v2 v3 v4 μ
def g_M_atOnce_63 (E : Nat → List zv → List zv → Mu → mR) (v1 : Int) (v2 : Int) (v4 : Int) (v100 : Int) (μ : Mu) : mR := E 63 [(2, 86), (0, v1), (0, v2), (9, 0), (0, v4)] [(0, v100)] μ
noncomputable def f_M_atOnce_63 (z : zZ) (d : Nat) (v1 : Int) (v2 : Int) (v4 : Int) (v100 : Int) (μ : Mu) : mR := g_M_atOnce_63 (fun pc ls st μ => mE z d q_M_atOnce pc ls st μ) v1 v2 v4 v100 μ
def g_M_atOnce_68 (E : Nat → List zv → List zv → Mu → mR) (v1 : Int) (v2 : Int) (v3 : Int) (v4 : Int) (μ : Mu) : mR := E 68 [(2, 86), (0, v1), (0, v2), (0, v3), (0, v4)] [] μ
noncomputable def f_M_atOnce_68 (z : zZ) (d : Nat) (v1 : Int) (v2 : Int) (v3 : Int) (v4 : Int) (μ : Mu) : mR := g_M_atOnce_68 (fun pc ls st μ => mE z d q_M_atOnce pc ls st μ) v1 v2 v3 v4 μ
def g_M_atOnce_108 (E : Nat → List zv → List zv → Mu → mR) (v100 : Int) (μ : Mu) : mR := E 108 [(9, 0), (9, 0), (9, 0), (9, 0), (9, 0)] [(0, v100)] μ
noncomputable def f_M_atOnce_108 (z : zZ) (d : Nat) (v100 : Int) (μ : Mu) : mR := g_M_atOnce_108 (fun pc ls st μ => mE z d q_M_atOnce pc ls st μ) v100 μ
theorem k_M_atOnce : zprK q_M_atOnce.2.2.2 = true ∧ zinc q_M_atOnce.2.2.2 = true := by decide +kernel
set_option maxRecDepth 100000 in
theorem c_M_atOnce (z : zZ) (d : Nat) (v1 : Int) (μ : Mu) : mC z (d + 1) 267 [(2, 86), (0, v1)] μ = (mC z d 183 [(0, v1), (0, 0), (0, 2)] μ).bind fun q1 => (bif !decide (q1.1 = 0) then ((mC z d 268 [(2, 86)] q1.2).bind fun q2 => (f_M_atOnce_22 z d v1 0 ((-1)) 0 q2.2)) else (some ((-1), q1.2))) := by
  rw [mC_succ q_M_atOnce rfl rfl rfl]
  rw [mE_bk (M := q_M_atOnce) k_M_atOnce.1 k_M_atOnce.2 [22, 63, 68, 108] 400]
  have key : ∀ (C : Nat → List zv → Mu → mR) (E : Nat → List zv → List zv → Mu → mR), mbk C E q_M_atOnce.1 q_M_atOnce.2.1 z q_M_atOnce.2.2.2 [22, 63, 68, 108] 400 (zfind q_M_atOnce.2.2.2 0) (zentry q_M_atOnce.2.2.1 [(2, 86), (0, v1)]) [] μ = (C 183 [(0, v1), (0, 0), (0, 2)] μ).bind fun q1 => (bif !decide (q1.1 = 0) then ((C 268 [(2, 86)] q1.2).bind fun q2 => (g_M_atOnce_22 E v1 0 ((-1)) 0 q2.2)) else (some ((-1), q1.2))) := by
    intro C E
    rfl
  exact key _ _
set_option maxRecDepth 100000 in
theorem e_M_atOnce_22 (z : zZ) (d : Nat) (v1 : Int) (v2 : Int) (v3 : Int) (v4 : Int) (μ : Mu) : f_M_atOnce_22 z d v1 v2 v3 v4 μ = bif decide (144 ≤ v4) then (bif !decide (v1 = 0) then (bif !decide (v3 = (-1)) then (bif !decide (v1 = 1) then (f_M_atOnce_108 z d (z_rem v3 12) μ) else (f_M_atOnce_108 z d (z_div v3 12) μ)) else (f_M_atOnce_108 z d ((-2)) μ)) else (f_M_atOnce_108 z d v2 μ)) else (gI v4 144 (bif decide (μ 125 v4.toNat = 0) then (f_M_atOnce_68 z d v1 v2 v3 v4 μ) else ((mC z d 269 [(2, 86), (0, v4)] μ).bind fun q1 => (bif !decide (q1.1 = 0) then (bif !decide (v3 = (-1)) then (f_M_atOnce_63 z d v1 v2 v4 v3 q1.2) else (f_M_atOnce_63 z d v1 v2 v4 v4 q1.2)) else (f_M_atOnce_68 z d v1 v2 v3 v4 q1.2))))) := by
  show mE z d q_M_atOnce 22 [(2, 86), (0, v1), (0, v2), (0, v3), (0, v4)] [] μ = _
  rw [mE_bk (M := q_M_atOnce) k_M_atOnce.1 k_M_atOnce.2 [22, 63, 68, 108] 400]
  have key : ∀ (C : Nat → List zv → Mu → mR) (E : Nat → List zv → List zv → Mu → mR), mbk C E q_M_atOnce.1 q_M_atOnce.2.1 z q_M_atOnce.2.2.2 [22, 63, 68, 108] 400 (zfind q_M_atOnce.2.2.2 22) [(2, 86), (0, v1), (0, v2), (0, v3), (0, v4)] [] μ = bif decide (144 ≤ v4) then (bif !decide (v1 = 0) then (bif !decide (v3 = (-1)) then (bif !decide (v1 = 1) then (g_M_atOnce_108 E (z_rem v3 12) μ) else (g_M_atOnce_108 E (z_div v3 12) μ)) else (g_M_atOnce_108 E ((-2)) μ)) else (g_M_atOnce_108 E v2 μ)) else (gI v4 144 (bif decide (μ 125 v4.toNat = 0) then (g_M_atOnce_68 E v1 v2 v3 v4 μ) else ((C 269 [(2, 86), (0, v4)] μ).bind fun q1 => (bif !decide (q1.1 = 0) then (bif !decide (v3 = (-1)) then (g_M_atOnce_63 E v1 v2 v4 v3 q1.2) else (g_M_atOnce_63 E v1 v2 v4 v4 q1.2)) else (g_M_atOnce_68 E v1 v2 v3 v4 q1.2))))) := by
    intro C E
    rfl
  exact key _ _
set_option maxRecDepth 100000 in
theorem e_M_atOnce_108 (z : zZ) (d : Nat) (v100 : Int) (μ : Mu) : f_M_atOnce_108 z d v100 μ = some (v100, μ) := by
  show mE z d q_M_atOnce 108 [(9, 0), (9, 0), (9, 0), (9, 0), (9, 0)] [(0, v100)] μ = _
  rw [mE_bk (M := q_M_atOnce) k_M_atOnce.1 k_M_atOnce.2 [22, 63, 68, 108] 400]
  have key : ∀ (C : Nat → List zv → Mu → mR) (E : Nat → List zv → List zv → Mu → mR), mbk C E q_M_atOnce.1 q_M_atOnce.2.1 z q_M_atOnce.2.2.2 [22, 63, 68, 108] 400 (zfind q_M_atOnce.2.2.2 108) [(9, 0), (9, 0), (9, 0), (9, 0), (9, 0)] [(0, v100)] μ = some (v100, μ) := by
    intro C E
    rfl
  exact key _ _
set_option maxRecDepth 100000 in
theorem e_M_atOnce_68 (z : zZ) (d : Nat) (v1 : Int) (v2 : Int) (v3 : Int) (v4 : Int) (μ : Mu) : f_M_atOnce_68 z d v1 v2 v3 v4 μ = f_M_atOnce_22 z d v1 v2 v3 (zw (v4 + 1)) μ := by
  show mE z d q_M_atOnce 68 [(2, 86), (0, v1), (0, v2), (0, v3), (0, v4)] [] μ = _
  rw [mE_bk (M := q_M_atOnce) k_M_atOnce.1 k_M_atOnce.2 [22, 63, 68, 108] 400]
  have key : ∀ (C : Nat → List zv → Mu → mR) (E : Nat → List zv → List zv → Mu → mR), mbk C E q_M_atOnce.1 q_M_atOnce.2.1 z q_M_atOnce.2.2.2 [22, 63, 68, 108] 400 (zfind q_M_atOnce.2.2.2 68) [(2, 86), (0, v1), (0, v2), (0, v3), (0, v4)] [] μ = g_M_atOnce_22 E v1 v2 v3 (zw (v4 + 1)) μ := by
    intro C E
    rfl
  exact key _ _
set_option maxRecDepth 100000 in
theorem e_M_atOnce_63 (z : zZ) (d : Nat) (v1 : Int) (v2 : Int) (v4 : Int) (v100 : Int) (μ : Mu) : f_M_atOnce_63 z d v1 v2 v4 v100 μ = f_M_atOnce_68 z d v1 (zw (v2 + 1)) v100 v4 μ := by
  show mE z d q_M_atOnce 63 [(2, 86), (0, v1), (0, v2), (9, 0), (0, v4)] [(0, v100)] μ = _
  rw [mE_bk (M := q_M_atOnce) k_M_atOnce.1 k_M_atOnce.2 [22, 63, 68, 108] 400]
  have key : ∀ (C : Nat → List zv → Mu → mR) (E : Nat → List zv → List zv → Mu → mR), mbk C E q_M_atOnce.1 q_M_atOnce.2.1 z q_M_atOnce.2.2.2 [22, 63, 68, 108] 400 (zfind q_M_atOnce.2.2.2 63) [(2, 86), (0, v1), (0, v2), (9, 0), (0, v4)] [(0, v100)] μ = g_M_atOnce_68 E v1 (zw (v2 + 1)) v100 v4 μ := by
    intro C E
    rfl
  exact key _ _
def g_M_laysGains_2 (E : Nat → List zv → List zv → Mu → mR) (v1 : Int) (μ : Mu) : mR := E 2 [(2, 86), (0, v1), (9, 0), (9, 0), (9, 0)] [] μ
noncomputable def f_M_laysGains_2 (z : zZ) (d : Nat) (v1 : Int) (μ : Mu) : mR := g_M_laysGains_2 (fun pc ls st μ => mE z d q_M_laysGains pc ls st μ) v1 μ
def g_M_laysGains_64 (E : Nat → List zv → List zv → Mu → mR) (v1 : Int) (v2 : Int) (v3 : Int) (v101 : Int) (μ : Mu) : mR := E 64 [(2, 86), (0, v1), (0, v2), (0, v3), (9, 0)] [(0, v101), (2, 125)] μ
noncomputable def f_M_laysGains_64 (z : zZ) (d : Nat) (v1 : Int) (v2 : Int) (v3 : Int) (v101 : Int) (μ : Mu) : mR := g_M_laysGains_64 (fun pc ls st μ => mE z d q_M_laysGains pc ls st μ) v1 v2 v3 v101 μ
def g_M_laysGains_65 (E : Nat → List zv → List zv → Mu → mR) (v1 : Int) (v2 : Int) (v3 : Int) (v101 : Int) (v102 : Int) (μ : Mu) : mR := E 65 [(2, 86), (0, v1), (0, v2), (0, v3), (9, 0)] [(0, v102), (0, v101), (2, 125)] μ
noncomputable def f_M_laysGains_65 (z : zZ) (d : Nat) (v1 : Int) (v2 : Int) (v3 : Int) (v101 : Int) (v102 : Int) (μ : Mu) : mR := g_M_laysGains_65 (fun pc ls st μ => mE z d q_M_laysGains pc ls st μ) v1 v2 v3 v101 v102 μ
def g_M_laysGains_78 (E : Nat → List zv → List zv → Mu → mR) (v1 : Int) (v2 : Int) (v3 : Int) (μ : Mu) : mR := E 78 [(2, 86), (0, v1), (0, v2), (0, v3), (9, 0)] [] μ
noncomputable def f_M_laysGains_78 (z : zZ) (d : Nat) (v1 : Int) (v2 : Int) (v3 : Int) (μ : Mu) : mR := g_M_laysGains_78 (fun pc ls st μ => mE z d q_M_laysGains pc ls st μ) v1 v2 v3 μ
def g_M_laysGains_100 (E : Nat → List zv → List zv → Mu → mR) (v1 : Int) (v2 : Int) (v3 : Int) (v4 : Int) (v101 : Int) (μ : Mu) : mR := E 100 [(2, 86), (0, v1), (0, v2), (0, v3), (0, v4)] [(0, v101), (2, 124)] μ
noncomputable def f_M_laysGains_100 (z : zZ) (d : Nat) (v1 : Int) (v2 : Int) (v3 : Int) (v4 : Int) (v101 : Int) (μ : Mu) : mR := g_M_laysGains_100 (fun pc ls st μ => mE z d q_M_laysGains pc ls st μ) v1 v2 v3 v4 v101 μ
def g_M_laysGains_115 (E : Nat → List zv → List zv → Mu → mR) (v1 : Int) (v2 : Int) (v101 : Int) (μ : Mu) : mR := E 115 [(2, 86), (0, v1), (0, v2), (9, 0), (9, 0)] [(0, v101), (2, 124)] μ
noncomputable def f_M_laysGains_115 (z : zZ) (d : Nat) (v1 : Int) (v2 : Int) (v101 : Int) (μ : Mu) : mR := g_M_laysGains_115 (fun pc ls st μ => mE z d q_M_laysGains pc ls st μ) v1 v2 v101 μ
def g_M_laysGains_122 (E : Nat → List zv → List zv → Mu → mR) (v1 : Int) (v101 : Int) (v102 : Int) (μ : Mu) : mR := E 122 [(2, 86), (0, v1), (9, 0), (9, 0), (9, 0)] [(0, v102), (0, v101), (2, 124)] μ
noncomputable def f_M_laysGains_122 (z : zZ) (d : Nat) (v1 : Int) (v101 : Int) (v102 : Int) (μ : Mu) : mR := g_M_laysGains_122 (fun pc ls st μ => mE z d q_M_laysGains pc ls st μ) v1 v101 v102 μ
def g_M_laysGains_123 (E : Nat → List zv → List zv → Mu → mR) (v1 : Int) (μ : Mu) : mR := E 123 [(2, 86), (0, v1), (9, 0), (9, 0), (9, 0)] [] μ
noncomputable def f_M_laysGains_123 (z : zZ) (d : Nat) (v1 : Int) (μ : Mu) : mR := g_M_laysGains_123 (fun pc ls st μ => mE z d q_M_laysGains pc ls st μ) v1 μ
def g_M_laysGains_129 (E : Nat → List zv → List zv → Mu → mR) (μ : Mu) : mR := E 129 [(9, 0), (9, 0), (9, 0), (9, 0), (9, 0)] [] μ
noncomputable def f_M_laysGains_129 (z : zZ) (d : Nat) (μ : Mu) : mR := g_M_laysGains_129 (fun pc ls st μ => mE z d q_M_laysGains pc ls st μ) μ
theorem k_M_laysGains : zprK q_M_laysGains.2.2.2 = true ∧ zinc q_M_laysGains.2.2.2 = true := by decide +kernel
set_option maxRecDepth 100000 in
theorem c_M_laysGains (z : zZ) (d : Nat) (μ : Mu) : mC z (d + 1) 268 [(2, 86)] μ = f_M_laysGains_2 z d 0 μ := by
  rw [mC_succ q_M_laysGains rfl rfl rfl]
  rw [mE_bk (M := q_M_laysGains) k_M_laysGains.1 k_M_laysGains.2 [2, 64, 65, 78, 100, 115, 122, 123, 129] 400]
  have key : ∀ (C : Nat → List zv → Mu → mR) (E : Nat → List zv → List zv → Mu → mR), mbk C E q_M_laysGains.1 q_M_laysGains.2.1 z q_M_laysGains.2.2.2 [2, 64, 65, 78, 100, 115, 122, 123, 129] 400 (zfind q_M_laysGains.2.2.2 0) (zentry q_M_laysGains.2.2.1 [(2, 86)]) [] μ = g_M_laysGains_2 E 0 μ := by
    intro C E
    rfl
  exact key _ _
set_option maxRecDepth 100000 in
theorem e_M_laysGains_2 (z : zZ) (d : Nat) (v1 : Int) (μ : Mu) : f_M_laysGains_2 z d v1 μ = bif decide (144 ≤ v1) then (f_M_laysGains_129 z d μ) else ((mC z d 257 [(2, 86), (0, 0), (0, z_div v1 12)] μ).bind fun q1 => (bif decide (q1.1 = 0) then (f_M_laysGains_64 z d v1 (z_div v1 12) (z_rem v1 12) v1 q1.2) else ((mC z d 257 [(2, 86), (0, 1), (0, z_rem v1 12)] q1.2).bind fun q2 => (bif decide (q2.1 = 0) then (f_M_laysGains_64 z d v1 (z_div v1 12) (z_rem v1 12) v1 q2.2) else ((mC z d 235 [(2, 86), (0, 0), (0, z_div v1 12)] q2.2).bind fun q3 => (bif decide (q3.1 = 0) then (f_M_laysGains_64 z d v1 (z_div v1 12) (z_rem v1 12) v1 q3.2) else ((mC z d 235 [(2, 86), (0, 1), (0, z_rem v1 12)] q3.2).bind fun q4 => (bif decide (q4.1 = 0) then (f_M_laysGains_64 z d v1 (z_div v1 12) (z_rem v1 12) v1 q4.2) else (f_M_laysGains_65 z d v1 (z_div v1 12) (z_rem v1 12) v1 1 q4.2))))))))) := by
  show mE z d q_M_laysGains 2 [(2, 86), (0, v1), (9, 0), (9, 0), (9, 0)] [] μ = _
  rw [mE_bk (M := q_M_laysGains) k_M_laysGains.1 k_M_laysGains.2 [2, 64, 65, 78, 100, 115, 122, 123, 129] 400]
  have key : ∀ (C : Nat → List zv → Mu → mR) (E : Nat → List zv → List zv → Mu → mR), mbk C E q_M_laysGains.1 q_M_laysGains.2.1 z q_M_laysGains.2.2.2 [2, 64, 65, 78, 100, 115, 122, 123, 129] 400 (zfind q_M_laysGains.2.2.2 2) [(2, 86), (0, v1), (9, 0), (9, 0), (9, 0)] [] μ = bif decide (144 ≤ v1) then (g_M_laysGains_129 E μ) else ((C 257 [(2, 86), (0, 0), (0, z_div v1 12)] μ).bind fun q1 => (bif decide (q1.1 = 0) then (g_M_laysGains_64 E v1 (z_div v1 12) (z_rem v1 12) v1 q1.2) else ((C 257 [(2, 86), (0, 1), (0, z_rem v1 12)] q1.2).bind fun q2 => (bif decide (q2.1 = 0) then (g_M_laysGains_64 E v1 (z_div v1 12) (z_rem v1 12) v1 q2.2) else ((C 235 [(2, 86), (0, 0), (0, z_div v1 12)] q2.2).bind fun q3 => (bif decide (q3.1 = 0) then (g_M_laysGains_64 E v1 (z_div v1 12) (z_rem v1 12) v1 q3.2) else ((C 235 [(2, 86), (0, 1), (0, z_rem v1 12)] q3.2).bind fun q4 => (bif decide (q4.1 = 0) then (g_M_laysGains_64 E v1 (z_div v1 12) (z_rem v1 12) v1 q4.2) else (g_M_laysGains_65 E v1 (z_div v1 12) (z_rem v1 12) v1 1 q4.2))))))))) := by
    intro C E
    rfl
  exact key _ _
set_option maxRecDepth 100000 in
theorem e_M_laysGains_129 (z : zZ) (d : Nat) (μ : Mu) : f_M_laysGains_129 z d μ = some (0, μ) := by
  show mE z d q_M_laysGains 129 [(9, 0), (9, 0), (9, 0), (9, 0), (9, 0)] [] μ = _
  rw [mE_bk (M := q_M_laysGains) k_M_laysGains.1 k_M_laysGains.2 [2, 64, 65, 78, 100, 115, 122, 123, 129] 400]
  have key : ∀ (C : Nat → List zv → Mu → mR) (E : Nat → List zv → List zv → Mu → mR), mbk C E q_M_laysGains.1 q_M_laysGains.2.1 z q_M_laysGains.2.2.2 [2, 64, 65, 78, 100, 115, 122, 123, 129] 400 (zfind q_M_laysGains.2.2.2 129) [(9, 0), (9, 0), (9, 0), (9, 0), (9, 0)] [] μ = some (0, μ) := by
    intro C E
    rfl
  exact key _ _
set_option maxRecDepth 100000 in
theorem e_M_laysGains_64 (z : zZ) (d : Nat) (v1 : Int) (v2 : Int) (v3 : Int) (v101 : Int) (μ : Mu) : f_M_laysGains_64 z d v1 v2 v3 v101 μ = f_M_laysGains_65 z d v1 v2 v3 v101 0 μ := by
  show mE z d q_M_laysGains 64 [(2, 86), (0, v1), (0, v2), (0, v3), (9, 0)] [(0, v101), (2, 125)] μ = _
  rw [mE_bk (M := q_M_laysGains) k_M_laysGains.1 k_M_laysGains.2 [2, 64, 65, 78, 100, 115, 122, 123, 129] 400]
  have key : ∀ (C : Nat → List zv → Mu → mR) (E : Nat → List zv → List zv → Mu → mR), mbk C E q_M_laysGains.1 q_M_laysGains.2.1 z q_M_laysGains.2.2.2 [2, 64, 65, 78, 100, 115, 122, 123, 129] 400 (zfind q_M_laysGains.2.2.2 64) [(2, 86), (0, v1), (0, v2), (0, v3), (9, 0)] [(0, v101), (2, 125)] μ = g_M_laysGains_65 E v1 v2 v3 v101 0 μ := by
    intro C E
    rfl
  exact key _ _
set_option maxRecDepth 100000 in
theorem e_M_laysGains_65 (z : zZ) (d : Nat) (v1 : Int) (v2 : Int) (v3 : Int) (v101 : Int) (v102 : Int) (μ : Mu) : f_M_laysGains_65 z d v1 v2 v3 v101 v102 μ = gI v101 144 (gI v1 144 (bif !decide ((zup μ 125 v101.toNat (z_and v102 1)) 125 v1.toNat = 0) then (f_M_laysGains_78 z d v1 v2 v3 (zup μ 125 v101.toNat (z_and v102 1))) else (f_M_laysGains_123 z d v1 (zup μ 125 v101.toNat (z_and v102 1))))) := by
  show mE z d q_M_laysGains 65 [(2, 86), (0, v1), (0, v2), (0, v3), (9, 0)] [(0, v102), (0, v101), (2, 125)] μ = _
  rw [mE_bk (M := q_M_laysGains) k_M_laysGains.1 k_M_laysGains.2 [2, 64, 65, 78, 100, 115, 122, 123, 129] 400]
  have key : ∀ (C : Nat → List zv → Mu → mR) (E : Nat → List zv → List zv → Mu → mR), mbk C E q_M_laysGains.1 q_M_laysGains.2.1 z q_M_laysGains.2.2.2 [2, 64, 65, 78, 100, 115, 122, 123, 129] 400 (zfind q_M_laysGains.2.2.2 65) [(2, 86), (0, v1), (0, v2), (0, v3), (9, 0)] [(0, v102), (0, v101), (2, 125)] μ = gI v101 144 (gI v1 144 (bif !decide ((zup μ 125 v101.toNat (z_and v102 1)) 125 v1.toNat = 0) then (g_M_laysGains_78 E v1 v2 v3 (zup μ 125 v101.toNat (z_and v102 1))) else (g_M_laysGains_123 E v1 (zup μ 125 v101.toNat (z_and v102 1))))) := by
    intro C E
    rfl
  exact key _ _
set_option maxRecDepth 100000 in
theorem e_M_laysGains_78 (z : zZ) (d : Nat) (v1 : Int) (v2 : Int) (v3 : Int) (μ : Mu) : f_M_laysGains_78 z d v1 v2 v3 μ = (mC z d 260 [(2, 86), (0, v2), (0, v3)] μ).bind fun q1 => (bif !decide (q1.1 = 0) then (f_M_laysGains_100 z d v1 v2 v3 q1.1 v1 q1.2) else (f_M_laysGains_122 z d v1 v1 0 q1.2)) := by
  show mE z d q_M_laysGains 78 [(2, 86), (0, v1), (0, v2), (0, v3), (9, 0)] [] μ = _
  rw [mE_bk (M := q_M_laysGains) k_M_laysGains.1 k_M_laysGains.2 [2, 64, 65, 78, 100, 115, 122, 123, 129] 400]
  have key : ∀ (C : Nat → List zv → Mu → mR) (E : Nat → List zv → List zv → Mu → mR), mbk C E q_M_laysGains.1 q_M_laysGains.2.1 z q_M_laysGains.2.2.2 [2, 64, 65, 78, 100, 115, 122, 123, 129] 400 (zfind q_M_laysGains.2.2.2 78) [(2, 86), (0, v1), (0, v2), (0, v3), (9, 0)] [] μ = (C 260 [(2, 86), (0, v2), (0, v3)] μ).bind fun q1 => (bif !decide (q1.1 = 0) then (g_M_laysGains_100 E v1 v2 v3 q1.1 v1 q1.2) else (g_M_laysGains_122 E v1 v1 0 q1.2)) := by
    intro C E
    rfl
  exact key _ _
set_option maxRecDepth 100000 in
theorem e_M_laysGains_123 (z : zZ) (d : Nat) (v1 : Int) (μ : Mu) : f_M_laysGains_123 z d v1 μ = f_M_laysGains_2 z d (zw (v1 + 1)) μ := by
  show mE z d q_M_laysGains 123 [(2, 86), (0, v1), (9, 0), (9, 0), (9, 0)] [] μ = _
  rw [mE_bk (M := q_M_laysGains) k_M_laysGains.1 k_M_laysGains.2 [2, 64, 65, 78, 100, 115, 122, 123, 129] 400]
  have key : ∀ (C : Nat → List zv → Mu → mR) (E : Nat → List zv → List zv → Mu → mR), mbk C E q_M_laysGains.1 q_M_laysGains.2.1 z q_M_laysGains.2.2.2 [2, 64, 65, 78, 100, 115, 122, 123, 129] 400 (zfind q_M_laysGains.2.2.2 123) [(2, 86), (0, v1), (9, 0), (9, 0), (9, 0)] [] μ = g_M_laysGains_2 E (zw (v1 + 1)) μ := by
    intro C E
    rfl
  exact key _ _
set_option maxRecDepth 100000 in
theorem e_M_laysGains_100 (z : zZ) (d : Nat) (v1 : Int) (v2 : Int) (v3 : Int) (v4 : Int) (v101 : Int) (μ : Mu) : f_M_laysGains_100 z d v1 v2 v3 v4 v101 μ = bif !decide (v4 = 1) then (f_M_laysGains_115 z d v1 v2 v101 μ) else ((mC z d 258 [(2, 86), (0, 1), (0, v3)] μ).bind fun q1 => (f_M_laysGains_122 z d v1 v101 q1.1 q1.2)) := by
  show mE z d q_M_laysGains 100 [(2, 86), (0, v1), (0, v2), (0, v3), (0, v4)] [(0, v101), (2, 124)] μ = _
  rw [mE_bk (M := q_M_laysGains) k_M_laysGains.1 k_M_laysGains.2 [2, 64, 65, 78, 100, 115, 122, 123, 129] 400]
  have key : ∀ (C : Nat → List zv → Mu → mR) (E : Nat → List zv → List zv → Mu → mR), mbk C E q_M_laysGains.1 q_M_laysGains.2.1 z q_M_laysGains.2.2.2 [2, 64, 65, 78, 100, 115, 122, 123, 129] 400 (zfind q_M_laysGains.2.2.2 100) [(2, 86), (0, v1), (0, v2), (0, v3), (0, v4)] [(0, v101), (2, 124)] μ = bif !decide (v4 = 1) then (g_M_laysGains_115 E v1 v2 v101 μ) else ((C 258 [(2, 86), (0, 1), (0, v3)] μ).bind fun q1 => (g_M_laysGains_122 E v1 v101 q1.1 q1.2)) := by
    intro C E
    rfl
  exact key _ _
set_option maxRecDepth 100000 in
theorem e_M_laysGains_122 (z : zZ) (d : Nat) (v1 : Int) (v101 : Int) (v102 : Int) (μ : Mu) : f_M_laysGains_122 z d v1 v101 v102 μ = gI v101 144 (f_M_laysGains_123 z d v1 (zup μ 124 v101.toNat v102)) := by
  show mE z d q_M_laysGains 122 [(2, 86), (0, v1), (9, 0), (9, 0), (9, 0)] [(0, v102), (0, v101), (2, 124)] μ = _
  rw [mE_bk (M := q_M_laysGains) k_M_laysGains.1 k_M_laysGains.2 [2, 64, 65, 78, 100, 115, 122, 123, 129] 400]
  have key : ∀ (C : Nat → List zv → Mu → mR) (E : Nat → List zv → List zv → Mu → mR), mbk C E q_M_laysGains.1 q_M_laysGains.2.1 z q_M_laysGains.2.2.2 [2, 64, 65, 78, 100, 115, 122, 123, 129] 400 (zfind q_M_laysGains.2.2.2 122) [(2, 86), (0, v1), (9, 0), (9, 0), (9, 0)] [(0, v102), (0, v101), (2, 124)] μ = gI v101 144 (g_M_laysGains_123 E v1 (zup μ 124 v101.toNat v102)) := by
    intro C E
    rfl
  exact key _ _
set_option maxRecDepth 100000 in
theorem e_M_laysGains_115 (z : zZ) (d : Nat) (v1 : Int) (v2 : Int) (v101 : Int) (μ : Mu) : f_M_laysGains_115 z d v1 v2 v101 μ = (mC z d 258 [(2, 86), (0, 0), (0, v2)] μ).bind fun q1 => (f_M_laysGains_122 z d v1 v101 (zw (-q1.1)) q1.2) := by
  show mE z d q_M_laysGains 115 [(2, 86), (0, v1), (0, v2), (9, 0), (9, 0)] [(0, v101), (2, 124)] μ = _
  rw [mE_bk (M := q_M_laysGains) k_M_laysGains.1 k_M_laysGains.2 [2, 64, 65, 78, 100, 115, 122, 123, 129] 400]
  have key : ∀ (C : Nat → List zv → Mu → mR) (E : Nat → List zv → List zv → Mu → mR), mbk C E q_M_laysGains.1 q_M_laysGains.2.1 z q_M_laysGains.2.2.2 [2, 64, 65, 78, 100, 115, 122, 123, 129] 400 (zfind q_M_laysGains.2.2.2 115) [(2, 86), (0, v1), (0, v2), (9, 0), (9, 0)] [(0, v101), (2, 124)] μ = (C 258 [(2, 86), (0, 0), (0, v2)] μ).bind fun q1 => (g_M_laysGains_122 E v1 v101 (zw (-q1.1)) q1.2) := by
    intro C E
    rfl
  exact key _ _
def g_M_rests_2 (E : Nat → List zv → List zv → Mu → mR) (v1 : Int) (v2 : Int) (μ : Mu) : mR := E 2 [(2, 86), (0, v1), (0, v2), (9, 0)] [] μ
noncomputable def f_M_rests_2 (z : zZ) (d : Nat) (v1 : Int) (v2 : Int) (μ : Mu) : mR := g_M_rests_2 (fun pc ls st μ => mE z d q_M_rests pc ls st μ) v1 v2 μ
def g_M_rests_44 (E : Nat → List zv → List zv → Mu → mR) (v1 : Int) (v2 : Int) (μ : Mu) : mR := E 44 [(2, 86), (0, v1), (0, v2), (9, 0)] [] μ
noncomputable def f_M_rests_44 (z : zZ) (d : Nat) (v1 : Int) (v2 : Int) (μ : Mu) : mR := g_M_rests_44 (fun pc ls st μ => mE z d q_M_rests pc ls st μ) v1 v2 μ
def g_M_rests_80 (E : Nat → List zv → List zv → Mu → mR) (v1 : Int) (v2 : Int) (μ : Mu) : mR := E 80 [(2, 86), (0, v1), (0, v2), (9, 0)] [] μ
noncomputable def f_M_rests_80 (z : zZ) (d : Nat) (v1 : Int) (v2 : Int) (μ : Mu) : mR := g_M_rests_80 (fun pc ls st μ => mE z d q_M_rests pc ls st μ) v1 v2 μ
def g_M_rests_86 (E : Nat → List zv → List zv → Mu → mR) (μ : Mu) : mR := E 86 [(9, 0), (9, 0), (9, 0), (9, 0)] [] μ
noncomputable def f_M_rests_86 (z : zZ) (d : Nat) (μ : Mu) : mR := g_M_rests_86 (fun pc ls st μ => mE z d q_M_rests pc ls st μ) μ
theorem k_M_rests : zprK q_M_rests.2.2.2 = true ∧ zinc q_M_rests.2.2.2 = true := by decide +kernel
set_option maxRecDepth 100000 in
theorem c_M_rests (z : zZ) (d : Nat) (v1 : Int) (μ : Mu) : mC z (d + 1) 269 [(2, 86), (0, v1)] μ = f_M_rests_2 z d v1 0 μ := by
  rw [mC_succ q_M_rests rfl rfl rfl]
  rw [mE_bk (M := q_M_rests) k_M_rests.1 k_M_rests.2 [2, 44, 80, 86] 400]
  have key : ∀ (C : Nat → List zv → Mu → mR) (E : Nat → List zv → List zv → Mu → mR), mbk C E q_M_rests.1 q_M_rests.2.1 z q_M_rests.2.2.2 [2, 44, 80, 86] 400 (zfind q_M_rests.2.2.2 0) (zentry q_M_rests.2.2.1 [(2, 86), (0, v1)]) [] μ = g_M_rests_2 E v1 0 μ := by
    intro C E
    rfl
  exact key _ _
set_option maxRecDepth 100000 in
theorem e_M_rests_2 (z : zZ) (d : Nat) (v1 : Int) (v2 : Int) (μ : Mu) : f_M_rests_2 z d v1 v2 μ = bif decide (12 ≤ v2) then (f_M_rests_86 z d μ) else (gI (zw ((zw (12 * v2)) + (z_rem v1 12))) 144 (bif decide (μ 125 ((zw ((zw (12 * v2)) + (z_rem v1 12))).toNat) = 0) then (f_M_rests_44 z d v1 v2 μ) else (gI (zw ((zw (12 * v2)) + (z_rem v1 12))) 144 (gI v1 144 (bif decide (μ 124 ((zw ((zw (12 * v2)) + (z_rem v1 12))).toNat) ≤ μ 124 v1.toNat) then (f_M_rests_44 z d v1 v2 μ) else (some (0, μ))))))) := by
  show mE z d q_M_rests 2 [(2, 86), (0, v1), (0, v2), (9, 0)] [] μ = _
  rw [mE_bk (M := q_M_rests) k_M_rests.1 k_M_rests.2 [2, 44, 80, 86] 400]
  have key : ∀ (C : Nat → List zv → Mu → mR) (E : Nat → List zv → List zv → Mu → mR), mbk C E q_M_rests.1 q_M_rests.2.1 z q_M_rests.2.2.2 [2, 44, 80, 86] 400 (zfind q_M_rests.2.2.2 2) [(2, 86), (0, v1), (0, v2), (9, 0)] [] μ = bif decide (12 ≤ v2) then (g_M_rests_86 E μ) else (gI (zw ((zw (12 * v2)) + (z_rem v1 12))) 144 (bif decide (μ 125 ((zw ((zw (12 * v2)) + (z_rem v1 12))).toNat) = 0) then (g_M_rests_44 E v1 v2 μ) else (gI (zw ((zw (12 * v2)) + (z_rem v1 12))) 144 (gI v1 144 (bif decide (μ 124 ((zw ((zw (12 * v2)) + (z_rem v1 12))).toNat) ≤ μ 124 v1.toNat) then (g_M_rests_44 E v1 v2 μ) else (some (0, μ))))))) := by
    intro C E
    rfl
  exact key _ _
set_option maxRecDepth 100000 in
theorem e_M_rests_86 (z : zZ) (d : Nat) (μ : Mu) : f_M_rests_86 z d μ = some (1, μ) := by
  show mE z d q_M_rests 86 [(9, 0), (9, 0), (9, 0), (9, 0)] [] μ = _
  rw [mE_bk (M := q_M_rests) k_M_rests.1 k_M_rests.2 [2, 44, 80, 86] 400]
  have key : ∀ (C : Nat → List zv → Mu → mR) (E : Nat → List zv → List zv → Mu → mR), mbk C E q_M_rests.1 q_M_rests.2.1 z q_M_rests.2.2.2 [2, 44, 80, 86] 400 (zfind q_M_rests.2.2.2 86) [(9, 0), (9, 0), (9, 0), (9, 0)] [] μ = some (1, μ) := by
    intro C E
    rfl
  exact key _ _
set_option maxRecDepth 100000 in
theorem e_M_rests_44 (z : zZ) (d : Nat) (v1 : Int) (v2 : Int) (μ : Mu) : f_M_rests_44 z d v1 v2 μ = gI (zw ((zw ((z_div v1 12) * 12)) + v2)) 144 (bif decide (μ 125 ((zw ((zw ((z_div v1 12) * 12)) + v2)).toNat) = 0) then (f_M_rests_80 z d v1 v2 μ) else (gI (zw ((zw ((z_div v1 12) * 12)) + v2)) 144 (gI v1 144 (bif decide (μ 124 v1.toNat ≤ μ 124 ((zw ((zw ((z_div v1 12) * 12)) + v2)).toNat)) then (f_M_rests_80 z d v1 v2 μ) else (some (0, μ)))))) := by
  show mE z d q_M_rests 44 [(2, 86), (0, v1), (0, v2), (9, 0)] [] μ = _
  rw [mE_bk (M := q_M_rests) k_M_rests.1 k_M_rests.2 [2, 44, 80, 86] 400]
  have key : ∀ (C : Nat → List zv → Mu → mR) (E : Nat → List zv → List zv → Mu → mR), mbk C E q_M_rests.1 q_M_rests.2.1 z q_M_rests.2.2.2 [2, 44, 80, 86] 400 (zfind q_M_rests.2.2.2 44) [(2, 86), (0, v1), (0, v2), (9, 0)] [] μ = gI (zw ((zw ((z_div v1 12) * 12)) + v2)) 144 (bif decide (μ 125 ((zw ((zw ((z_div v1 12) * 12)) + v2)).toNat) = 0) then (g_M_rests_80 E v1 v2 μ) else (gI (zw ((zw ((z_div v1 12) * 12)) + v2)) 144 (gI v1 144 (bif decide (μ 124 v1.toNat ≤ μ 124 ((zw ((zw ((z_div v1 12) * 12)) + v2)).toNat)) then (g_M_rests_80 E v1 v2 μ) else (some (0, μ)))))) := by
    intro C E
    rfl
  exact key _ _
set_option maxRecDepth 100000 in
theorem e_M_rests_80 (z : zZ) (d : Nat) (v1 : Int) (v2 : Int) (μ : Mu) : f_M_rests_80 z d v1 v2 μ = f_M_rests_2 z d v1 (zw (v2 + 1)) μ := by
  show mE z d q_M_rests 80 [(2, 86), (0, v1), (0, v2), (9, 0)] [] μ = _
  rw [mE_bk (M := q_M_rests) k_M_rests.1 k_M_rests.2 [2, 44, 80, 86] 400]
  have key : ∀ (C : Nat → List zv → Mu → mR) (E : Nat → List zv → List zv → Mu → mR), mbk C E q_M_rests.1 q_M_rests.2.1 z q_M_rests.2.2.2 [2, 44, 80, 86] 400 (zfind q_M_rests.2.2.2 80) [(2, 86), (0, v1), (0, v2), (9, 0)] [] μ = g_M_rests_2 E v1 (zw (v2 + 1)) μ := by
    intro C E
    rfl
  exact key _ _
