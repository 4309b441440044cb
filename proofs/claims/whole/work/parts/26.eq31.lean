def g_W_atOnce_9 (E : Nat → List zv → List zv → Mu → mR) (μ : Mu) : mR := E 9 [(9, 0), (9, 0), (9, 0), (9, 0), (9, 0), (9, 0), (9, 0), (9, 0), (9, 0)] [] μ
noncomputable def f_W_atOnce_9 (z : zZ) (d : Nat) (μ : Mu) : mR := g_W_atOnce_9 (fun pc ls st μ => mE z d q_W_atOnce pc ls st μ) μ
def g_W_atOnce_61 (E : Nat → List zv → List zv → Mu → mR) (v1 : Int) (v2 : Int) (v3 : Int) (v4 : Int) (v5 : Int) (v6 : Int) (v7 : Int) (μ : Mu) : mR := E 61 [(2, 0), (0, v1), (0, v2), (0, v3), (0, v4), (0, v5), (0, v6), (0, v7), (9, 0)] [] μ
noncomputable def f_W_atOnce_61 (z : zZ) (d : Nat) (v1 : Int) (v2 : Int) (v3 : Int) (v4 : Int) (v5 : Int) (v6 : Int) (v7 : Int) (μ : Mu) : mR := g_W_atOnce_61 (fun pc ls st μ => mE z d q_W_atOnce pc ls st μ) v1 v2 v3 v4 v5 v6 v7 μ
def g_W_atOnce_71 (E : Nat → List zv → List zv → Mu → mR) (v1 : Int) (v2 : Int) (v3 : Int) (v4 : Int) (v5 : Int) (v6 : Int) (v7 : Int) (v8 : Int) (μ : Mu) : mR := E 71 [(2, 0), (0, v1), (0, v2), (0, v3), (0, v4), (0, v5), (0, v6), (0, v7), (0, v8)] [] μ
noncomputable def f_W_atOnce_71 (z : zZ) (d : Nat) (v1 : Int) (v2 : Int) (v3 : Int) (v4 : Int) (v5 : Int) (v6 : Int) (v7 : Int) (v8 : Int) (μ : Mu) : mR := g_W_atOnce_71 (fun pc ls st μ => mE z d q_W_atOnce pc ls st μ) v1 v2 v3 v4 v5 v6 v7 v8 μ
def g_W_atOnce_122 (E : Nat → List zv → List zv → Mu → mR) (v1 : Int) (v2 : Int) (v3 : Int) (v4 : Int) (v5 : Int) (v6 : Int) (v7 : Int) (v8 : Int) (μ : Mu) : mR := E 122 [(2, 0), (0, v1), (0, v2), (0, v3), (0, v4), (0, v5), (0, v6), (0, v7), (0, v8)] [] μ
noncomputable def f_W_atOnce_122 (z : zZ) (d : Nat) (v1 : Int) (v2 : Int) (v3 : Int) (v4 : Int) (v5 : Int) (v6 : Int) (v7 : Int) (v8 : Int) (μ : Mu) : mR := g_W_atOnce_122 (fun pc ls st μ => mE z d q_W_atOnce pc ls st μ) v1 v2 v3 v4 v5 v6 v7 v8 μ
def g_W_atOnce_125 (E : Nat → List zv → List zv → Mu → mR) (v1 : Int) (v2 : Int) (v3 : Int) (v4 : Int) (v5 : Int) (v6 : Int) (v7 : Int) (v8 : Int) (μ : Mu) : mR := E 125 [(2, 0), (0, v1), (0, v2), (0, v3), (0, v4), (0, v5), (0, v6), (0, v7), (0, v8)] [] μ
noncomputable def f_W_atOnce_125 (z : zZ) (d : Nat) (v1 : Int) (v2 : Int) (v3 : Int) (v4 : Int) (v5 : Int) (v6 : Int) (v7 : Int) (v8 : Int) (μ : Mu) : mR := g_W_atOnce_125 (fun pc ls st μ => mE z d q_W_atOnce pc ls st μ) v1 v2 v3 v4 v5 v6 v7 v8 μ
def g_W_atOnce_144 (E : Nat → List zv → List zv → Mu → mR) (v1 : Int) (v5 : Int) (v6 : Int) (μ : Mu) : mR := E 144 [(9, 0), (0, v1), (9, 0), (9, 0), (9, 0), (0, v5), (0, v6), (9, 0), (9, 0)] [] μ
noncomputable def f_W_atOnce_144 (z : zZ) (d : Nat) (v1 : Int) (v5 : Int) (v6 : Int) (μ : Mu) : mR := g_W_atOnce_144 (fun pc ls st μ => mE z d q_W_atOnce pc ls st μ) v1 v5 v6 μ
def g_W_atOnce_156 (E : Nat → List zv → List zv → Mu → mR) (v100 : Int) (μ : Mu) : mR := E 156 [(9, 0), (9, 0), (9, 0), (9, 0), (9, 0), (9, 0), (9, 0), (9, 0), (9, 0)] [(0, v100)] μ
noncomputable def f_W_atOnce_156 (z : zZ) (d : Nat) (v100 : Int) (μ : Mu) : mR := g_W_atOnce_156 (fun pc ls st μ => mE z d q_W_atOnce pc ls st μ) v100 μ
theorem k_W_atOnce : zprK q_W_atOnce.2.2.2 = true ∧ zinc q_W_atOnce.2.2.2 = true := by decide +kernel
set_option maxRecDepth 100000 in
theorem c_W_atOnce (z : zZ) (d : Nat) (v1 : Int) (μ : Mu) : mC z (d + 1) 117 [(2, 0), (0, v1)] μ = bif decide (v1 < 0) then (f_W_atOnce_9 z d μ) else (bif decide (v1 ≤ 2) then ((mC z d 105 [(2, 0), (0, 0)] μ).bind fun q1 => ((mC z d 105 [(2, 0), (0, 1)] q1.2).bind fun q2 => ((mC z d 118 [(2, 4)] q2.2).bind fun q3 => ((mC z d 118 [(2, 13)] q3.2).bind fun q4 => ((mC z d 119 [(2, 0), (0, q3.1), (0, q4.1)] q4.2).bind fun q5 => (f_W_atOnce_61 z d v1 q3.1 q4.1 0 ((-2)) ((-2)) 0 q5.2)))))) else (f_W_atOnce_9 z d μ)) := by
  rw [mC_succ q_W_atOnce rfl rfl rfl]
  rw [mE_bk (M := q_W_atOnce) k_W_atOnce.1 k_W_atOnce.2 [9, 61, 71, 122, 125, 144, 156] 400]
  have key : ∀ (C : Nat → List zv → Mu → mR) (E : Nat → List zv → List zv → Mu → mR), mbk C E q_W_atOnce.1 q_W_atOnce.2.1 z q_W_atOnce.2.2.2 [9, 61, 71, 122, 125, 144, 156] 400 (zfind q_W_atOnce.2.2.2 0) (zentry q_W_atOnce.2.2.1 [(2, 0), (0, v1)]) [] μ = bif decide (v1 < 0) then (g_W_atOnce_9 E μ) else (bif decide (v1 ≤ 2) then ((C 105 [(2, 0), (0, 0)] μ).bind fun q1 => ((C 105 [(2, 0), (0, 1)] q1.2).bind fun q2 => ((C 118 [(2, 4)] q2.2).bind fun q3 => ((C 118 [(2, 13)] q3.2).bind fun q4 => ((C 119 [(2, 0), (0, q3.1), (0, q4.1)] q4.2).bind fun q5 => (g_W_atOnce_61 E v1 q3.1 q4.1 0 ((-2)) ((-2)) 0 q5.2)))))) else (g_W_atOnce_9 E μ)) := by
    intro C E
    rfl
  exact key _ _
set_option maxRecDepth 100000 in
theorem e_W_atOnce_9 (z : zZ) (d : Nat) (μ : Mu) : f_W_atOnce_9 z d μ = some ((-1), μ) := by
  show mE z d q_W_atOnce 9 [(9, 0), (9, 0), (9, 0), (9, 0), (9, 0), (9, 0), (9, 0), (9, 0), (9, 0)] [] μ = _
  rw [mE_bk (M := q_W_atOnce) k_W_atOnce.1 k_W_atOnce.2 [9, 61, 71, 122, 125, 144, 156] 400]
  have key : ∀ (C : Nat → List zv → Mu → mR) (E : Nat → List zv → List zv → Mu → mR), mbk C E q_W_atOnce.1 q_W_atOnce.2.1 z q_W_atOnce.2.2.2 [9, 61, 71, 122, 125, 144, 156] 400 (zfind q_W_atOnce.2.2.2 9) [(9, 0), (9, 0), (9, 0), (9, 0), (9, 0), (9, 0), (9, 0), (9, 0), (9, 0)] [] μ = some ((-1), μ) := by
    intro C E
    rfl
  exact key _ _
set_option maxRecDepth 100000 in
theorem e_W_atOnce_61 (z : zZ) (d : Nat) (v1 : Int) (v2 : Int) (v3 : Int) (v4 : Int) (v5 : Int) (v6 : Int) (v7 : Int) (μ : Mu) : f_W_atOnce_61 z d v1 v2 v3 v4 v5 v6 v7 μ = bif decide (12 ≤ v7) then (bif !decide (v1 = 0) then (f_W_atOnce_144 z d v1 v5 v6 μ) else (some (v4, μ))) else (f_W_atOnce_71 z d v1 v2 v3 v4 v5 v6 v7 0 μ) := by
  show mE z d q_W_atOnce 61 [(2, 0), (0, v1), (0, v2), (0, v3), (0, v4), (0, v5), (0, v6), (0, v7), (9, 0)] [] μ = _
  rw [mE_bk (M := q_W_atOnce) k_W_atOnce.1 k_W_atOnce.2 [9, 61, 71, 122, 125, 144, 156] 400]
  have key : ∀ (C : Nat → List zv → Mu → mR) (E : Nat → List zv → List zv → Mu → mR), mbk C E q_W_atOnce.1 q_W_atOnce.2.1 z q_W_atOnce.2.2.2 [9, 61, 71, 122, 125, 144, 156] 400 (zfind q_W_atOnce.2.2.2 61) [(2, 0), (0, v1), (0, v2), (0, v3), (0, v4), (0, v5), (0, v6), (0, v7), (9, 0)] [] μ = bif decide (12 ≤ v7) then (bif !decide (v1 = 0) then (g_W_atOnce_144 E v1 v5 v6 μ) else (some (v4, μ))) else (g_W_atOnce_71 E v1 v2 v3 v4 v5 v6 v7 0 μ) := by
    intro C E
    rfl
  exact key _ _
set_option maxRecDepth 100000 in
theorem e_W_atOnce_144 (z : zZ) (d : Nat) (v1 : Int) (v5 : Int) (v6 : Int) (μ : Mu) : f_W_atOnce_144 z d v1 v5 v6 μ = bif !decide (v1 = 1) then (f_W_atOnce_156 z d v6 μ) else (f_W_atOnce_156 z d v5 μ) := by
  show mE z d q_W_atOnce 144 [(9, 0), (0, v1), (9, 0), (9, 0), (9, 0), (0, v5), (0, v6), (9, 0), (9, 0)] [] μ = _
  rw [mE_bk (M := q_W_atOnce) k_W_atOnce.1 k_W_atOnce.2 [9, 61, 71, 122, 125, 144, 156] 400]
  have key : ∀ (C : Nat → List zv → Mu → mR) (E : Nat → List zv → List zv → Mu → mR), mbk C E q_W_atOnce.1 q_W_atOnce.2.1 z q_W_atOnce.2.2.2 [9, 61, 71, 122, 125, 144, 156] 400 (zfind q_W_atOnce.2.2.2 144) [(9, 0), (0, v1), (9, 0), (9, 0), (9, 0), (0, v5), (0, v6), (9, 0), (9, 0)] [] μ = bif !decide (v1 = 1) then (g_W_atOnce_156 E v6 μ) else (g_W_atOnce_156 E v5 μ) := by
    intro C E
    rfl
  exact key _ _
set_option maxRecDepth 100000 in
theorem e_W_atOnce_71 (z : zZ) (d : Nat) (v1 : Int) (v2 : Int) (v3 : Int) (v4 : Int) (v5 : Int) (v6 : Int) (v7 : Int) (v8 : Int) (μ : Mu) : f_W_atOnce_71 z d v1 v2 v3 v4 v5 v6 v7 v8 μ = bif decide (12 ≤ v8) then (f_W_atOnce_61 z d v1 v2 v3 v4 v5 v6 (zw (v7 + 1)) μ) else ((mC z d 23 [(0, v2), (0, v7)] μ).bind fun q1 => (bif decide (q1.1 = 0) then (f_W_atOnce_125 z d v1 v2 v3 v4 v5 v6 v7 v8 q1.2) else ((mC z d 23 [(0, v3), (0, v8)] q1.2).bind fun q2 => (bif decide (q2.1 = 0) then (f_W_atOnce_125 z d v1 v2 v3 v4 v5 v6 v7 v8 q2.2) else ((mC z d 121 [(2, 0), (0, v7), (0, v8), (0, v2), (0, v3)] q2.2).bind fun q3 => (bif decide (q3.1 = 0) then (f_W_atOnce_125 z d v1 v2 v3 v4 v5 v6 v7 v8 q3.2) else (bif !decide (v4 = 0) then (f_W_atOnce_122 z d v1 v2 v3 v4 v5 v6 v7 v8 q3.2) else (f_W_atOnce_122 z d v1 v2 v3 v4 v7 v8 v7 v8 q3.2)))))))) := by
  show mE z d q_W_atOnce 71 [(2, 0), (0, v1), (0, v2), (0, v3), (0, v4), (0, v5), (0, v6), (0, v7), (0, v8)] [] μ = _
  rw [mE_bk (M := q_W_atOnce) k_W_atOnce.1 k_W_atOnce.2 [9, 61, 71, 122, 125, 144, 156] 400]
  have key : ∀ (C : Nat → List zv → Mu → mR) (E : Nat → List zv → List zv → Mu → mR), mbk C E q_W_atOnce.1 q_W_atOnce.2.1 z q_W_atOnce.2.2.2 [9, 61, 71, 122, 125, 144, 156] 400 (zfind q_W_atOnce.2.2.2 71) [(2, 0), (0, v1), (0, v2), (0, v3), (0, v4), (0, v5), (0, v6), (0, v7), (0, v8)] [] μ = bif decide (12 ≤ v8) then (g_W_atOnce_61 E v1 v2 v3 v4 v5 v6 (zw (v7 + 1)) μ) else ((C 23 [(0, v2), (0, v7)] μ).bind fun q1 => (bif decide (q1.1 = 0) then (g_W_atOnce_125 E v1 v2 v3 v4 v5 v6 v7 v8 q1.2) else ((C 23 [(0, v3), (0, v8)] q1.2).bind fun q2 => (bif decide (q2.1 = 0) then (g_W_atOnce_125 E v1 v2 v3 v4 v5 v6 v7 v8 q2.2) else ((C 121 [(2, 0), (0, v7), (0, v8), (0, v2), (0, v3)] q2.2).bind fun q3 => (bif decide (q3.1 = 0) then (g_W_atOnce_125 E v1 v2 v3 v4 v5 v6 v7 v8 q3.2) else (bif !decide (v4 = 0) then (g_W_atOnce_122 E v1 v2 v3 v4 v5 v6 v7 v8 q3.2) else (g_W_atOnce_122 E v1 v2 v3 v4 v7 v8 v7 v8 q3.2)))))))) := by
    intro C E
    rfl
  exact key _ _
set_option maxRecDepth 100000 in
theorem e_W_atOnce_156 (z : zZ) (d : Nat) (v100 : Int) (μ : Mu) : f_W_atOnce_156 z d v100 μ = some (v100, μ) := by
  show mE z d q_W_atOnce 156 [(9, 0), (9, 0), (9, 0), (9, 0), (9, 0), (9, 0), (9, 0), (9, 0), (9, 0)] [(0, v100)] μ = _
  rw [mE_bk (M := q_W_atOnce) k_W_atOnce.1 k_W_atOnce.2 [9, 61, 71, 122, 125, 144, 156] 400]
  have key : ∀ (C : Nat → List zv → Mu → mR) (E : Nat → List zv → List zv → Mu → mR), mbk C E q_W_atOnce.1 q_W_atOnce.2.1 z q_W_atOnce.2.2.2 [9, 61, 71, 122, 125, 144, 156] 400 (zfind q_W_atOnce.2.2.2 156) [(9, 0), (9, 0), (9, 0), (9, 0), (9, 0), (9, 0), (9, 0), (9, 0), (9, 0)] [(0, v100)] μ = some (v100, μ) := by
    intro C E
    rfl
  exact key _ _
set_option maxRecDepth 100000 in
theorem e_W_atOnce_125 (z : zZ) (d : Nat) (v1 : Int) (v2 : Int) (v3 : Int) (v4 : Int) (v5 : Int) (v6 : Int) (v7 : Int) (v8 : Int) (μ : Mu) : f_W_atOnce_125 z d v1 v2 v3 v4 v5 v6 v7 v8 μ = f_W_atOnce_71 z d v1 v2 v3 v4 v5 v6 v7 (zw (v8 + 1)) μ := by
  show mE z d q_W_atOnce 125 [(2, 0), (0, v1), (0, v2), (0, v3), (0, v4), (0, v5), (0, v6), (0, v7), (0, v8)] [] μ = _
  rw [mE_bk (M := q_W_atOnce) k_W_atOnce.1 k_W_atOnce.2 [9, 61, 71, 122, 125, 144, 156] 400]
  have key : ∀ (C : Nat → List zv → Mu → mR) (E : Nat → List zv → List zv → Mu → mR), mbk C E q_W_atOnce.1 q_W_atOnce.2.1 z q_W_atOnce.2.2.2 [9, 61, 71, 122, 125, 144, 156] 400 (zfind q_W_atOnce.2.2.2 125) [(2, 0), (0, v1), (0, v2), (0, v3), (0, v4), (0, v5), (0, v6), (0, v7), (0, v8)] [] μ = g_W_atOnce_71 E v1 v2 v3 v4 v5 v6 v7 (zw (v8 + 1)) μ := by
    intro C E
    rfl
  exact key _ _
set_option maxRecDepth 100000 in
theorem e_W_atOnce_122 (z : zZ) (d : Nat) (v1 : Int) (v2 : Int) (v3 : Int) (v4 : Int) (v5 : Int) (v6 : Int) (v7 : Int) (v8 : Int) (μ : Mu) : f_W_atOnce_122 z d v1 v2 v3 v4 v5 v6 v7 v8 μ = f_W_atOnce_125 z d v1 v2 v3 (zw (v4 + 1)) v5 v6 v7 v8 μ := by
  show mE z d q_W_atOnce 122 [(2, 0), (0, v1), (0, v2), (0, v3), (0, v4), (0, v5), (0, v6), (0, v7), (0, v8)] [] μ = _
  rw [mE_bk (M := q_W_atOnce) k_W_atOnce.1 k_W_atOnce.2 [9, 61, 71, 122, 125, 144, 156] 400]
  have key : ∀ (C : Nat → List zv → Mu → mR) (E : Nat → List zv → List zv → Mu → mR), mbk C E q_W_atOnce.1 q_W_atOnce.2.1 z q_W_atOnce.2.2.2 [9, 61, 71, 122, 125, 144, 156] 400 (zfind q_W_atOnce.2.2.2 122) [(2, 0), (0, v1), (0, v2), (0, v3), (0, v4), (0, v5), (0, v6), (0, v7), (0, v8)] [] μ = g_W_atOnce_125 E v1 v2 v3 (zw (v4 + 1)) v5 v6 v7 v8 μ := by
    intro C E
    rfl
  exact key _ _
def g_Army_formable_4 (E : Nat → List zv → List zv → Mu → mR) (o0 : Nat) (v1 : Int) (v2 : Int) (μ : Mu) : mR := E 4 [(2, ((o0 : Nat) : Int)), (0, v1), (0, v2)] [] μ
noncomputable def f_Army_formable_4 (z : zZ) (d : Nat) (o0 : Nat) (v1 : Int) (v2 : Int) (μ : Mu) : mR := g_Army_formable_4 (fun pc ls st μ => mE z d q_Army_formable pc ls st μ) o0 v1 v2 μ
def g_Army_formable_26 (E : Nat → List zv → List zv → Mu → mR) (o0 : Nat) (v1 : Int) (v2 : Int) (μ : Mu) : mR := E 26 [(2, ((o0 : Nat) : Int)), (0, v1), (0, v2)] [] μ
noncomputable def f_Army_formable_26 (z : zZ) (d : Nat) (o0 : Nat) (v1 : Int) (v2 : Int) (μ : Mu) : mR := g_Army_formable_26 (fun pc ls st μ => mE z d q_Army_formable pc ls st μ) o0 v1 v2 μ
theorem k_Army_formable : zprK q_Army_formable.2.2.2 = true ∧ zinc q_Army_formable.2.2.2 = true := by decide +kernel
set_option maxRecDepth 100000 in
theorem c_Army_formable (z : zZ) (d : Nat) (o0 : Nat) (μ : Mu) (ho0 : o0 = 4 ∨ o0 = 13) : mC z (d + 1) 118 [(2, ((o0 : Nat) : Int))] μ = f_Army_formable_4 z d o0 0 0 μ := by
  rw [mC_succ q_Army_formable rfl rfl rfl]
  rw [mE_bk (M := q_Army_formable) k_Army_formable.1 k_Army_formable.2 [4, 26] 400]
  have key : ∀ (C : Nat → List zv → Mu → mR) (E : Nat → List zv → List zv → Mu → mR), mbk C E q_Army_formable.1 q_Army_formable.2.1 z q_Army_formable.2.2.2 [4, 26] 400 (zfind q_Army_formable.2.2.2 0) (zentry q_Army_formable.2.2.1 [(2, ((o0 : Nat) : Int))]) [] μ = g_Army_formable_4 E o0 0 0 μ := by
    intro C E
    rcases ho0 with rfl | rfl <;> (rfl)
  exact key _ _
set_option maxRecDepth 100000 in
theorem e_Army_formable_4 (z : zZ) (d : Nat) (o0 : Nat) (v1 : Int) (v2 : Int) (μ : Mu) (ho0 : o0 = 4 ∨ o0 = 13) : f_Army_formable_4 z d o0 v1 v2 μ = bif decide (μ o0 6 ≤ v2) then (some (v1, μ)) else ((mC z d 72 [(2, ((o0 : Nat) : Int)), (0, v2)] μ).bind fun q1 => (bif decide (q1.1 = 0) then (f_Army_formable_26 z d o0 v1 v2 q1.2) else (f_Army_formable_26 z d o0 (z_or v1 (z_shl 1 v2)) v2 q1.2))) := by
  show mE z d q_Army_formable 4 [(2, ((o0 : Nat) : Int)), (0, v1), (0, v2)] [] μ = _
  rw [mE_bk (M := q_Army_formable) k_Army_formable.1 k_Army_formable.2 [4, 26] 400]
  have key : ∀ (C : Nat → List zv → Mu → mR) (E : Nat → List zv → List zv → Mu → mR), mbk C E q_Army_formable.1 q_Army_formable.2.1 z q_Army_formable.2.2.2 [4, 26] 400 (zfind q_Army_formable.2.2.2 4) [(2, ((o0 : Nat) : Int)), (0, v1), (0, v2)] [] μ = bif decide (μ o0 6 ≤ v2) then (some (v1, μ)) else ((C 72 [(2, ((o0 : Nat) : Int)), (0, v2)] μ).bind fun q1 => (bif decide (q1.1 = 0) then (g_Army_formable_26 E o0 v1 v2 q1.2) else (g_Army_formable_26 E o0 (z_or v1 (z_shl 1 v2)) v2 q1.2))) := by
    intro C E
    rcases ho0 with rfl | rfl <;> (rfl)
  exact key _ _
set_option maxRecDepth 100000 in
theorem e_Army_formable_26 (z : zZ) (d : Nat) (o0 : Nat) (v1 : Int) (v2 : Int) (μ : Mu) (ho0 : o0 = 4 ∨ o0 = 13) : f_Army_formable_26 z d o0 v1 v2 μ = f_Army_formable_4 z d o0 v1 (zw (v2 + 1)) μ := by
  show mE z d q_Army_formable 26 [(2, ((o0 : Nat) : Int)), (0, v1), (0, v2)] [] μ = _
  rw [mE_bk (M := q_Army_formable) k_Army_formable.1 k_Army_formable.2 [4, 26] 400]
  have key : ∀ (C : Nat → List zv → Mu → mR) (E : Nat → List zv → List zv → Mu → mR), mbk C E q_Army_formable.1 q_Army_formable.2.1 z q_Army_formable.2.2.2 [4, 26] 400 (zfind q_Army_formable.2.2.2 26) [(2, ((o0 : Nat) : Int)), (0, v1), (0, v2)] [] μ = g_Army_formable_4 E o0 v1 (zw (v2 + 1)) μ := by
    intro C E
    rcases ho0 with rfl | rfl <;> (rfl)
  exact key _ _
def g_W_fillGains_2 (E : Nat → List zv → List zv → Mu → mR) (v1 : Int) (v2 : Int) (v3 : Int) (μ : Mu) : mR := E 2 [(2, 0), (0, v1), (0, v2), (0, v3), (9, 0)] [] μ
noncomputable def f_W_fillGains_2 (z : zZ) (d : Nat) (v1 : Int) (v2 : Int) (v3 : Int) (μ : Mu) : mR := g_W_fillGains_2 (fun pc ls st μ => mE z d q_W_fillGains pc ls st μ) v1 v2 v3 μ
def g_W_fillGains_11 (E : Nat → List zv → List zv → Mu → mR) (v1 : Int) (v2 : Int) (v3 : Int) (v4 : Int) (μ : Mu) : mR := E 11 [(2, 0), (0, v1), (0, v2), (0, v3), (0, v4)] [] μ
noncomputable def f_W_fillGains_11 (z : zZ) (d : Nat) (v1 : Int) (v2 : Int) (v3 : Int) (v4 : Int) (μ : Mu) : mR := g_W_fillGains_11 (fun pc ls st μ => mE z d q_W_fillGains pc ls st μ) v1 v2 v3 v4 μ
def g_W_fillGains_54 (E : Nat → List zv → List zv → Mu → mR) (v1 : Int) (v2 : Int) (v3 : Int) (v4 : Int) (μ : Mu) : mR := E 54 [(2, 0), (0, v1), (0, v2), (0, v3), (0, v4)] [] μ
noncomputable def f_W_fillGains_54 (z : zZ) (d : Nat) (v1 : Int) (v2 : Int) (v3 : Int) (v4 : Int) (μ : Mu) : mR := g_W_fillGains_54 (fun pc ls st μ => mE z d q_W_fillGains pc ls st μ) v1 v2 v3 v4 μ
theorem k_W_fillGains : zprK q_W_fillGains.2.2.2 = true ∧ zinc q_W_fillGains.2.2.2 = true := by decide +kernel
set_option maxRecDepth 100000 in
theorem c_W_fillGains (z : zZ) (d : Nat) (v1 : Int) (v2 : Int) (μ : Mu) : mC z (d + 1) 119 [(2, 0), (0, v1), (0, v2)] μ = f_W_fillGains_2 z d v1 v2 0 μ := by
  rw [mC_succ q_W_fillGains rfl rfl rfl]
  rw [mE_bk (M := q_W_fillGains) k_W_fillGains.1 k_W_fillGains.2 [2, 11, 54] 400]
  have key : ∀ (C : Nat → List zv → Mu → mR) (E : Nat → List zv → List zv → Mu → mR), mbk C E q_W_fillGains.1 q_W_fillGains.2.1 z q_W_fillGains.2.2.2 [2, 11, 54] 400 (zfind q_W_fillGains.2.2.2 0) (zentry q_W_fillGains.2.2.1 [(2, 0), (0, v1), (0, v2)]) [] μ = g_W_fillGains_2 E v1 v2 0 μ := by
    intro C E
    rfl
  exact key _ _
set_option maxRecDepth 100000 in
theorem e_W_fillGains_2 (z : zZ) (d : Nat) (v1 : Int) (v2 : Int) (v3 : Int) (μ : Mu) : f_W_fillGains_2 z d v1 v2 v3 μ = bif decide (12 ≤ v3) then (some (0, μ)) else (f_W_fillGains_11 z d v1 v2 v3 0 μ) := by
  show mE z d q_W_fillGains 2 [(2, 0), (0, v1), (0, v2), (0, v3), (9, 0)] [] μ = _
  rw [mE_bk (M := q_W_fillGains) k_W_fillGains.1 k_W_fillGains.2 [2, 11, 54] 400]
  have key : ∀ (C : Nat → List zv → Mu → mR) (E : Nat → List zv → List zv → Mu → mR), mbk C E q_W_fillGains.1 q_W_fillGains.2.1 z q_W_fillGains.2.2.2 [2, 11, 54] 400 (zfind q_W_fillGains.2.2.2 2) [(2, 0), (0, v1), (0, v2), (0, v3), (9, 0)] [] μ = bif decide (12 ≤ v3) then (some (0, μ)) else (g_W_fillGains_11 E v1 v2 v3 0 μ) := by
    intro C E
    rfl
  exact key _ _
set_option maxRecDepth 100000 in
theorem e_W_fillGains_11 (z : zZ) (d : Nat) (v1 : Int) (v2 : Int) (v3 : Int) (v4 : Int) (μ : Mu) : f_W_fillGains_11 z d v1 v2 v3 v4 μ = bif decide (12 ≤ v4) then (f_W_fillGains_2 z d v1 v2 (zw (v3 + 1)) μ) else ((mC z d 23 [(0, v1), (0, v3)] μ).bind fun q1 => (bif decide (q1.1 = 0) then (f_W_fillGains_54 z d v1 v2 v3 v4 q1.2) else ((mC z d 23 [(0, v2), (0, v4)] q1.2).bind fun q2 => (bif decide (q2.1 = 0) then (f_W_fillGains_54 z d v1 v2 v3 v4 q2.2) else ((mC z d 120 [(2, 0), (0, v3), (0, v4)] q2.2).bind fun q3 => (gI (zw ((zw (v3 * 12)) + v4)) 144 (f_W_fillGains_54 z d v1 v2 v3 v4 (zup q3.2 54 ((zw ((zw (v3 * 12)) + v4)).toNat) q3.1)))))))) := by
  show mE z d q_W_fillGains 11 [(2, 0), (0, v1), (0, v2), (0, v3), (0, v4)] [] μ = _
  rw [mE_bk (M := q_W_fillGains) k_W_fillGains.1 k_W_fillGains.2 [2, 11, 54] 400]
  have key : ∀ (C : Nat → List zv → Mu → mR) (E : Nat → List zv → List zv → Mu → mR), mbk C E q_W_fillGains.1 q_W_fillGains.2.1 z q_W_fillGains.2.2.2 [2, 11, 54] 400 (zfind q_W_fillGains.2.2.2 11) [(2, 0), (0, v1), (0, v2), (0, v3), (0, v4)] [] μ = bif decide (12 ≤ v4) then (g_W_fillGains_2 E v1 v2 (zw (v3 + 1)) μ) else ((C 23 [(0, v1), (0, v3)] μ).bind fun q1 => (bif decide (q1.1 = 0) then (g_W_fillGains_54 E v1 v2 v3 v4 q1.2) else ((C 23 [(0, v2), (0, v4)] q1.2).bind fun q2 => (bif decide (q2.1 = 0) then (g_W_fillGains_54 E v1 v2 v3 v4 q2.2) else ((C 120 [(2, 0), (0, v3), (0, v4)] q2.2).bind fun q3 => (gI (zw ((zw (v3 * 12)) + v4)) 144 (g_W_fillGains_54 E v1 v2 v3 v4 (zup q3.2 54 ((zw ((zw (v3 * 12)) + v4)).toNat) q3.1)))))))) := by
    intro C E
    rfl
  exact key _ _
set_option maxRecDepth 100000 in
theorem e_W_fillGains_54 (z : zZ) (d : Nat) (v1 : Int) (v2 : Int) (v3 : Int) (v4 : Int) (μ : Mu) : f_W_fillGains_54 z d v1 v2 v3 v4 μ = f_W_fillGains_11 z d v1 v2 v3 (zw (v4 + 1)) μ := by
  show mE z d q_W_fillGains 54 [(2, 0), (0, v1), (0, v2), (0, v3), (0, v4)] [] μ = _
  rw [mE_bk (M := q_W_fillGains) k_W_fillGains.1 k_W_fillGains.2 [2, 11, 54] 400]
  have key : ∀ (C : Nat → List zv → Mu → mR) (E : Nat → List zv → List zv → Mu → mR), mbk C E q_W_fillGains.1 q_W_fillGains.2.1 z q_W_fillGains.2.2.2 [2, 11, 54] 400 (zfind q_W_fillGains.2.2.2 54) [(2, 0), (0, v1), (0, v2), (0, v3), (0, v4)] [] μ = g_W_fillGains_11 E v1 v2 v3 (zw (v4 + 1)) μ := by
    intro C E
    rfl
  exact key _ _
def g_W_gainOf_33 (E : Nat → List zv → List zv → Mu → mR) (v1 : Int) (v2 : Int) (v3 : Int) (μ : Mu) : mR := E 33 [(2, 0), (0, v1), (0, v2), (0, v3)] [] μ
noncomputable def f_W_gainOf_33 (z : zZ) (d : Nat) (v1 : Int) (v2 : Int) (v3 : Int) (μ : Mu) : mR := g_W_gainOf_33 (fun pc ls st μ => mE z d q_W_gainOf pc ls st μ) v1 v2 v3 μ
def g_W_gainOf_63 (E : Nat → List zv → List zv → Mu → mR) (v100 : Int) (μ : Mu) : mR := E 63 [(9, 0), (9, 0), (9, 0), (9, 0)] [(0, v100)] μ
noncomputable def f_W_gainOf_63 (z : zZ) (d : Nat) (v100 : Int) (μ : Mu) : mR := g_W_gainOf_63 (fun pc ls st μ => mE z d q_W_gainOf pc ls st μ) v100 μ
theorem k_W_gainOf : zprK q_W_gainOf.2.2.2 = true ∧ zinc q_W_gainOf.2.2.2 = true := by decide +kernel
set_option maxRecDepth 100000 in
theorem c_W_gainOf (z : zZ) (d : Nat) (v1 : Int) (v2 : Int) (μ : Mu) : mC z (d + 1) 120 [(2, 0), (0, v1), (0, v2)] μ = gI v1 12 (gI v2 12 ((mC z d 102 [(2, 0), (0, μ 8 v1.toNat), (0, μ 17 v2.toNat)] μ).bind fun q1 => (bif !decide (q1.1 = 0) then (f_W_gainOf_33 z d v1 v2 q1.1 q1.2) else (some (0, q1.2))))) := by
  rw [mC_succ q_W_gainOf rfl rfl rfl]
  rw [mE_bk (M := q_W_gainOf) k_W_gainOf.1 k_W_gainOf.2 [33, 63] 400]
  have key : ∀ (C : Nat → List zv → Mu → mR) (E : Nat → List zv → List zv → Mu → mR), mbk C E q_W_gainOf.1 q_W_gainOf.2.1 z q_W_gainOf.2.2.2 [33, 63] 400 (zfind q_W_gainOf.2.2.2 0) (zentry q_W_gainOf.2.2.1 [(2, 0), (0, v1), (0, v2)]) [] μ = gI v1 12 (gI v2 12 ((C 102 [(2, 0), (0, μ 8 v1.toNat), (0, μ 17 v2.toNat)] μ).bind fun q1 => (bif !decide (q1.1 = 0) then (g_W_gainOf_33 E v1 v2 q1.1 q1.2) else (some (0, q1.2))))) := by
    intro C E
    rfl
  exact key _ _
set_option maxRecDepth 100000 in
theorem e_W_gainOf_33 (z : zZ) (d : Nat) (v1 : Int) (v2 : Int) (v3 : Int) (μ : Mu) : f_W_gainOf_33 z d v1 v2 v3 μ = bif decide (v3 ≤ 0) then (gI v1 12 (f_W_gainOf_63 z d (zw (-(μ 24 v1.toNat))) μ)) else (gI v2 12 (f_W_gainOf_63 z d (μ 30 v2.toNat) μ)) := by
  show mE z d q_W_gainOf 33 [(2, 0), (0, v1), (0, v2), (0, v3)] [] μ = _
  rw [mE_bk (M := q_W_gainOf) k_W_gainOf.1 k_W_gainOf.2 [33, 63] 400]
  have key : ∀ (C : Nat → List zv → Mu → mR) (E : Nat → List zv → List zv → Mu → mR), mbk C E q_W_gainOf.1 q_W_gainOf.2.1 z q_W_gainOf.2.2.2 [33, 63] 400 (zfind q_W_gainOf.2.2.2 33) [(2, 0), (0, v1), (0, v2), (0, v3)] [] μ = bif decide (v3 ≤ 0) then (gI v1 12 (g_W_gainOf_63 E (zw (-(μ 24 v1.toNat))) μ)) else (gI v2 12 (g_W_gainOf_63 E (μ 30 v2.toNat) μ)) := by
    intro C E
    rfl
  exact key _ _
set_option maxRecDepth 100000 in
theorem e_W_gainOf_63 (z : zZ) (d : Nat) (v100 : Int) (μ : Mu) : f_W_gainOf_63 z d v100 μ = some (v100, μ) := by
  show mE z d q_W_gainOf 63 [(9, 0), (9, 0), (9, 0), (9, 0)] [(0, v100)] μ = _
  rw [mE_bk (M := q_W_gainOf) k_W_gainOf.1 k_W_gainOf.2 [33, 63] 400]
  have key : ∀ (C : Nat → List zv → Mu → mR) (E : Nat → List zv → List zv → Mu → mR), mbk C E q_W_gainOf.1 q_W_gainOf.2.1 z q_W_gainOf.2.2.2 [33, 63] 400 (zfind q_W_gainOf.2.2.2 63) [(9, 0), (9, 0), (9, 0), (9, 0)] [(0, v100)] μ = some (v100, μ) := by
    intro C E
    rfl
  exact key _ _
def g_W_bothStay_16 (E : Nat → List zv → List zv → Mu → mR) (v1 : Int) (v2 : Int) (v3 : Int) (v4 : Int) (v5 : Int) (v6 : Int) (μ : Mu) : mR := E 16 [(2, 0), (0, v1), (0, v2), (0, v3), (0, v4), (0, v5), (0, v6)] [] μ
noncomputable def f_W_bothStay_16 (z : zZ) (d : Nat) (v1 : Int) (v2 : Int) (v3 : Int) (v4 : Int) (v5 : Int) (v6 : Int) (μ : Mu) : mR := g_W_bothStay_16 (fun pc ls st μ => mE z d q_W_bothStay pc ls st μ) v1 v2 v3 v4 v5 v6 μ
def g_W_bothStay_51 (E : Nat → List zv → List zv → Mu → mR) (v1 : Int) (v2 : Int) (v3 : Int) (v4 : Int) (v5 : Int) (v6 : Int) (μ : Mu) : mR := E 51 [(2, 0), (0, v1), (0, v2), (0, v3), (0, v4), (0, v5), (0, v6)] [] μ
noncomputable def f_W_bothStay_51 (z : zZ) (d : Nat) (v1 : Int) (v2 : Int) (v3 : Int) (v4 : Int) (v5 : Int) (v6 : Int) (μ : Mu) : mR := g_W_bothStay_51 (fun pc ls st μ => mE z d q_W_bothStay pc ls st μ) v1 v2 v3 v4 v5 v6 μ
def g_W_bothStay_80 (E : Nat → List zv → List zv → Mu → mR) (v1 : Int) (v2 : Int) (v3 : Int) (v4 : Int) (v5 : Int) (v6 : Int) (μ : Mu) : mR := E 80 [(2, 0), (0, v1), (0, v2), (0, v3), (0, v4), (0, v5), (0, v6)] [] μ
noncomputable def f_W_bothStay_80 (z : zZ) (d : Nat) (v1 : Int) (v2 : Int) (v3 : Int) (v4 : Int) (v5 : Int) (v6 : Int) (μ : Mu) : mR := g_W_bothStay_80 (fun pc ls st μ => mE z d q_W_bothStay pc ls st μ) v1 v2 v3 v4 v5 v6 μ
theorem k_W_bothStay : zprK q_W_bothStay.2.2.2 = true ∧ zinc q_W_bothStay.2.2.2 = true := by decide +kernel
set_option maxRecDepth 100000 in
theorem c_W_bothStay (z : zZ) (d : Nat) (v1 : Int) (v2 : Int) (v3 : Int) (v4 : Int) (μ : Mu) : mC z (d + 1) 121 [(2, 0), (0, v1), (0, v2), (0, v3), (0, v4)] μ = gI (zw ((zw (v1 * 12)) + v2)) 144 (f_W_bothStay_16 z d v1 v2 v3 v4 (μ 54 ((zw ((zw (v1 * 12)) + v2)).toNat)) 0 μ) := by
  rw [mC_succ q_W_bothStay rfl rfl rfl]
  rw [mE_bk (M := q_W_bothStay) k_W_bothStay.1 k_W_bothStay.2 [16, 51, 80] 400]
  have key : ∀ (C : Nat → List zv → Mu → mR) (E : Nat → List zv → List zv → Mu → mR), mbk C E q_W_bothStay.1 q_W_bothStay.2.1 z q_W_bothStay.2.2.2 [16, 51, 80] 400 (zfind q_W_bothStay.2.2.2 0) (zentry q_W_bothStay.2.2.1 [(2, 0), (0, v1), (0, v2), (0, v3), (0, v4)]) [] μ = gI (zw ((zw (v1 * 12)) + v2)) 144 (g_W_bothStay_16 E v1 v2 v3 v4 (μ 54 ((zw ((zw (v1 * 12)) + v2)).toNat)) 0 μ) := by
    intro C E
    rfl
  exact key _ _
set_option maxRecDepth 100000 in
theorem e_W_bothStay_16 (z : zZ) (d : Nat) (v1 : Int) (v2 : Int) (v3 : Int) (v4 : Int) (v5 : Int) (v6 : Int) (μ : Mu) : f_W_bothStay_16 z d v1 v2 v3 v4 v5 v6 μ = bif decide (12 ≤ v6) then (some (1, μ)) else ((mC z d 23 [(0, v3), (0, v6)] μ).bind fun q1 => (bif decide (q1.1 = 0) then (f_W_bothStay_51 z d v1 v2 v3 v4 v5 v6 q1.2) else (gI (zw ((zw (v6 * 12)) + v2)) 144 (bif decide (q1.2 54 ((zw ((zw (v6 * 12)) + v2)).toNat) ≤ v5) then (f_W_bothStay_51 z d v1 v2 v3 v4 v5 v6 q1.2) else (some (0, q1.2)))))) := by
  show mE z d q_W_bothStay 16 [(2, 0), (0, v1), (0, v2), (0, v3), (0, v4), (0, v5), (0, v6)] [] μ = _
  rw [mE_bk (M := q_W_bothStay) k_W_bothStay.1 k_W_bothStay.2 [16, 51, 80] 400]
  have key : ∀ (C : Nat → List zv → Mu → mR) (E : Nat → List zv → List zv → Mu → mR), mbk C E q_W_bothStay.1 q_W_bothStay.2.1 z q_W_bothStay.2.2.2 [16, 51, 80] 400 (zfind q_W_bothStay.2.2.2 16) [(2, 0), (0, v1), (0, v2), (0, v3), (0, v4), (0, v5), (0, v6)] [] μ = bif decide (12 ≤ v6) then (some (1, μ)) else ((C 23 [(0, v3), (0, v6)] μ).bind fun q1 => (bif decide (q1.1 = 0) then (g_W_bothStay_51 E v1 v2 v3 v4 v5 v6 q1.2) else (gI (zw ((zw (v6 * 12)) + v2)) 144 (bif decide (q1.2 54 ((zw ((zw (v6 * 12)) + v2)).toNat) ≤ v5) then (g_W_bothStay_51 E v1 v2 v3 v4 v5 v6 q1.2) else (some (0, q1.2)))))) := by
    intro C E
    rfl
  exact key _ _
set_option maxRecDepth 100000 in
theorem e_W_bothStay_51 (z : zZ) (d : Nat) (v1 : Int) (v2 : Int) (v3 : Int) (v4 : Int) (v5 : Int) (v6 : Int) (μ : Mu) : f_W_bothStay_51 z d v1 v2 v3 v4 v5 v6 μ = (mC z d 23 [(0, v4), (0, v6)] μ).bind fun q1 => (bif decide (q1.1 = 0) then (f_W_bothStay_80 z d v1 v2 v3 v4 v5 v6 q1.2) else (gI (zw ((zw (v1 * 12)) + v6)) 144 (bif decide (v5 ≤ q1.2 54 ((zw ((zw (v1 * 12)) + v6)).toNat)) then (f_W_bothStay_80 z d v1 v2 v3 v4 v5 v6 q1.2) else (some (0, q1.2))))) := by
  show mE z d q_W_bothStay 51 [(2, 0), (0, v1), (0, v2), (0, v3), (0, v4), (0, v5), (0, v6)] [] μ = _
  rw [mE_bk (M := q_W_bothStay) k_W_bothStay.1 k_W_bothStay.2 [16, 51, 80] 400]
  have key : ∀ (C : Nat → List zv → Mu → mR) (E : Nat → List zv → List zv → Mu → mR), mbk C E q_W_bothStay.1 q_W_bothStay.2.1 z q_W_bothStay.2.2.2 [16, 51, 80] 400 (zfind q_W_bothStay.2.2.2 51) [(2, 0), (0, v1), (0, v2), (0, v3), (0, v4), (0, v5), (0, v6)] [] μ = (C 23 [(0, v4), (0, v6)] μ).bind fun q1 => (bif decide (q1.1 = 0) then (g_W_bothStay_80 E v1 v2 v3 v4 v5 v6 q1.2) else (gI (zw ((zw (v1 * 12)) + v6)) 144 (bif decide (v5 ≤ q1.2 54 ((zw ((zw (v1 * 12)) + v6)).toNat)) then (g_W_bothStay_80 E v1 v2 v3 v4 v5 v6 q1.2) else (some (0, q1.2))))) := by
    intro C E
    rfl
  exact key _ _
set_option maxRecDepth 100000 in
theorem e_W_bothStay_80 (z : zZ) (d : Nat) (v1 : Int) (v2 : Int) (v3 : Int) (v4 : Int) (v5 : Int) (v6 : Int) (μ : Mu) : f_W_bothStay_80 z d v1 v2 v3 v4 v5 v6 μ = f_W_bothStay_16 z d v1 v2 v3 v4 v5 (zw (v6 + 1)) μ := by
  show mE z d q_W_bothStay 80 [(2, 0), (0, v1), (0, v2), (0, v3), (0, v4), (0, v5), (0, v6)] [] μ = _
  rw [mE_bk (M := q_W_bothStay) k_W_bothStay.1 k_W_bothStay.2 [16, 51, 80] 400]
  have key : ∀ (C : Nat → List zv → Mu → mR) (E : Nat → List zv → List zv → Mu → mR), mbk C E q_W_bothStay.1 q_W_bothStay.2.1 z q_W_bothStay.2.2.2 [16, 51, 80] 400 (zfind q_W_bothStay.2.2.2 80) [(2, 0), (0, v1), (0, v2), (0, v3), (0, v4), (0, v5), (0, v6)] [] μ = g_W_bothStay_16 E v1 v2 v3 v4 v5 (zw (v6 + 1)) μ := by
    intro C E
    rfl
  exact key _ _
