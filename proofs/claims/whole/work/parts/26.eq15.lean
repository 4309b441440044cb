def g_M_fight_18 (E : Nat → List zv → List zv → Mu → mR) (μ : Mu) : mR := E 18 [(9, 0), (9, 0), (9, 0), (9, 0)] [] μ
noncomputable def f_M_fight_18 (z : zZ) (d : Nat) (μ : Mu) : mR := g_M_fight_18 (fun pc ls st μ => mE z d q_M_fight pc ls st μ) μ
def g_M_fight_20 (E : Nat → List zv → List zv → Mu → mR) (v1 : Int) (μ : Mu) : mR := E 20 [(2, 86), (0, v1), (9, 0), (9, 0)] [] μ
noncomputable def f_M_fight_20 (z : zZ) (d : Nat) (v1 : Int) (μ : Mu) : mR := g_M_fight_20 (fun pc ls st μ => mE z d q_M_fight pc ls st μ) v1 μ
def g_M_fight_65 (E : Nat → List zv → List zv → Mu → mR) (v2 : Int) (μ : Mu) : mR := E 65 [(2, 86), (9, 0), (0, v2), (9, 0)] [] μ
noncomputable def f_M_fight_65 (z : zZ) (d : Nat) (v2 : Int) (μ : Mu) : mR := g_M_fight_65 (fun pc ls st μ => mE z d q_M_fight pc ls st μ) v2 μ
def g_M_fight_79 (E : Nat → List zv → List zv → Mu → mR) (μ : Mu) : mR := E 79 [(2, 86), (9, 0), (9, 0), (9, 0)] [] μ
noncomputable def f_M_fight_79 (z : zZ) (d : Nat) (μ : Mu) : mR := g_M_fight_79 (fun pc ls st μ => mE z d q_M_fight pc ls st μ) μ
def g_M_fight_81 (E : Nat → List zv → List zv → Mu → mR) (v3 : Int) (μ : Mu) : mR := E 81 [(2, 86), (9, 0), (9, 0), (0, v3)] [] μ
noncomputable def f_M_fight_81 (z : zZ) (d : Nat) (v3 : Int) (μ : Mu) : mR := g_M_fight_81 (fun pc ls st μ => mE z d q_M_fight pc ls st μ) v3 μ
def g_M_fight_123 (E : Nat → List zv → List zv → Mu → mR) (v3 : Int) (μ : Mu) : mR := E 123 [(2, 86), (9, 0), (9, 0), (0, v3)] [] μ
noncomputable def f_M_fight_123 (z : zZ) (d : Nat) (v3 : Int) (μ : Mu) : mR := g_M_fight_123 (fun pc ls st μ => mE z d q_M_fight pc ls st μ) v3 μ
def g_M_fight_143 (E : Nat → List zv → List zv → Mu → mR) (μ : Mu) : mR := E 143 [(9, 0), (9, 0), (9, 0), (9, 0)] [] μ
noncomputable def f_M_fight_143 (z : zZ) (d : Nat) (μ : Mu) : mR := g_M_fight_143 (fun pc ls st μ => mE z d q_M_fight pc ls st μ) μ
def g_M_fight_147 (E : Nat → List zv → List zv → Mu → mR) (v3 : Int) (μ : Mu) : mR := E 147 [(2, 86), (9, 0), (9, 0), (0, v3)] [] μ
noncomputable def f_M_fight_147 (z : zZ) (d : Nat) (v3 : Int) (μ : Mu) : mR := g_M_fight_147 (fun pc ls st μ => mE z d q_M_fight pc ls st μ) v3 μ
def g_M_fight_160 (E : Nat → List zv → List zv → Mu → mR) (v3 : Int) (μ : Mu) : mR := E 160 [(2, 86), (9, 0), (9, 0), (0, v3)] [] μ
noncomputable def f_M_fight_160 (z : zZ) (d : Nat) (v3 : Int) (μ : Mu) : mR := g_M_fight_160 (fun pc ls st μ => mE z d q_M_fight pc ls st μ) v3 μ
theorem k_M_fight : zprK q_M_fight.2.2.2 = true ∧ zinc q_M_fight.2.2.2 = true := by decide +kernel
set_option maxRecDepth 100000 in
theorem c_M_fight (z : zZ) (d : Nat) (v1 : Int) (μ : Mu) : mC z (d + 1) 281 [(2, 86), (0, v1)] μ = (mC z d 183 [(0, v1), (0, 3), (0, 17)] μ).bind fun q1 => (bif decide (q1.1 = 0) then (f_M_fight_18 z d q1.2) else (bif decide (v1 ≤ q1.2 86 9) then (f_M_fight_20 z d v1 q1.2) else (f_M_fight_18 z d q1.2))) := by
  rw [mC_succ q_M_fight rfl rfl rfl]
  rw [mE_bk (M := q_M_fight) k_M_fight.1 k_M_fight.2 [18, 20, 65, 79, 81, 123, 143, 147, 160] 400]
  have key : ∀ (C : Nat → List zv → Mu → mR) (E : Nat → List zv → List zv → Mu → mR), mbk C E q_M_fight.1 q_M_fight.2.1 z q_M_fight.2.2.2 [18, 20, 65, 79, 81, 123, 143, 147, 160] 400 (zfind q_M_fight.2.2.2 0) (zentry q_M_fight.2.2.1 [(2, 86), (0, v1)]) [] μ = (C 183 [(0, v1), (0, 3), (0, 17)] μ).bind fun q1 => (bif decide (q1.1 = 0) then (g_M_fight_18 E q1.2) else (bif decide (v1 ≤ q1.2 86 9) then (g_M_fight_20 E v1 q1.2) else (g_M_fight_18 E q1.2))) := by
    intro C E
    rfl
  exact key _ _
set_option maxRecDepth 100000 in
theorem e_M_fight_18 (z : zZ) (d : Nat) (μ : Mu) : f_M_fight_18 z d μ = some ((-1), μ) := by
  show mE z d q_M_fight 18 [(9, 0), (9, 0), (9, 0), (9, 0)] [] μ = _
  rw [mE_bk (M := q_M_fight) k_M_fight.1 k_M_fight.2 [18, 20, 65, 79, 81, 123, 143, 147, 160] 400]
  have key : ∀ (C : Nat → List zv → Mu → mR) (E : Nat → List zv → List zv → Mu → mR), mbk C E q_M_fight.1 q_M_fight.2.1 z q_M_fight.2.2.2 [18, 20, 65, 79, 81, 123, 143, 147, 160] 400 (zfind q_M_fight.2.2.2 18) [(9, 0), (9, 0), (9, 0), (9, 0)] [] μ = some ((-1), μ) := by
    intro C E
    rfl
  exact key _ _
set_option maxRecDepth 100000 in
theorem e_M_fight_20 (z : zZ) (d : Nat) (v1 : Int) (μ : Mu) : f_M_fight_20 z d v1 μ = (mC z d 230 [(2, 86)] (zup (zup (zup μ 86 10 0) 86 11 v1) 86 48 0)).bind fun q1 => (bif decide (q1.1 = 0) then (f_M_fight_65 z d q1.1 q1.2) else (bif decide (q1.2 86 11 ≤ q1.2 86 10) then (f_M_fight_65 z d q1.1 q1.2) else ((mC z d 194 [(2, 86), (0, 1), (0, q1.2 86 10)] q1.2).bind fun q2 => (f_M_fight_65 z d q2.1 q2.2)))) := by
  show mE z d q_M_fight 20 [(2, 86), (0, v1), (9, 0), (9, 0)] [] μ = _
  rw [mE_bk (M := q_M_fight) k_M_fight.1 k_M_fight.2 [18, 20, 65, 79, 81, 123, 143, 147, 160] 400]
  have key : ∀ (C : Nat → List zv → Mu → mR) (E : Nat → List zv → List zv → Mu → mR), mbk C E q_M_fight.1 q_M_fight.2.1 z q_M_fight.2.2.2 [18, 20, 65, 79, 81, 123, 143, 147, 160] 400 (zfind q_M_fight.2.2.2 20) [(2, 86), (0, v1), (9, 0), (9, 0)] [] μ = (C 230 [(2, 86)] (zup (zup (zup μ 86 10 0) 86 11 v1) 86 48 0)).bind fun q1 => (bif decide (q1.1 = 0) then (g_M_fight_65 E q1.1 q1.2) else (bif decide (q1.2 86 11 ≤ q1.2 86 10) then (g_M_fight_65 E q1.1 q1.2) else ((C 194 [(2, 86), (0, 1), (0, q1.2 86 10)] q1.2).bind fun q2 => (g_M_fight_65 E q2.1 q2.2)))) := by
    intro C E
    rfl
  exact key _ _
set_option maxRecDepth 100000 in
theorem e_M_fight_65 (z : zZ) (d : Nat) (v2 : Int) (μ : Mu) : f_M_fight_65 z d v2 μ = bif !decide (v2 = 0) then (f_M_fight_79 z d (zup μ 86 9 0)) else (some (μ 86 12, zup μ 86 9 0)) := by
  show mE z d q_M_fight 65 [(2, 86), (9, 0), (0, v2), (9, 0)] [] μ = _
  rw [mE_bk (M := q_M_fight) k_M_fight.1 k_M_fight.2 [18, 20, 65, 79, 81, 123, 143, 147, 160] 400]
  have key : ∀ (C : Nat → List zv → Mu → mR) (E : Nat → List zv → List zv → Mu → mR), mbk C E q_M_fight.1 q_M_fight.2.1 z q_M_fight.2.2.2 [18, 20, 65, 79, 81, 123, 143, 147, 160] 400 (zfind q_M_fight.2.2.2 65) [(2, 86), (9, 0), (0, v2), (9, 0)] [] μ = bif !decide (v2 = 0) then (g_M_fight_79 E (zup μ 86 9 0)) else (some (μ 86 12, zup μ 86 9 0)) := by
    intro C E
    rfl
  exact key _ _
set_option maxRecDepth 100000 in
theorem e_M_fight_79 (z : zZ) (d : Nat) (μ : Mu) : f_M_fight_79 z d μ = f_M_fight_81 z d 0 μ := by
  show mE z d q_M_fight 79 [(2, 86), (9, 0), (9, 0), (9, 0)] [] μ = _
  rw [mE_bk (M := q_M_fight) k_M_fight.1 k_M_fight.2 [18, 20, 65, 79, 81, 123, 143, 147, 160] 400]
  have key : ∀ (C : Nat → List zv → Mu → mR) (E : Nat → List zv → List zv → Mu → mR), mbk C E q_M_fight.1 q_M_fight.2.1 z q_M_fight.2.2.2 [18, 20, 65, 79, 81, 123, 143, 147, 160] 400 (zfind q_M_fight.2.2.2 79) [(2, 86), (9, 0), (9, 0), (9, 0)] [] μ = g_M_fight_81 E 0 μ := by
    intro C E
    rfl
  exact key _ _
set_option maxRecDepth 100000 in
theorem e_M_fight_81 (z : zZ) (d : Nat) (v3 : Int) (μ : Mu) : f_M_fight_81 z d v3 μ = bif decide (μ 113 0 ≤ v3) then (f_M_fight_123 z d v3 μ) else (bif decide (μ 115 0 ≤ v3) then (f_M_fight_123 z d v3 μ) else (gI v3 96 (gI v3 96 (bif !decide (μ 112 v3.toNat = μ 114 v3.toNat) then (f_M_fight_123 z d v3 μ) else (f_M_fight_81 z d (zw (v3 + 1)) μ))))) := by
  show mE z d q_M_fight 81 [(2, 86), (9, 0), (9, 0), (0, v3)] [] μ = _
  rw [mE_bk (M := q_M_fight) k_M_fight.1 k_M_fight.2 [18, 20, 65, 79, 81, 123, 143, 147, 160] 400]
  have key : ∀ (C : Nat → List zv → Mu → mR) (E : Nat → List zv → List zv → Mu → mR), mbk C E q_M_fight.1 q_M_fight.2.1 z q_M_fight.2.2.2 [18, 20, 65, 79, 81, 123, 143, 147, 160] 400 (zfind q_M_fight.2.2.2 81) [(2, 86), (9, 0), (9, 0), (0, v3)] [] μ = bif decide (μ 113 0 ≤ v3) then (g_M_fight_123 E v3 μ) else (bif decide (μ 115 0 ≤ v3) then (g_M_fight_123 E v3 μ) else (gI v3 96 (gI v3 96 (bif !decide (μ 112 v3.toNat = μ 114 v3.toNat) then (g_M_fight_123 E v3 μ) else (g_M_fight_81 E (zw (v3 + 1)) μ))))) := by
    intro C E
    rfl
  exact key _ _
set_option maxRecDepth 100000 in
theorem e_M_fight_123 (z : zZ) (d : Nat) (v3 : Int) (μ : Mu) : f_M_fight_123 z d v3 μ = bif decide (v3 = μ 113 0) then (f_M_fight_143 z d μ) else (bif !decide (v3 = μ 115 0) then (f_M_fight_147 z d v3 μ) else (f_M_fight_143 z d μ)) := by
  show mE z d q_M_fight 123 [(2, 86), (9, 0), (9, 0), (0, v3)] [] μ = _
  rw [mE_bk (M := q_M_fight) k_M_fight.1 k_M_fight.2 [18, 20, 65, 79, 81, 123, 143, 147, 160] 400]
  have key : ∀ (C : Nat → List zv → Mu → mR) (E : Nat → List zv → List zv → Mu → mR), mbk C E q_M_fight.1 q_M_fight.2.1 z q_M_fight.2.2.2 [18, 20, 65, 79, 81, 123, 143, 147, 160] 400 (zfind q_M_fight.2.2.2 123) [(2, 86), (9, 0), (9, 0), (0, v3)] [] μ = bif decide (v3 = μ 113 0) then (g_M_fight_143 E μ) else (bif !decide (v3 = μ 115 0) then (g_M_fight_147 E v3 μ) else (g_M_fight_143 E μ)) := by
    intro C E
    rfl
  exact key _ _
set_option maxRecDepth 100000 in
theorem e_M_fight_143 (z : zZ) (d : Nat) (μ : Mu) : f_M_fight_143 z d μ = some ((-5000), μ) := by
  show mE z d q_M_fight 143 [(9, 0), (9, 0), (9, 0), (9, 0)] [] μ = _
  rw [mE_bk (M := q_M_fight) k_M_fight.1 k_M_fight.2 [18, 20, 65, 79, 81, 123, 143, 147, 160] 400]
  have key : ∀ (C : Nat → List zv → Mu → mR) (E : Nat → List zv → List zv → Mu → mR), mbk C E q_M_fight.1 q_M_fight.2.1 z q_M_fight.2.2.2 [18, 20, 65, 79, 81, 123, 143, 147, 160] 400 (zfind q_M_fight.2.2.2 143) [(9, 0), (9, 0), (9, 0), (9, 0)] [] μ = some ((-5000), μ) := by
    intro C E
    rfl
  exact key _ _
set_option maxRecDepth 100000 in
theorem e_M_fight_147 (z : zZ) (d : Nat) (v3 : Int) (μ : Mu) : f_M_fight_147 z d v3 μ = bif !decide (μ 86 67 = 24) then (f_M_fight_160 z d v3 μ) else (some ((-4000), μ)) := by
  show mE z d q_M_fight 147 [(2, 86), (9, 0), (9, 0), (0, v3)] [] μ = _
  rw [mE_bk (M := q_M_fight) k_M_fight.1 k_M_fight.2 [18, 20, 65, 79, 81, 123, 143, 147, 160] 400]
  have key : ∀ (C : Nat → List zv → Mu → mR) (E : Nat → List zv → List zv → Mu → mR), mbk C E q_M_fight.1 q_M_fight.2.1 z q_M_fight.2.2.2 [18, 20, 65, 79, 81, 123, 143, 147, 160] 400 (zfind q_M_fight.2.2.2 147) [(2, 86), (9, 0), (9, 0), (0, v3)] [] μ = bif !decide (μ 86 67 = 24) then (g_M_fight_160 E v3 μ) else (some ((-4000), μ)) := by
    intro C E
    rfl
  exact key _ _
set_option maxRecDepth 100000 in
theorem e_M_fight_160 (z : zZ) (d : Nat) (v3 : Int) (μ : Mu) : f_M_fight_160 z d v3 μ = gI v3 96 (gI (μ 86 67) 24 (gI v3 96 (gI (μ 86 67) 24 (some (zw ((μ 86 67) + 1), zup (zup (zup μ 128 ((μ 86 67).toNat) (μ 112 v3.toNat)) 129 ((μ 86 67).toNat) (μ 114 v3.toNat)) 86 67 (zw ((μ 86 67) + 1))))))) := by
  show mE z d q_M_fight 160 [(2, 86), (9, 0), (9, 0), (0, v3)] [] μ = _
  rw [mE_bk (M := q_M_fight) k_M_fight.1 k_M_fight.2 [18, 20, 65, 79, 81, 123, 143, 147, 160] 400]
  have key : ∀ (C : Nat → List zv → Mu → mR) (E : Nat → List zv → List zv → Mu → mR), mbk C E q_M_fight.1 q_M_fight.2.1 z q_M_fight.2.2.2 [18, 20, 65, 79, 81, 123, 143, 147, 160] 400 (zfind q_M_fight.2.2.2 160) [(2, 86), (9, 0), (9, 0), (0, v3)] [] μ = gI v3 96 (gI (μ 86 67) 24 (gI v3 96 (gI (μ 86 67) 24 (some (zw ((μ 86 67) + 1), zup (zup (zup μ 128 ((μ 86 67).toNat) (μ 112 v3.toNat)) 129 ((μ 86 67).toNat) (μ 114 v3.toNat)) 86 67 (zw ((μ 86 67) + 1))))))) := by
    intro C E
    rfl
  exact key _ _
def g_M_learnt_14 (E : Nat → List zv → List zv → Mu → mR) (v1 : Int) (μ : Mu) : mR := E 14 [(2, 86), (0, v1), (9, 0), (9, 0), (9, 0), (9, 0), (9, 0)] [] μ
noncomputable def f_M_learnt_14 (z : zZ) (d : Nat) (v1 : Int) (μ : Mu) : mR := g_M_learnt_14 (fun pc ls st μ => mE z d q_M_learnt pc ls st μ) v1 μ
def g_M_learnt_30 (E : Nat → List zv → List zv → Mu → mR) (v1 : Int) (v2 : Int) (μ : Mu) : mR := E 30 [(2, 86), (0, v1), (1, v2), (9, 0), (9, 0), (9, 0), (9, 0)] [] μ
noncomputable def f_M_learnt_30 (z : zZ) (d : Nat) (v1 : Int) (v2 : Int) (μ : Mu) : mR := g_M_learnt_30 (fun pc ls st μ => mE z d q_M_learnt pc ls st μ) v1 v2 μ
def g_M_learnt_40 (E : Nat → List zv → List zv → Mu → mR) (v1 : Int) (μ : Mu) : mR := E 40 [(2, 86), (0, v1), (9, 0), (9, 0), (9, 0), (9, 0), (9, 0)] [] μ
noncomputable def f_M_learnt_40 (z : zZ) (d : Nat) (v1 : Int) (μ : Mu) : mR := g_M_learnt_40 (fun pc ls st μ => mE z d q_M_learnt pc ls st μ) v1 μ
def g_M_learnt_49 (E : Nat → List zv → List zv → Mu → mR) (v1 : Int) (v4 : Int) (v5 : Int) (v6 : Int) (μ : Mu) : mR := E 49 [(2, 86), (0, v1), (9, 0), (9, 0), (0, v4), (0, v5), (0, v6)] [] μ
noncomputable def f_M_learnt_49 (z : zZ) (d : Nat) (v1 : Int) (v4 : Int) (v5 : Int) (v6 : Int) (μ : Mu) : mR := g_M_learnt_49 (fun pc ls st μ => mE z d q_M_learnt pc ls st μ) v1 v4 v5 v6 μ
def g_M_learnt_58 (E : Nat → List zv → List zv → Mu → mR) (v1 : Int) (v4 : Int) (v5 : Int) (v6 : Int) (μ : Mu) : mR := E 58 [(2, 86), (0, v1), (9, 0), (9, 0), (0, v4), (0, v5), (0, v6)] [] μ
noncomputable def f_M_learnt_58 (z : zZ) (d : Nat) (v1 : Int) (v4 : Int) (v5 : Int) (v6 : Int) (μ : Mu) : mR := g_M_learnt_58 (fun pc ls st μ => mE z d q_M_learnt pc ls st μ) v1 v4 v5 v6 μ
def g_M_learnt_100 (E : Nat → List zv → List zv → Mu → mR) (v1 : Int) (v4 : Int) (v5 : Int) (v6 : Int) (μ : Mu) : mR := E 100 [(2, 86), (0, v1), (9, 0), (9, 0), (0, v4), (0, v5), (0, v6)] [] μ
noncomputable def f_M_learnt_100 (z : zZ) (d : Nat) (v1 : Int) (v4 : Int) (v5 : Int) (v6 : Int) (μ : Mu) : mR := g_M_learnt_100 (fun pc ls st μ => mE z d q_M_learnt pc ls st μ) v1 v4 v5 v6 μ
def g_M_learnt_109 (E : Nat → List zv → List zv → Mu → mR) (v1 : Int) (v4 : Int) (v5 : Int) (v6 : Int) (μ : Mu) : mR := E 109 [(2, 86), (0, v1), (9, 0), (9, 0), (0, v4), (0, v5), (0, v6)] [] μ
noncomputable def f_M_learnt_109 (z : zZ) (d : Nat) (v1 : Int) (v4 : Int) (v5 : Int) (v6 : Int) (μ : Mu) : mR := g_M_learnt_109 (fun pc ls st μ => mE z d q_M_learnt pc ls st μ) v1 v4 v5 v6 μ
def g_M_learnt_124 (E : Nat → List zv → List zv → Mu → mR) (v5 : Int) (μ : Mu) : mR := E 124 [(9, 0), (9, 0), (9, 0), (9, 0), (9, 0), (0, v5), (9, 0)] [] μ
noncomputable def f_M_learnt_124 (z : zZ) (d : Nat) (v5 : Int) (μ : Mu) : mR := g_M_learnt_124 (fun pc ls st μ => mE z d q_M_learnt pc ls st μ) v5 μ
theorem k_M_learnt : zprK q_M_learnt.2.2.2 = true ∧ zinc q_M_learnt.2.2.2 = true := by decide +kernel
set_option maxRecDepth 100000 in
theorem c_M_learnt (z : zZ) (d : Nat) (v1 : Int) (μ : Mu) : mC z (d + 1) 282 [(2, 86), (0, v1)] μ = (mC z d 183 [(0, v1), (0, (-1)), (0, 11)] μ).bind fun q1 => (bif !decide (q1.1 = 0) then (f_M_learnt_14 z d v1 q1.2) else (some ((-3), q1.2))) := by
  rw [mC_succ q_M_learnt rfl rfl rfl]
  rw [mE_bk (M := q_M_learnt) k_M_learnt.1 k_M_learnt.2 [14, 30, 40, 49, 58, 100, 109, 124] 400]
  have key : ∀ (C : Nat → List zv → Mu → mR) (E : Nat → List zv → List zv → Mu → mR), mbk C E q_M_learnt.1 q_M_learnt.2.1 z q_M_learnt.2.2.2 [14, 30, 40, 49, 58, 100, 109, 124] 400 (zfind q_M_learnt.2.2.2 0) (zentry q_M_learnt.2.2.1 [(2, 86), (0, v1)]) [] μ = (C 183 [(0, v1), (0, (-1)), (0, 11)] μ).bind fun q1 => (bif !decide (q1.1 = 0) then (g_M_learnt_14 E v1 q1.2) else (some ((-3), q1.2))) := by
    intro C E
    rfl
  exact key _ _
set_option maxRecDepth 100000 in
theorem e_M_learnt_14 (z : zZ) (d : Nat) (v1 : Int) (μ : Mu) : f_M_learnt_14 z d v1 μ = (mC z d 283 [(2, 86)] μ).bind fun q1 => ((mC z d 284 [(2, 86)] q1.2).bind fun q2 => (bif !decide (v1 = (-1)) then (f_M_learnt_30 z d v1 q2.1 q2.2) else (some (q2.1, q2.2)))) := by
  show mE z d q_M_learnt 14 [(2, 86), (0, v1), (9, 0), (9, 0), (9, 0), (9, 0), (9, 0)] [] μ = _
  rw [mE_bk (M := q_M_learnt) k_M_learnt.1 k_M_learnt.2 [14, 30, 40, 49, 58, 100, 109, 124] 400]
  have key : ∀ (C : Nat → List zv → Mu → mR) (E : Nat → List zv → List zv → Mu → mR), mbk C E q_M_learnt.1 q_M_learnt.2.1 z q_M_learnt.2.2.2 [14, 30, 40, 49, 58, 100, 109, 124] 400 (zfind q_M_learnt.2.2.2 14) [(2, 86), (0, v1), (9, 0), (9, 0), (9, 0), (9, 0), (9, 0)] [] μ = (C 283 [(2, 86)] μ).bind fun q1 => ((C 284 [(2, 86)] q1.2).bind fun q2 => (bif !decide (v1 = (-1)) then (g_M_learnt_30 E v1 q2.1 q2.2) else (some (q2.1, q2.2)))) := by
    intro C E
    rfl
  exact key _ _
set_option maxRecDepth 100000 in
theorem e_M_learnt_30 (z : zZ) (d : Nat) (v1 : Int) (v2 : Int) (μ : Mu) : f_M_learnt_30 z d v1 v2 μ = bif !decide (z_lcmp v2 0 = 0) then (f_M_learnt_40 z d v1 μ) else (some ((-2), μ)) := by
  show mE z d q_M_learnt 30 [(2, 86), (0, v1), (1, v2), (9, 0), (9, 0), (9, 0), (9, 0)] [] μ = _
  rw [mE_bk (M := q_M_learnt) k_M_learnt.1 k_M_learnt.2 [14, 30, 40, 49, 58, 100, 109, 124] 400]
  have key : ∀ (C : Nat → List zv → Mu → mR) (E : Nat → List zv → List zv → Mu → mR), mbk C E q_M_learnt.1 q_M_learnt.2.1 z q_M_learnt.2.2.2 [14, 30, 40, 49, 58, 100, 109, 124] 400 (zfind q_M_learnt.2.2.2 30) [(2, 86), (0, v1), (1, v2), (9, 0), (9, 0), (9, 0), (9, 0)] [] μ = bif !decide (z_lcmp v2 0 = 0) then (g_M_learnt_40 E v1 μ) else (some ((-2), μ)) := by
    intro C E
    rfl
  exact key _ _
set_option maxRecDepth 100000 in
theorem e_M_learnt_40 (z : zZ) (d : Nat) (v1 : Int) (μ : Mu) : f_M_learnt_40 z d v1 μ = f_M_learnt_49 z d v1 0 0 0 μ := by
  show mE z d q_M_learnt 40 [(2, 86), (0, v1), (9, 0), (9, 0), (9, 0), (9, 0), (9, 0)] [] μ = _
  rw [mE_bk (M := q_M_learnt) k_M_learnt.1 k_M_learnt.2 [14, 30, 40, 49, 58, 100, 109, 124] 400]
  have key : ∀ (C : Nat → List zv → Mu → mR) (E : Nat → List zv → List zv → Mu → mR), mbk C E q_M_learnt.1 q_M_learnt.2.1 z q_M_learnt.2.2.2 [14, 30, 40, 49, 58, 100, 109, 124] 400 (zfind q_M_learnt.2.2.2 40) [(2, 86), (0, v1), (9, 0), (9, 0), (9, 0), (9, 0), (9, 0)] [] μ = g_M_learnt_49 E v1 0 0 0 μ := by
    intro C E
    rfl
  exact key _ _
set_option maxRecDepth 100000 in
theorem e_M_learnt_49 (z : zZ) (d : Nat) (v1 : Int) (v4 : Int) (v5 : Int) (v6 : Int) (μ : Mu) : f_M_learnt_49 z d v1 v4 v5 v6 μ = bif decide (v1 < v6) then (f_M_learnt_124 z d v5 μ) else (f_M_learnt_58 z d v1 v4 0 v6 μ) := by
  show mE z d q_M_learnt 49 [(2, 86), (0, v1), (9, 0), (9, 0), (0, v4), (0, v5), (0, v6)] [] μ = _
  rw [mE_bk (M := q_M_learnt) k_M_learnt.1 k_M_learnt.2 [14, 30, 40, 49, 58, 100, 109, 124] 400]
  have key : ∀ (C : Nat → List zv → Mu → mR) (E : Nat → List zv → List zv → Mu → mR), mbk C E q_M_learnt.1 q_M_learnt.2.1 z q_M_learnt.2.2.2 [14, 30, 40, 49, 58, 100, 109, 124] 400 (zfind q_M_learnt.2.2.2 49) [(2, 86), (0, v1), (9, 0), (9, 0), (0, v4), (0, v5), (0, v6)] [] μ = bif decide (v1 < v6) then (g_M_learnt_124 E v5 μ) else (g_M_learnt_58 E v1 v4 0 v6 μ) := by
    intro C E
    rfl
  exact key _ _
set_option maxRecDepth 100000 in
theorem e_M_learnt_124 (z : zZ) (d : Nat) (v5 : Int) (μ : Mu) : f_M_learnt_124 z d v5 μ = some (v5, μ) := by
  show mE z d q_M_learnt 124 [(9, 0), (9, 0), (9, 0), (9, 0), (9, 0), (0, v5), (9, 0)] [] μ = _
  rw [mE_bk (M := q_M_learnt) k_M_learnt.1 k_M_learnt.2 [14, 30, 40, 49, 58, 100, 109, 124] 400]
  have key : ∀ (C : Nat → List zv → Mu → mR) (E : Nat → List zv → List zv → Mu → mR), mbk C E q_M_learnt.1 q_M_learnt.2.1 z q_M_learnt.2.2.2 [14, 30, 40, 49, 58, 100, 109, 124] 400 (zfind q_M_learnt.2.2.2 124) [(9, 0), (9, 0), (9, 0), (9, 0), (9, 0), (0, v5), (9, 0)] [] μ = some (v5, μ) := by
    intro C E
    rfl
  exact key _ _
set_option maxRecDepth 100000 in
theorem e_M_learnt_58 (z : zZ) (d : Nat) (v1 : Int) (v4 : Int) (v5 : Int) (v6 : Int) (μ : Mu) : f_M_learnt_58 z d v1 v4 v5 v6 μ = (mC z d 189 [(0, v4), (0, v5)] μ).bind fun q1 => (bif !decide (q1.1 = 0) then (f_M_learnt_100 z d v1 v4 v5 v6 q1.2) else (gI v5 12 (bif !decide (z_and (q1.2 130 v5.toNat) (z_xor v4 ((-1))) = 0) then (f_M_learnt_100 z d v1 v4 v5 v6 q1.2) else (gI (z_or v4 (z_shl 1 v5)) 4096 (bif !decide (z_lcmp (q1.2 131 ((z_or v4 (z_shl 1 v5)).toNat)) 0 = 0) then (f_M_learnt_109 z d v1 v4 v5 v6 q1.2) else (f_M_learnt_100 z d v1 v4 v5 v6 q1.2)))))) := by
  show mE z d q_M_learnt 58 [(2, 86), (0, v1), (9, 0), (9, 0), (0, v4), (0, v5), (0, v6)] [] μ = _
  rw [mE_bk (M := q_M_learnt) k_M_learnt.1 k_M_learnt.2 [14, 30, 40, 49, 58, 100, 109, 124] 400]
  have key : ∀ (C : Nat → List zv → Mu → mR) (E : Nat → List zv → List zv → Mu → mR), mbk C E q_M_learnt.1 q_M_learnt.2.1 z q_M_learnt.2.2.2 [14, 30, 40, 49, 58, 100, 109, 124] 400 (zfind q_M_learnt.2.2.2 58) [(2, 86), (0, v1), (9, 0), (9, 0), (0, v4), (0, v5), (0, v6)] [] μ = (C 189 [(0, v4), (0, v5)] μ).bind fun q1 => (bif !decide (q1.1 = 0) then (g_M_learnt_100 E v1 v4 v5 v6 q1.2) else (gI v5 12 (bif !decide (z_and (q1.2 130 v5.toNat) (z_xor v4 ((-1))) = 0) then (g_M_learnt_100 E v1 v4 v5 v6 q1.2) else (gI (z_or v4 (z_shl 1 v5)) 4096 (bif !decide (z_lcmp (q1.2 131 ((z_or v4 (z_shl 1 v5)).toNat)) 0 = 0) then (g_M_learnt_109 E v1 v4 v5 v6 q1.2) else (g_M_learnt_100 E v1 v4 v5 v6 q1.2)))))) := by
    intro C E
    rfl
  exact key _ _
set_option maxRecDepth 100000 in
theorem e_M_learnt_100 (z : zZ) (d : Nat) (v1 : Int) (v4 : Int) (v5 : Int) (v6 : Int) (μ : Mu) : f_M_learnt_100 z d v1 v4 v5 v6 μ = f_M_learnt_58 z d v1 v4 (zw (v5 + 1)) v6 μ := by
  show mE z d q_M_learnt 100 [(2, 86), (0, v1), (9, 0), (9, 0), (0, v4), (0, v5), (0, v6)] [] μ = _
  rw [mE_bk (M := q_M_learnt) k_M_learnt.1 k_M_learnt.2 [14, 30, 40, 49, 58, 100, 109, 124] 400]
  have key : ∀ (C : Nat → List zv → Mu → mR) (E : Nat → List zv → List zv → Mu → mR), mbk C E q_M_learnt.1 q_M_learnt.2.1 z q_M_learnt.2.2.2 [14, 30, 40, 49, 58, 100, 109, 124] 400 (zfind q_M_learnt.2.2.2 100) [(2, 86), (0, v1), (9, 0), (9, 0), (0, v4), (0, v5), (0, v6)] [] μ = g_M_learnt_58 E v1 v4 (zw (v5 + 1)) v6 μ := by
    intro C E
    rfl
  exact key _ _
set_option maxRecDepth 100000 in
theorem e_M_learnt_109 (z : zZ) (d : Nat) (v1 : Int) (v4 : Int) (v5 : Int) (v6 : Int) (μ : Mu) : f_M_learnt_109 z d v1 v4 v5 v6 μ = f_M_learnt_49 z d v1 (z_or v4 (z_shl 1 v5)) v5 (zw (v6 + 1)) μ := by
  show mE z d q_M_learnt 109 [(2, 86), (0, v1), (9, 0), (9, 0), (0, v4), (0, v5), (0, v6)] [] μ = _
  rw [mE_bk (M := q_M_learnt) k_M_learnt.1 k_M_learnt.2 [14, 30, 40, 49, 58, 100, 109, 124] 400]
  have key : ∀ (C : Nat → List zv → Mu → mR) (E : Nat → List zv → List zv → Mu → mR), mbk C E q_M_learnt.1 q_M_learnt.2.1 z q_M_learnt.2.2.2 [14, 30, 40, 49, 58, 100, 109, 124] 400 (zfind q_M_learnt.2.2.2 109) [(2, 86), (0, v1), (9, 0), (9, 0), (0, v4), (0, v5), (0, v6)] [] μ = g_M_learnt_49 E v1 (z_or v4 (z_shl 1 v5)) v5 (zw (v6 + 1)) μ := by
    intro C E
    rfl
  exact key _ _
def g_M_laysMust_2 (E : Nat → List zv → List zv → Mu → mR) (v1 : Int) (μ : Mu) : mR := E 2 [(2, 86), (0, v1)] [] μ
noncomputable def f_M_laysMust_2 (z : zZ) (d : Nat) (v1 : Int) (μ : Mu) : mR := g_M_laysMust_2 (fun pc ls st μ => mE z d q_M_laysMust pc ls st μ) v1 μ
def g_M_laysMust_21 (E : Nat → List zv → List zv → Mu → mR) (μ : Mu) : mR := E 21 [(2, 86), (9, 0)] [] μ
noncomputable def f_M_laysMust_21 (z : zZ) (d : Nat) (μ : Mu) : mR := g_M_laysMust_21 (fun pc ls st μ => mE z d q_M_laysMust pc ls st μ) μ
def g_M_laysMust_23 (E : Nat → List zv → List zv → Mu → mR) (v1 : Int) (μ : Mu) : mR := E 23 [(2, 86), (0, v1)] [] μ
noncomputable def f_M_laysMust_23 (z : zZ) (d : Nat) (v1 : Int) (μ : Mu) : mR := g_M_laysMust_23 (fun pc ls st μ => mE z d q_M_laysMust pc ls st μ) v1 μ
def g_M_laysMust_68 (E : Nat → List zv → List zv → Mu → mR) (μ : Mu) : mR := E 68 [(9, 0), (9, 0)] [] μ
noncomputable def f_M_laysMust_68 (z : zZ) (d : Nat) (μ : Mu) : mR := g_M_laysMust_68 (fun pc ls st μ => mE z d q_M_laysMust pc ls st μ) μ
theorem k_M_laysMust : zprK q_M_laysMust.2.2.2 = true ∧ zinc q_M_laysMust.2.2.2 = true := by decide +kernel
set_option maxRecDepth 100000 in
theorem c_M_laysMust (z : zZ) (d : Nat) (μ : Mu) : mC z (d + 1) 283 [(2, 86)] μ = f_M_laysMust_2 z d 0 μ := by
  rw [mC_succ q_M_laysMust rfl rfl rfl]
  rw [mE_bk (M := q_M_laysMust) k_M_laysMust.1 k_M_laysMust.2 [2, 21, 23, 68] 400]
  have key : ∀ (C : Nat → List zv → Mu → mR) (E : Nat → List zv → List zv → Mu → mR), mbk C E q_M_laysMust.1 q_M_laysMust.2.1 z q_M_laysMust.2.2.2 [2, 21, 23, 68] 400 (zfind q_M_laysMust.2.2.2 0) (zentry q_M_laysMust.2.2.1 [(2, 86)]) [] μ = g_M_laysMust_2 E 0 μ := by
    intro C E
    rfl
  exact key _ _
set_option maxRecDepth 100000 in
theorem e_M_laysMust_2 (z : zZ) (d : Nat) (v1 : Int) (μ : Mu) : f_M_laysMust_2 z d v1 μ = bif decide (12 ≤ v1) then (f_M_laysMust_21 z d μ) else (gI v1 12 (f_M_laysMust_2 z d (zw (v1 + 1)) (zup μ 130 v1.toNat 0))) := by
  show mE z d q_M_laysMust 2 [(2, 86), (0, v1)] [] μ = _
  rw [mE_bk (M := q_M_laysMust) k_M_laysMust.1 k_M_laysMust.2 [2, 21, 23, 68] 400]
  have key : ∀ (C : Nat → List zv → Mu → mR) (E : Nat → List zv → List zv → Mu → mR), mbk C E q_M_laysMust.1 q_M_laysMust.2.1 z q_M_laysMust.2.2.2 [2, 21, 23, 68] 400 (zfind q_M_laysMust.2.2.2 2) [(2, 86), (0, v1)] [] μ = bif decide (12 ≤ v1) then (g_M_laysMust_21 E μ) else (gI v1 12 (g_M_laysMust_2 E (zw (v1 + 1)) (zup μ 130 v1.toNat 0))) := by
    intro C E
    rfl
  exact key _ _
set_option maxRecDepth 100000 in
theorem e_M_laysMust_21 (z : zZ) (d : Nat) (μ : Mu) : f_M_laysMust_21 z d μ = f_M_laysMust_23 z d 0 μ := by
  show mE z d q_M_laysMust 21 [(2, 86), (9, 0)] [] μ = _
  rw [mE_bk (M := q_M_laysMust) k_M_laysMust.1 k_M_laysMust.2 [2, 21, 23, 68] 400]
  have key : ∀ (C : Nat → List zv → Mu → mR) (E : Nat → List zv → List zv → Mu → mR), mbk C E q_M_laysMust.1 q_M_laysMust.2.1 z q_M_laysMust.2.2.2 [2, 21, 23, 68] 400 (zfind q_M_laysMust.2.2.2 21) [(2, 86), (9, 0)] [] μ = g_M_laysMust_23 E 0 μ := by
    intro C E
    rfl
  exact key _ _
set_option maxRecDepth 100000 in
theorem e_M_laysMust_23 (z : zZ) (d : Nat) (v1 : Int) (μ : Mu) : f_M_laysMust_23 z d v1 μ = bif decide (μ 86 67 ≤ v1) then (f_M_laysMust_68 z d μ) else (gI v1 24 (gI v1 24 (gI (μ 129 v1.toNat) 12 (gI v1 24 (gI (μ 129 v1.toNat) 12 (f_M_laysMust_23 z d (zw (v1 + 1)) (zup μ 130 ((μ 129 v1.toNat).toNat) (z_or (μ 130 ((μ 129 v1.toNat).toNat)) (z_shl 1 (μ 128 v1.toNat)))))))))) := by
  show mE z d q_M_laysMust 23 [(2, 86), (0, v1)] [] μ = _
  rw [mE_bk (M := q_M_laysMust) k_M_laysMust.1 k_M_laysMust.2 [2, 21, 23, 68] 400]
  have key : ∀ (C : Nat → List zv → Mu → mR) (E : Nat → List zv → List zv → Mu → mR), mbk C E q_M_laysMust.1 q_M_laysMust.2.1 z q_M_laysMust.2.2.2 [2, 21, 23, 68] 400 (zfind q_M_laysMust.2.2.2 23) [(2, 86), (0, v1)] [] μ = bif decide (μ 86 67 ≤ v1) then (g_M_laysMust_68 E μ) else (gI v1 24 (gI v1 24 (gI (μ 129 v1.toNat) 12 (gI v1 24 (gI (μ 129 v1.toNat) 12 (g_M_laysMust_23 E (zw (v1 + 1)) (zup μ 130 ((μ 129 v1.toNat).toNat) (z_or (μ 130 ((μ 129 v1.toNat).toNat)) (z_shl 1 (μ 128 v1.toNat)))))))))) := by
    intro C E
    rfl
  exact key _ _
set_option maxRecDepth 100000 in
theorem e_M_laysMust_68 (z : zZ) (d : Nat) (μ : Mu) : f_M_laysMust_68 z d μ = some (0, μ) := by
  show mE z d q_M_laysMust 68 [(9, 0), (9, 0)] [] μ = _
  rw [mE_bk (M := q_M_laysMust) k_M_laysMust.1 k_M_laysMust.2 [2, 21, 23, 68] 400]
  have key : ∀ (C : Nat → List zv → Mu → mR) (E : Nat → List zv → List zv → Mu → mR), mbk C E q_M_laysMust.1 q_M_laysMust.2.1 z q_M_laysMust.2.2.2 [2, 21, 23, 68] 400 (zfind q_M_laysMust.2.2.2 68) [(9, 0), (9, 0)] [] μ = some (0, μ) := by
    intro C E
    rfl
  exact key _ _
