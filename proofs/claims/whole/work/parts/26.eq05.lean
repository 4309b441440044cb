def g_M_readsActs_20 (E : Nat → List zv → List zv → Mu → mR) (v2 : Int) (μ : Mu) : mR := E 20 [(2, 86), (9, 0), (0, v2)] [] μ
noncomputable def f_M_readsActs_20 (z : zZ) (d : Nat) (v2 : Int) (μ : Mu) : mR := g_M_readsActs_20 (fun pc ls st μ => mE z d q_M_readsActs pc ls st μ) v2 μ
def g_M_readsActs_55 (E : Nat → List zv → List zv → Mu → mR) (μ : Mu) : mR := E 55 [(2, 86), (9, 0), (9, 0)] [] μ
noncomputable def f_M_readsActs_55 (z : zZ) (d : Nat) (μ : Mu) : mR := g_M_readsActs_55 (fun pc ls st μ => mE z d q_M_readsActs pc ls st μ) μ
def g_M_readsActs_56 (E : Nat → List zv → List zv → Mu → mR) (v100 : Int) (μ : Mu) : mR := E 56 [(2, 86), (9, 0), (9, 0)] [(0, v100)] μ
noncomputable def f_M_readsActs_56 (z : zZ) (d : Nat) (v100 : Int) (μ : Mu) : mR := g_M_readsActs_56 (fun pc ls st μ => mE z d q_M_readsActs pc ls st μ) v100 μ
def g_M_readsActs_60 (E : Nat → List zv → List zv → Mu → mR) (v2 : Int) (μ : Mu) : mR := E 60 [(2, 86), (9, 0), (0, v2)] [] μ
noncomputable def f_M_readsActs_60 (z : zZ) (d : Nat) (v2 : Int) (μ : Mu) : mR := g_M_readsActs_60 (fun pc ls st μ => mE z d q_M_readsActs pc ls st μ) v2 μ
theorem k_M_readsActs : zprK q_M_readsActs.2.2.2 = true ∧ zinc q_M_readsActs.2.2.2 = true := by decide +kernel
set_option maxRecDepth 100000 in
theorem c_M_readsActs (z : zZ) (d : Nat) (v1 : Int) (μ : Mu) : mC z (d + 1) 228 [(2, 86), (0, v1)] μ = (mC z d 229 [(2, 86)] (zup (zup (zup μ 86 10 0) 86 11 v1) 86 48 0)).bind fun q1 => (f_M_readsActs_20 z d q1.1 q1.2) := by
  rw [mC_succ q_M_readsActs rfl rfl rfl]
  rw [mE_bk (M := q_M_readsActs) k_M_readsActs.1 k_M_readsActs.2 [20, 55, 56, 60] 400]
  have key : ∀ (C : Nat → List zv → Mu → mR) (E : Nat → List zv → List zv → Mu → mR), mbk C E q_M_readsActs.1 q_M_readsActs.2.1 z q_M_readsActs.2.2.2 [20, 55, 56, 60] 400 (zfind q_M_readsActs.2.2.2 0) (zentry q_M_readsActs.2.2.1 [(2, 86), (0, v1)]) [] μ = (C 229 [(2, 86)] (zup (zup (zup μ 86 10 0) 86 11 v1) 86 48 0)).bind fun q1 => (g_M_readsActs_20 E q1.1 q1.2) := by
    intro C E
    rfl
  exact key _ _
set_option maxRecDepth 100000 in
theorem e_M_readsActs_20 (z : zZ) (d : Nat) (v2 : Int) (μ : Mu) : f_M_readsActs_20 z d v2 μ = bif decide (v2 = 0) then (f_M_readsActs_60 z d v2 μ) else (bif decide (μ 86 11 ≤ μ 86 10) then (f_M_readsActs_60 z d v2 μ) else ((mC z d 197 [(2, 86), (0, 59)] μ).bind fun q1 => (bif decide (q1.1 = 0) then (f_M_readsActs_55 z d q1.2) else ((mC z d 229 [(2, 86)] q1.2).bind fun q2 => (bif decide (q2.1 = 0) then (f_M_readsActs_55 z d q2.2) else (f_M_readsActs_56 z d 1 q2.2)))))) := by
  show mE z d q_M_readsActs 20 [(2, 86), (9, 0), (0, v2)] [] μ = _
  rw [mE_bk (M := q_M_readsActs) k_M_readsActs.1 k_M_readsActs.2 [20, 55, 56, 60] 400]
  have key : ∀ (C : Nat → List zv → Mu → mR) (E : Nat → List zv → List zv → Mu → mR), mbk C E q_M_readsActs.1 q_M_readsActs.2.1 z q_M_readsActs.2.2.2 [20, 55, 56, 60] 400 (zfind q_M_readsActs.2.2.2 20) [(2, 86), (9, 0), (0, v2)] [] μ = bif decide (v2 = 0) then (g_M_readsActs_60 E v2 μ) else (bif decide (μ 86 11 ≤ μ 86 10) then (g_M_readsActs_60 E v2 μ) else ((C 197 [(2, 86), (0, 59)] μ).bind fun q1 => (bif decide (q1.1 = 0) then (g_M_readsActs_55 E q1.2) else ((C 229 [(2, 86)] q1.2).bind fun q2 => (bif decide (q2.1 = 0) then (g_M_readsActs_55 E q2.2) else (g_M_readsActs_56 E 1 q2.2)))))) := by
    intro C E
    rfl
  exact key _ _
set_option maxRecDepth 100000 in
theorem e_M_readsActs_60 (z : zZ) (d : Nat) (v2 : Int) (μ : Mu) : f_M_readsActs_60 z d v2 μ = g01 v2 (some (v2, zup μ 86 9 0)) := by
  show mE z d q_M_readsActs 60 [(2, 86), (9, 0), (0, v2)] [] μ = _
  rw [mE_bk (M := q_M_readsActs) k_M_readsActs.1 k_M_readsActs.2 [20, 55, 56, 60] 400]
  have key : ∀ (C : Nat → List zv → Mu → mR) (E : Nat → List zv → List zv → Mu → mR), mbk C E q_M_readsActs.1 q_M_readsActs.2.1 z q_M_readsActs.2.2.2 [20, 55, 56, 60] 400 (zfind q_M_readsActs.2.2.2 60) [(2, 86), (9, 0), (0, v2)] [] μ = g01 v2 (some (v2, zup μ 86 9 0)) := by
    intro C E
    rfl
  exact key _ _
set_option maxRecDepth 100000 in
theorem e_M_readsActs_55 (z : zZ) (d : Nat) (μ : Mu) : f_M_readsActs_55 z d μ = f_M_readsActs_56 z d 0 μ := by
  show mE z d q_M_readsActs 55 [(2, 86), (9, 0), (9, 0)] [] μ = _
  rw [mE_bk (M := q_M_readsActs) k_M_readsActs.1 k_M_readsActs.2 [20, 55, 56, 60] 400]
  have key : ∀ (C : Nat → List zv → Mu → mR) (E : Nat → List zv → List zv → Mu → mR), mbk C E q_M_readsActs.1 q_M_readsActs.2.1 z q_M_readsActs.2.2.2 [20, 55, 56, 60] 400 (zfind q_M_readsActs.2.2.2 55) [(2, 86), (9, 0), (9, 0)] [] μ = g_M_readsActs_56 E 0 μ := by
    intro C E
    rfl
  exact key _ _
set_option maxRecDepth 100000 in
theorem e_M_readsActs_56 (z : zZ) (d : Nat) (v100 : Int) (μ : Mu) : f_M_readsActs_56 z d v100 μ = f_M_readsActs_20 z d v100 μ := by
  show mE z d q_M_readsActs 56 [(2, 86), (9, 0), (9, 0)] [(0, v100)] μ = _
  rw [mE_bk (M := q_M_readsActs) k_M_readsActs.1 k_M_readsActs.2 [20, 55, 56, 60] 400]
  have key : ∀ (C : Nat → List zv → Mu → mR) (E : Nat → List zv → List zv → Mu → mR), mbk C E q_M_readsActs.1 q_M_readsActs.2.1 z q_M_readsActs.2.2.2 [20, 55, 56, 60] 400 (zfind q_M_readsActs.2.2.2 56) [(2, 86), (9, 0), (9, 0)] [(0, v100)] μ = g_M_readsActs_20 E v100 μ := by
    intro C E
    rfl
  exact key _ _
def g_M_readsAct_45 (E : Nat → List zv → List zv → Mu → mR) (μ : Mu) : mR := E 45 [(2, 86), (9, 0), (9, 0), (9, 0)] [] μ
noncomputable def f_M_readsAct_45 (z : zZ) (d : Nat) (μ : Mu) : mR := g_M_readsAct_45 (fun pc ls st μ => mE z d q_M_readsAct pc ls st μ) μ
def g_M_readsAct_57 (E : Nat → List zv → List zv → Mu → mR) (v100 : Int) (μ : Mu) : mR := E 57 [(2, 86), (9, 0), (9, 0), (9, 0)] [(0, v100)] μ
noncomputable def f_M_readsAct_57 (z : zZ) (d : Nat) (v100 : Int) (μ : Mu) : mR := g_M_readsAct_57 (fun pc ls st μ => mE z d q_M_readsAct pc ls st μ) v100 μ
def g_M_readsAct_116 (E : Nat → List zv → List zv → Mu → mR) (v2 : Int) (v101 : Int) (μ : Mu) : mR := E 116 [(2, 86), (9, 0), (0, v2), (9, 0)] [(0, v101), (2, 86)] μ
noncomputable def f_M_readsAct_116 (z : zZ) (d : Nat) (v2 : Int) (v101 : Int) (μ : Mu) : mR := g_M_readsAct_116 (fun pc ls st μ => mE z d q_M_readsAct pc ls st μ) v2 v101 μ
def g_M_readsAct_117 (E : Nat → List zv → List zv → Mu → mR) (v2 : Int) (v101 : Int) (v102 : Int) (μ : Mu) : mR := E 117 [(2, 86), (9, 0), (0, v2), (9, 0)] [(0, v102), (0, v101), (2, 86)] μ
noncomputable def f_M_readsAct_117 (z : zZ) (d : Nat) (v2 : Int) (v101 : Int) (v102 : Int) (μ : Mu) : mR := g_M_readsAct_117 (fun pc ls st μ => mE z d q_M_readsAct pc ls st μ) v2 v101 v102 μ
def g_M_readsAct_149 (E : Nat → List zv → List zv → Mu → mR) (v100 : Int) (μ : Mu) : mR := E 149 [(2, 86), (9, 0), (9, 0), (9, 0)] [(0, v100)] μ
noncomputable def f_M_readsAct_149 (z : zZ) (d : Nat) (v100 : Int) (μ : Mu) : mR := g_M_readsAct_149 (fun pc ls st μ => mE z d q_M_readsAct pc ls st μ) v100 μ
theorem k_M_readsAct : zprK q_M_readsAct.2.2.2 = true ∧ zinc q_M_readsAct.2.2.2 = true := by decide +kernel
set_option maxRecDepth 100000 in
theorem c_M_readsAct (z : zZ) (d : Nat) (μ : Mu) : mC z (d + 1) 229 [(2, 86)] μ = (mC z d 193 [(2, 86)] μ).bind fun q1 => (bif !decide (q1.1 = 43) then (bif !decide (q1.1 = 45) then (bif !decide (q1.1 = 126) then (bif !decide (q1.1 = 63) then (f_M_readsAct_45 z d q1.2) else (f_M_readsAct_57 z d 4 q1.2)) else (f_M_readsAct_57 z d 2 q1.2)) else (f_M_readsAct_57 z d 1 q1.2)) else (f_M_readsAct_57 z d 0 q1.2)) := by
  rw [mC_succ q_M_readsAct rfl rfl rfl]
  rw [mE_bk (M := q_M_readsAct) k_M_readsAct.1 k_M_readsAct.2 [45, 57, 116, 117, 149] 400]
  have key : ∀ (C : Nat → List zv → Mu → mR) (E : Nat → List zv → List zv → Mu → mR), mbk C E q_M_readsAct.1 q_M_readsAct.2.1 z q_M_readsAct.2.2.2 [45, 57, 116, 117, 149] 400 (zfind q_M_readsAct.2.2.2 0) (zentry q_M_readsAct.2.2.1 [(2, 86)]) [] μ = (C 193 [(2, 86)] μ).bind fun q1 => (bif !decide (q1.1 = 43) then (bif !decide (q1.1 = 45) then (bif !decide (q1.1 = 126) then (bif !decide (q1.1 = 63) then (g_M_readsAct_45 E q1.2) else (g_M_readsAct_57 E 4 q1.2)) else (g_M_readsAct_57 E 2 q1.2)) else (g_M_readsAct_57 E 1 q1.2)) else (g_M_readsAct_57 E 0 q1.2)) := by
    intro C E
    rfl
  exact key _ _
set_option maxRecDepth 100000 in
theorem e_M_readsAct_45 (z : zZ) (d : Nat) (μ : Mu) : f_M_readsAct_45 z d μ = (mC z d 192 [(2, 86)] μ).bind fun q1 => (bif decide (q1.1 = 0) then (f_M_readsAct_57 z d ((-1)) q1.2) else (f_M_readsAct_57 z d 3 q1.2)) := by
  show mE z d q_M_readsAct 45 [(2, 86), (9, 0), (9, 0), (9, 0)] [] μ = _
  rw [mE_bk (M := q_M_readsAct) k_M_readsAct.1 k_M_readsAct.2 [45, 57, 116, 117, 149] 400]
  have key : ∀ (C : Nat → List zv → Mu → mR) (E : Nat → List zv → List zv → Mu → mR), mbk C E q_M_readsAct.1 q_M_readsAct.2.1 z q_M_readsAct.2.2.2 [45, 57, 116, 117, 149] 400 (zfind q_M_readsAct.2.2.2 45) [(2, 86), (9, 0), (9, 0), (9, 0)] [] μ = (C 192 [(2, 86)] μ).bind fun q1 => (bif decide (q1.1 = 0) then (g_M_readsAct_57 E ((-1)) q1.2) else (g_M_readsAct_57 E 3 q1.2)) := by
    intro C E
    rfl
  exact key _ _
set_option maxRecDepth 100000 in
theorem e_M_readsAct_57 (z : zZ) (d : Nat) (v100 : Int) (μ : Mu) : f_M_readsAct_57 z d v100 μ = bif !decide (v100 = (-1)) then (bif !decide (μ 86 48 = 12) then (gI (μ 86 48) 12 (bif !decide (v100 = 3) then (f_M_readsAct_116 z d v100 (μ 86 10) (zup μ 111 ((μ 86 48).toNat) v100)) else (f_M_readsAct_117 z d v100 (μ 86 10) 0 (zup μ 111 ((μ 86 48).toNat) v100)))) else ((mC z d 194 [(2, 86), (0, 4), (0, μ 86 10)] μ).bind fun q1 => (g01 q1.1 (some (q1.1, q1.2))))) else ((mC z d 194 [(2, 86), (0, 1), (0, μ 86 10)] μ).bind fun q2 => (g01 q2.1 (some (q2.1, q2.2)))) := by
  show mE z d q_M_readsAct 57 [(2, 86), (9, 0), (9, 0), (9, 0)] [(0, v100)] μ = _
  rw [mE_bk (M := q_M_readsAct) k_M_readsAct.1 k_M_readsAct.2 [45, 57, 116, 117, 149] 400]
  have key : ∀ (C : Nat → List zv → Mu → mR) (E : Nat → List zv → List zv → Mu → mR), mbk C E q_M_readsAct.1 q_M_readsAct.2.1 z q_M_readsAct.2.2.2 [45, 57, 116, 117, 149] 400 (zfind q_M_readsAct.2.2.2 57) [(2, 86), (9, 0), (9, 0), (9, 0)] [(0, v100)] μ = bif !decide (v100 = (-1)) then (bif !decide (μ 86 48 = 12) then (gI (μ 86 48) 12 (bif !decide (v100 = 3) then (g_M_readsAct_116 E v100 (μ 86 10) (zup μ 111 ((μ 86 48).toNat) v100)) else (g_M_readsAct_117 E v100 (μ 86 10) 0 (zup μ 111 ((μ 86 48).toNat) v100)))) else ((C 194 [(2, 86), (0, 4), (0, μ 86 10)] μ).bind fun q1 => (g01 q1.1 (some (q1.1, q1.2))))) else ((C 194 [(2, 86), (0, 1), (0, μ 86 10)] μ).bind fun q2 => (g01 q2.1 (some (q2.1, q2.2)))) := by
    intro C E
    rfl
  exact key _ _
set_option maxRecDepth 100000 in
theorem e_M_readsAct_116 (z : zZ) (d : Nat) (v2 : Int) (v101 : Int) (μ : Mu) : f_M_readsAct_116 z d v2 v101 μ = f_M_readsAct_117 z d v2 v101 1 μ := by
  show mE z d q_M_readsAct 116 [(2, 86), (9, 0), (0, v2), (9, 0)] [(0, v101), (2, 86)] μ = _
  rw [mE_bk (M := q_M_readsAct) k_M_readsAct.1 k_M_readsAct.2 [45, 57, 116, 117, 149] 400]
  have key : ∀ (C : Nat → List zv → Mu → mR) (E : Nat → List zv → List zv → Mu → mR), mbk C E q_M_readsAct.1 q_M_readsAct.2.1 z q_M_readsAct.2.2.2 [45, 57, 116, 117, 149] 400 (zfind q_M_readsAct.2.2.2 116) [(2, 86), (9, 0), (0, v2), (9, 0)] [(0, v101), (2, 86)] μ = g_M_readsAct_117 E v2 v101 1 μ := by
    intro C E
    rfl
  exact key _ _
set_option maxRecDepth 100000 in
theorem e_M_readsAct_117 (z : zZ) (d : Nat) (v2 : Int) (v101 : Int) (v102 : Int) (μ : Mu) : f_M_readsAct_117 z d v2 v101 v102 μ = bif !decide (v2 = 3) then (bif !decide (v2 = 4) then ((mC z d 231 [(2, 86)] (zup μ 86 10 (zw (v101 + v102)))).bind fun q1 => (f_M_readsAct_149 z d q1.1 q1.2)) else ((mC z d 232 [(2, 86)] (zup μ 86 10 (zw (v101 + v102)))).bind fun q2 => (f_M_readsAct_149 z d q2.1 q2.2))) else ((mC z d 230 [(2, 86)] (zup μ 86 10 (zw (v101 + v102)))).bind fun q3 => (f_M_readsAct_149 z d q3.1 q3.2)) := by
  show mE z d q_M_readsAct 117 [(2, 86), (9, 0), (0, v2), (9, 0)] [(0, v102), (0, v101), (2, 86)] μ = _
  rw [mE_bk (M := q_M_readsAct) k_M_readsAct.1 k_M_readsAct.2 [45, 57, 116, 117, 149] 400]
  have key : ∀ (C : Nat → List zv → Mu → mR) (E : Nat → List zv → List zv → Mu → mR), mbk C E q_M_readsAct.1 q_M_readsAct.2.1 z q_M_readsAct.2.2.2 [45, 57, 116, 117, 149] 400 (zfind q_M_readsAct.2.2.2 117) [(2, 86), (9, 0), (0, v2), (9, 0)] [(0, v102), (0, v101), (2, 86)] μ = bif !decide (v2 = 3) then (bif !decide (v2 = 4) then ((C 231 [(2, 86)] (zup μ 86 10 (zw (v101 + v102)))).bind fun q1 => (g_M_readsAct_149 E q1.1 q1.2)) else ((C 232 [(2, 86)] (zup μ 86 10 (zw (v101 + v102)))).bind fun q2 => (g_M_readsAct_149 E q2.1 q2.2))) else ((C 230 [(2, 86)] (zup μ 86 10 (zw (v101 + v102)))).bind fun q3 => (g_M_readsAct_149 E q3.1 q3.2)) := by
    intro C E
    rfl
  exact key _ _
set_option maxRecDepth 100000 in
theorem e_M_readsAct_149 (z : zZ) (d : Nat) (v100 : Int) (μ : Mu) : f_M_readsAct_149 z d v100 μ = g01 v100 (some (v100, zup μ 86 48 (zw ((μ 86 48) + 1)))) := by
  show mE z d q_M_readsAct 149 [(2, 86), (9, 0), (9, 0), (9, 0)] [(0, v100)] μ = _
  rw [mE_bk (M := q_M_readsAct) k_M_readsAct.1 k_M_readsAct.2 [45, 57, 116, 117, 149] 400]
  have key : ∀ (C : Nat → List zv → Mu → mR) (E : Nat → List zv → List zv → Mu → mR), mbk C E q_M_readsAct.1 q_M_readsAct.2.1 z q_M_readsAct.2.2.2 [45, 57, 116, 117, 149] 400 (zfind q_M_readsAct.2.2.2 149) [(2, 86), (9, 0), (9, 0), (9, 0)] [(0, v100)] μ = g01 v100 (some (v100, zup μ 86 48 (zw ((μ 86 48) + 1)))) := by
    intro C E
    rfl
  exact key _ _
def g_M_readsAttack_16 (E : Nat → List zv → List zv → Mu → mR) (μ : Mu) : mR := E 16 [(9, 0), (9, 0)] [] μ
noncomputable def f_M_readsAttack_16 (z : zZ) (d : Nat) (μ : Mu) : mR := g_M_readsAttack_16 (fun pc ls st μ => mE z d q_M_readsAttack pc ls st μ) μ
theorem k_M_readsAttack : zprK q_M_readsAttack.2.2.2 = true ∧ zinc q_M_readsAttack.2.2.2 = true := by decide +kernel
set_option maxRecDepth 100000 in
theorem c_M_readsAttack (z : zZ) (d : Nat) (μ : Mu) : mC z (d + 1) 230 [(2, 86)] μ = (mC z d 231 [(2, 86)] μ).bind fun q1 => (bif decide (q1.1 = 0) then (f_M_readsAttack_16 z d q1.2) else ((mC z d 197 [(2, 86), (0, 62)] q1.2).bind fun q2 => (bif !decide (q2.1 = 0) then ((mC z d 195 [(2, 86), (2, 114), (0, zw (8 * (q2.2 86 48)))] q2.2).bind fun q3 => (gI (q3.2 86 48) 12 (g01 q3.1 (some (q3.1, zup q3.2 115 ((q3.2 86 48).toNat) (q3.2 86 13)))))) else (f_M_readsAttack_16 z d q2.2)))) := by
  rw [mC_succ q_M_readsAttack rfl rfl rfl]
  rw [mE_bk (M := q_M_readsAttack) k_M_readsAttack.1 k_M_readsAttack.2 [16] 400]
  have key : ∀ (C : Nat → List zv → Mu → mR) (E : Nat → List zv → List zv → Mu → mR), mbk C E q_M_readsAttack.1 q_M_readsAttack.2.1 z q_M_readsAttack.2.2.2 [16] 400 (zfind q_M_readsAttack.2.2.2 0) (zentry q_M_readsAttack.2.2.1 [(2, 86)]) [] μ = (C 231 [(2, 86)] μ).bind fun q1 => (bif decide (q1.1 = 0) then (g_M_readsAttack_16 E q1.2) else ((C 197 [(2, 86), (0, 62)] q1.2).bind fun q2 => (bif !decide (q2.1 = 0) then ((C 195 [(2, 86), (2, 114), (0, zw (8 * (q2.2 86 48)))] q2.2).bind fun q3 => (gI (q3.2 86 48) 12 (g01 q3.1 (some (q3.1, zup q3.2 115 ((q3.2 86 48).toNat) (q3.2 86 13)))))) else (g_M_readsAttack_16 E q2.2)))) := by
    intro C E
    rfl
  exact key _ _
set_option maxRecDepth 100000 in
theorem e_M_readsAttack_16 (z : zZ) (d : Nat) (μ : Mu) : f_M_readsAttack_16 z d μ = some (0, μ) := by
  show mE z d q_M_readsAttack 16 [(9, 0), (9, 0)] [] μ = _
  rw [mE_bk (M := q_M_readsAttack) k_M_readsAttack.1 k_M_readsAttack.2 [16] 400]
  have key : ∀ (C : Nat → List zv → Mu → mR) (E : Nat → List zv → List zv → Mu → mR), mbk C E q_M_readsAttack.1 q_M_readsAttack.2.1 z q_M_readsAttack.2.2.2 [16] 400 (zfind q_M_readsAttack.2.2.2 16) [(9, 0), (9, 0)] [] μ = some (0, μ) := by
    intro C E
    rfl
  exact key _ _
theorem k_M_readsFirst : zprK q_M_readsFirst.2.2.2 = true ∧ zinc q_M_readsFirst.2.2.2 = true := by decide +kernel
set_option maxRecDepth 100000 in
theorem c_M_readsFirst (z : zZ) (d : Nat) (μ : Mu) : mC z (d + 1) 231 [(2, 86)] μ = (mC z d 195 [(2, 86), (2, 112), (0, zw (8 * (μ 86 48)))] μ).bind fun q1 => (gI (q1.2 86 48) 12 (g01 q1.1 (some (q1.1, zup q1.2 113 ((q1.2 86 48).toNat) (q1.2 86 13))))) := by
  rw [mC_succ q_M_readsFirst rfl rfl rfl]
  rw [mE_bk (M := q_M_readsFirst) k_M_readsFirst.1 k_M_readsFirst.2 [] 400]
  have key : ∀ (C : Nat → List zv → Mu → mR) (E : Nat → List zv → List zv → Mu → mR), mbk C E q_M_readsFirst.1 q_M_readsFirst.2.1 z q_M_readsFirst.2.2.2 [] 400 (zfind q_M_readsFirst.2.2.2 0) (zentry q_M_readsFirst.2.2.1 [(2, 86)]) [] μ = (C 195 [(2, 86), (2, 112), (0, zw (8 * (μ 86 48)))] μ).bind fun q1 => (gI (q1.2 86 48) 12 (g01 q1.1 (some (q1.1, zup q1.2 113 ((q1.2 86 48).toNat) (q1.2 86 13))))) := by
    intro C E
    rfl
  exact key _ _
def g_M_readsSpy_16 (E : Nat → List zv → List zv → Mu → mR) (μ : Mu) : mR := E 16 [(9, 0), (9, 0)] [] μ
noncomputable def f_M_readsSpy_16 (z : zZ) (d : Nat) (μ : Mu) : mR := g_M_readsSpy_16 (fun pc ls st μ => mE z d q_M_readsSpy pc ls st μ) μ
def g_M_readsSpy_61 (E : Nat → List zv → List zv → Mu → mR) (μ : Mu) : mR := E 61 [(2, 86), (9, 0)] [] μ
noncomputable def f_M_readsSpy_61 (z : zZ) (d : Nat) (μ : Mu) : mR := g_M_readsSpy_61 (fun pc ls st μ => mE z d q_M_readsSpy pc ls st μ) μ
def g_M_readsSpy_72 (E : Nat → List zv → List zv → Mu → mR) (v1 : Int) (μ : Mu) : mR := E 72 [(2, 86), (0, v1)] [] μ
noncomputable def f_M_readsSpy_72 (z : zZ) (d : Nat) (v1 : Int) (μ : Mu) : mR := g_M_readsSpy_72 (fun pc ls st μ => mE z d q_M_readsSpy pc ls st μ) v1 μ
def g_M_readsSpy_111 (E : Nat → List zv → List zv → Mu → mR) (μ : Mu) : mR := E 111 [(2, 86), (9, 0)] [] μ
noncomputable def f_M_readsSpy_111 (z : zZ) (d : Nat) (μ : Mu) : mR := g_M_readsSpy_111 (fun pc ls st μ => mE z d q_M_readsSpy pc ls st μ) μ
theorem k_M_readsSpy : zprK q_M_readsSpy.2.2.2 = true ∧ zinc q_M_readsSpy.2.2.2 = true := by decide +kernel
set_option maxRecDepth 100000 in
theorem c_M_readsSpy (z : zZ) (d : Nat) (μ : Mu) : mC z (d + 1) 232 [(2, 86)] μ = (mC z d 231 [(2, 86)] μ).bind fun q1 => (bif decide (q1.1 = 0) then (f_M_readsSpy_16 z d q1.2) else ((mC z d 197 [(2, 86), (0, 46)] q1.2).bind fun q2 => (bif !decide (q2.1 = 0) then ((mC z d 214 [(2, 86)] q2.2).bind fun q3 => (bif !decide (q3.1 = 0) then ((mC z d 193 [(2, 86)] q3.2).bind fun q4 => (bif decide (zw (q4.1 - 48) < 1) then (f_M_readsSpy_61 z d q4.2) else (gI (q4.2 86 48) 12 (bif decide (zw (q4.1 - 48) ≤ q4.2 113 ((q4.2 86 48).toNat)) then (f_M_readsSpy_72 z d (zw (q4.1 - 48)) q4.2) else (f_M_readsSpy_61 z d q4.2))))) else ((mC z d 194 [(2, 86), (0, 1), (0, q3.2 86 10)] q3.2).bind fun q5 => (g01 q5.1 (some (q5.1, q5.2)))))) else (f_M_readsSpy_16 z d q2.2)))) := by
  rw [mC_succ q_M_readsSpy rfl rfl rfl]
  rw [mE_bk (M := q_M_readsSpy) k_M_readsSpy.1 k_M_readsSpy.2 [16, 61, 72, 111] 400]
  have key : ∀ (C : Nat → List zv → Mu → mR) (E : Nat → List zv → List zv → Mu → mR), mbk C E q_M_readsSpy.1 q_M_readsSpy.2.1 z q_M_readsSpy.2.2.2 [16, 61, 72, 111] 400 (zfind q_M_readsSpy.2.2.2 0) (zentry q_M_readsSpy.2.2.1 [(2, 86)]) [] μ = (C 231 [(2, 86)] μ).bind fun q1 => (bif decide (q1.1 = 0) then (g_M_readsSpy_16 E q1.2) else ((C 197 [(2, 86), (0, 46)] q1.2).bind fun q2 => (bif !decide (q2.1 = 0) then ((C 214 [(2, 86)] q2.2).bind fun q3 => (bif !decide (q3.1 = 0) then ((C 193 [(2, 86)] q3.2).bind fun q4 => (bif decide (zw (q4.1 - 48) < 1) then (g_M_readsSpy_61 E q4.2) else (gI (q4.2 86 48) 12 (bif decide (zw (q4.1 - 48) ≤ q4.2 113 ((q4.2 86 48).toNat)) then (g_M_readsSpy_72 E (zw (q4.1 - 48)) q4.2) else (g_M_readsSpy_61 E q4.2))))) else ((C 194 [(2, 86), (0, 1), (0, q3.2 86 10)] q3.2).bind fun q5 => (g01 q5.1 (some (q5.1, q5.2)))))) else (g_M_readsSpy_16 E q2.2)))) := by
    intro C E
    rfl
  exact key _ _
set_option maxRecDepth 100000 in
theorem e_M_readsSpy_16 (z : zZ) (d : Nat) (μ : Mu) : f_M_readsSpy_16 z d μ = some (0, μ) := by
  show mE z d q_M_readsSpy 16 [(9, 0), (9, 0)] [] μ = _
  rw [mE_bk (M := q_M_readsSpy) k_M_readsSpy.1 k_M_readsSpy.2 [16, 61, 72, 111] 400]
  have key : ∀ (C : Nat → List zv → Mu → mR) (E : Nat → List zv → List zv → Mu → mR), mbk C E q_M_readsSpy.1 q_M_readsSpy.2.1 z q_M_readsSpy.2.2.2 [16, 61, 72, 111] 400 (zfind q_M_readsSpy.2.2.2 16) [(9, 0), (9, 0)] [] μ = some (0, μ) := by
    intro C E
    rfl
  exact key _ _
set_option maxRecDepth 100000 in
theorem e_M_readsSpy_61 (z : zZ) (d : Nat) (μ : Mu) : f_M_readsSpy_61 z d μ = (mC z d 194 [(2, 86), (0, 6), (0, μ 86 10)] μ).bind fun q1 => (g01 q1.1 (some (q1.1, q1.2))) := by
  show mE z d q_M_readsSpy 61 [(2, 86), (9, 0)] [] μ = _
  rw [mE_bk (M := q_M_readsSpy) k_M_readsSpy.1 k_M_readsSpy.2 [16, 61, 72, 111] 400]
  have key : ∀ (C : Nat → List zv → Mu → mR) (E : Nat → List zv → List zv → Mu → mR), mbk C E q_M_readsSpy.1 q_M_readsSpy.2.1 z q_M_readsSpy.2.2.2 [16, 61, 72, 111] 400 (zfind q_M_readsSpy.2.2.2 61) [(2, 86), (9, 0)] [] μ = (C 194 [(2, 86), (0, 6), (0, μ 86 10)] μ).bind fun q1 => (g01 q1.1 (some (q1.1, q1.2))) := by
    intro C E
    rfl
  exact key _ _
set_option maxRecDepth 100000 in
theorem e_M_readsSpy_72 (z : zZ) (d : Nat) (v1 : Int) (μ : Mu) : f_M_readsSpy_72 z d v1 μ = gI (μ 86 48) 12 ((mC z d 192 [(2, 86)] (zup (zup μ 116 ((μ 86 48).toNat) (zw (v1 - 1))) 86 10 (zw ((μ 86 10) + 1)))).bind fun q1 => (bif !decide (q1.1 = 0) then (f_M_readsSpy_111 z d q1.2) else ((mC z d 194 [(2, 86), (0, 1), (0, q1.2 86 10)] q1.2).bind fun q2 => (g01 q2.1 (some (q2.1, q2.2)))))) := by
  show mE z d q_M_readsSpy 72 [(2, 86), (0, v1)] [] μ = _
  rw [mE_bk (M := q_M_readsSpy) k_M_readsSpy.1 k_M_readsSpy.2 [16, 61, 72, 111] 400]
  have key : ∀ (C : Nat → List zv → Mu → mR) (E : Nat → List zv → List zv → Mu → mR), mbk C E q_M_readsSpy.1 q_M_readsSpy.2.1 z q_M_readsSpy.2.2.2 [16, 61, 72, 111] 400 (zfind q_M_readsSpy.2.2.2 72) [(2, 86), (0, v1)] [] μ = gI (μ 86 48) 12 ((C 192 [(2, 86)] (zup (zup μ 116 ((μ 86 48).toNat) (zw (v1 - 1))) 86 10 (zw ((μ 86 10) + 1)))).bind fun q1 => (bif !decide (q1.1 = 0) then (g_M_readsSpy_111 E q1.2) else ((C 194 [(2, 86), (0, 1), (0, q1.2 86 10)] q1.2).bind fun q2 => (g01 q2.1 (some (q2.1, q2.2)))))) := by
    intro C E
    rfl
  exact key _ _
set_option maxRecDepth 100000 in
theorem e_M_readsSpy_111 (z : zZ) (d : Nat) (μ : Mu) : f_M_readsSpy_111 z d μ = (mC z d 193 [(2, 86)] μ).bind fun q1 => (gI (μ 86 48) 12 (some (1, zup (zup q1.2 117 ((μ 86 48).toNat) (zw (q1.1 - 97))) 86 10 (zw ((q1.2 86 10) + 1))))) := by
  show mE z d q_M_readsSpy 111 [(2, 86), (9, 0)] [] μ = _
  rw [mE_bk (M := q_M_readsSpy) k_M_readsSpy.1 k_M_readsSpy.2 [16, 61, 72, 111] 400]
  have key : ∀ (C : Nat → List zv → Mu → mR) (E : Nat → List zv → List zv → Mu → mR), mbk C E q_M_readsSpy.1 q_M_readsSpy.2.1 z q_M_readsSpy.2.2.2 [16, 61, 72, 111] 400 (zfind q_M_readsSpy.2.2.2 111) [(2, 86), (9, 0)] [] μ = (C 193 [(2, 86)] μ).bind fun q1 => (gI (μ 86 48) 12 (some (1, zup (zup q1.2 117 ((μ 86 48).toNat) (zw (q1.1 - 97))) 86 10 (zw ((q1.2 86 10) + 1))))) := by
    intro C E
    rfl
  exact key _ _
def g_M_does_19 (E : Nat → List zv → List zv → Mu → mR) (v1 : Int) (v2 : Int) (v3 : Int) (v100 : Int) (μ : Mu) : mR := E 19 [(2, 86), (0, v1), (0, v2), (0, v3), (9, 0), (9, 0), (9, 0)] [(0, v100)] μ
noncomputable def f_M_does_19 (z : zZ) (d : Nat) (v1 : Int) (v2 : Int) (v3 : Int) (v100 : Int) (μ : Mu) : mR := g_M_does_19 (fun pc ls st μ => mE z d q_M_does pc ls st μ) v1 v2 v3 v100 μ
def g_M_does_51 (E : Nat → List zv → List zv → Mu → mR) (v1 : Int) (v2 : Int) (v3 : Int) (v4 : Int) (v5 : Int) (μ : Mu) : mR := E 51 [(2, 86), (0, v1), (0, v2), (0, v3), (0, v4), (0, v5), (9, 0)] [] μ
noncomputable def f_M_does_51 (z : zZ) (d : Nat) (v1 : Int) (v2 : Int) (v3 : Int) (v4 : Int) (v5 : Int) (μ : Mu) : mR := g_M_does_51 (fun pc ls st μ => mE z d q_M_does pc ls st μ) v1 v2 v3 v4 v5 μ
def g_M_does_62 (E : Nat → List zv → List zv → Mu → mR) (v1 : Int) (v2 : Int) (v3 : Int) (v4 : Int) (v5 : Int) (v100 : Int) (μ : Mu) : mR := E 62 [(2, 86), (0, v1), (0, v2), (0, v3), (0, v4), (0, v5), (9, 0)] [(0, v100)] μ
noncomputable def f_M_does_62 (z : zZ) (d : Nat) (v1 : Int) (v2 : Int) (v3 : Int) (v4 : Int) (v5 : Int) (v100 : Int) (μ : Mu) : mR := g_M_does_62 (fun pc ls st μ => mE z d q_M_does pc ls st μ) v1 v2 v3 v4 v5 v100 μ
def g_M_does_91 (E : Nat → List zv → List zv → Mu → mR) (v1 : Int) (v2 : Int) (v3 : Int) (v5 : Int) (v100 : Int) (μ : Mu) : mR := E 91 [(2, 86), (0, v1), (0, v2), (0, v3), (9, 0), (0, v5), (9, 0)] [(0, v100)] μ
noncomputable def f_M_does_91 (z : zZ) (d : Nat) (v1 : Int) (v2 : Int) (v3 : Int) (v5 : Int) (v100 : Int) (μ : Mu) : mR := g_M_does_91 (fun pc ls st μ => mE z d q_M_does pc ls st μ) v1 v2 v3 v5 v100 μ
def g_M_does_116 (E : Nat → List zv → List zv → Mu → mR) (v1 : Int) (v2 : Int) (v3 : Int) (v5 : Int) (v100 : Int) (μ : Mu) : mR := E 116 [(2, 86), (0, v1), (0, v2), (0, v3), (9, 0), (0, v5), (9, 0)] [(0, v100)] μ
noncomputable def f_M_does_116 (z : zZ) (d : Nat) (v1 : Int) (v2 : Int) (v3 : Int) (v5 : Int) (v100 : Int) (μ : Mu) : mR := g_M_does_116 (fun pc ls st μ => mE z d q_M_does pc ls st μ) v1 v2 v3 v5 v100 μ
def g_M_does_154 (E : Nat → List zv → List zv → Mu → mR) (v1 : Int) (v2 : Int) (v5 : Int) (μ : Mu) : mR := E 154 [(2, 86), (0, v1), (0, v2), (9, 0), (9, 0), (0, v5), (9, 0)] [] μ
noncomputable def f_M_does_154 (z : zZ) (d : Nat) (v1 : Int) (v2 : Int) (v5 : Int) (μ : Mu) : mR := g_M_does_154 (fun pc ls st μ => mE z d q_M_does pc ls st μ) v1 v2 v5 μ
def g_M_does_198 (E : Nat → List zv → List zv → Mu → mR) (μ : Mu) : mR := E 198 [(9, 0), (9, 0), (9, 0), (9, 0), (9, 0), (9, 0), (9, 0)] [] μ
noncomputable def f_M_does_198 (z : zZ) (d : Nat) (μ : Mu) : mR := g_M_does_198 (fun pc ls st μ => mE z d q_M_does pc ls st μ) μ
def g_M_does_200 (E : Nat → List zv → List zv → Mu → mR) (v1 : Int) (v5 : Int) (v6 : Int) (μ : Mu) : mR := E 200 [(2, 86), (0, v1), (9, 0), (9, 0), (9, 0), (0, v5), (0, v6)] [] μ
noncomputable def f_M_does_200 (z : zZ) (d : Nat) (v1 : Int) (v5 : Int) (v6 : Int) (μ : Mu) : mR := g_M_does_200 (fun pc ls st μ => mE z d q_M_does pc ls st μ) v1 v5 v6 μ
def g_M_does_235 (E : Nat → List zv → List zv → Mu → mR) (μ : Mu) : mR := E 235 [(9, 0), (9, 0), (9, 0), (9, 0), (9, 0), (9, 0), (9, 0)] [] μ
noncomputable def f_M_does_235 (z : zZ) (d : Nat) (μ : Mu) : mR := g_M_does_235 (fun pc ls st μ => mE z d q_M_does pc ls st μ) μ
theorem k_M_does : zprK q_M_does.2.2.2 = true ∧ zinc q_M_does.2.2.2 = true := by decide +kernel
set_option maxRecDepth 100000 in
theorem c_M_does (z : zZ) (d : Nat) (v1 : Int) (v2 : Int) (μ : Mu) : mC z (d + 1) 233 [(2, 86), (0, v1), (0, v2)] μ = gI v2 12 (bif !decide (μ 111 v2.toNat = 4) then (f_M_does_19 z d v1 v2 (μ 111 v2.toNat) v1 μ) else (f_M_does_19 z d v1 v2 (μ 111 v2.toNat) (zw (1 - v1)) μ)) := by
  rw [mC_succ q_M_does rfl rfl rfl]
  rw [mE_bk (M := q_M_does) k_M_does.1 k_M_does.2 [19, 51, 62, 91, 116, 154, 198, 200, 235] 400]
  have key : ∀ (C : Nat → List zv → Mu → mR) (E : Nat → List zv → List zv → Mu → mR), mbk C E q_M_does.1 q_M_does.2.1 z q_M_does.2.2.2 [19, 51, 62, 91, 116, 154, 198, 200, 235] 400 (zfind q_M_does.2.2.2 0) (zentry q_M_does.2.2.1 [(2, 86), (0, v1), (0, v2)]) [] μ = gI v2 12 (bif !decide (μ 111 v2.toNat = 4) then (g_M_does_19 E v1 v2 (μ 111 v2.toNat) v1 μ) else (g_M_does_19 E v1 v2 (μ 111 v2.toNat) (zw (1 - v1)) μ)) := by
    intro C E
    rfl
  exact key _ _
set_option maxRecDepth 100000 in
theorem e_M_does_19 (z : zZ) (d : Nat) (v1 : Int) (v2 : Int) (v3 : Int) (v100 : Int) (μ : Mu) : f_M_does_19 z d v1 v2 v3 v100 μ = gI v2 12 ((mC z d 206 [(2, 86), (0, v100), (2, 112), (0, zw (8 * v2)), (0, μ 113 v2.toNat)] μ).bind fun q1 => (bif !decide (q1.1 = (-1)) then (f_M_does_51 z d v1 v2 v3 v100 q1.1 q1.2) else (some (0, q1.2)))) := by
  show mE z d q_M_does 19 [(2, 86), (0, v1), (0, v2), (0, v3), (9, 0), (9, 0), (9, 0)] [(0, v100)] μ = _
  rw [mE_bk (M := q_M_does) k_M_does.1 k_M_does.2 [19, 51, 62, 91, 116, 154, 198, 200, 235] 400]
  have key : ∀ (C : Nat → List zv → Mu → mR) (E : Nat → List zv → List zv → Mu → mR), mbk C E q_M_does.1 q_M_does.2.1 z q_M_does.2.2.2 [19, 51, 62, 91, 116, 154, 198, 200, 235] 400 (zfind q_M_does.2.2.2 19) [(2, 86), (0, v1), (0, v2), (0, v3), (9, 0), (9, 0), (9, 0)] [(0, v100)] μ = gI v2 12 ((C 206 [(2, 86), (0, v100), (2, 112), (0, zw (8 * v2)), (0, μ 113 v2.toNat)] μ).bind fun q1 => (bif !decide (q1.1 = (-1)) then (g_M_does_51 E v1 v2 v3 v100 q1.1 q1.2) else (some (0, q1.2)))) := by
    intro C E
    rfl
  exact key _ _
set_option maxRecDepth 100000 in
theorem e_M_does_51 (z : zZ) (d : Nat) (v1 : Int) (v2 : Int) (v3 : Int) (v4 : Int) (v5 : Int) (μ : Mu) : f_M_does_51 z d v1 v2 v3 v4 v5 μ = bif !decide (v3 = 0) then ((mC z d 199 [(2, 86), (0, v4)] μ).bind fun q1 => ((mC z d 189 [(0, q1.1), (0, v5)] q1.2).bind fun q2 => (bif !decide (q2.1 = 0) then (bif !decide (v3 = 2) then (bif !decide (v3 = 4) then (bif !decide (v3 = 1) then (f_M_does_154 z d v1 v2 v5 q2.2) else ((mC z d 238 [(2, 86), (0, v1), (0, v5), (0, 0)] q2.2).bind fun q3 => ((mC z d 201 [(0, v1), (0, v5)] q3.2).bind fun q4 => ((mC z d 202 [(2, 86), (0, v1), (0, v5)] q4.2).bind fun q5 => ((mC z d 203 [(2, 86), (0, v1), (2, 94), (0, q4.1), (0, q5.1)] q5.2).bind fun q6 => (some (1, q6.2))))))) else (gI v2 12 (gI v2 12 ((mC z d 240 [(2, 86), (0, v1), (0, v5), (0, q2.2 116 v2.toNat), (0, q2.2 117 v2.toNat)] q2.2).bind fun q7 => (f_M_does_116 z d v1 v2 v3 v5 q7.1 q7.2))))) else ((mC z d 239 [(2, 86), (0, v1), (0, v5)] q2.2).bind fun q8 => (f_M_does_91 z d v1 v2 v3 v5 q8.1 q8.2))) else (some (0, q2.2))))) else ((mC z d 234 [(2, 86), (0, v1), (0, v5)] μ).bind fun q9 => (f_M_does_62 z d v1 v2 v3 v4 v5 q9.1 q9.2)) := by
  show mE z d q_M_does 51 [(2, 86), (0, v1), (0, v2), (0, v3), (0, v4), (0, v5), (9, 0)] [] μ = _
  rw [mE_bk (M := q_M_does) k_M_does.1 k_M_does.2 [19, 51, 62, 91, 116, 154, 198, 200, 235] 400]
  have key : ∀ (C : Nat → List zv → Mu → mR) (E : Nat → List zv → List zv → Mu → mR), mbk C E q_M_does.1 q_M_does.2.1 z q_M_does.2.2.2 [19, 51, 62, 91, 116, 154, 198, 200, 235] 400 (zfind q_M_does.2.2.2 51) [(2, 86), (0, v1), (0, v2), (0, v3), (0, v4), (0, v5), (9, 0)] [] μ = bif !decide (v3 = 0) then ((C 199 [(2, 86), (0, v4)] μ).bind fun q1 => ((C 189 [(0, q1.1), (0, v5)] q1.2).bind fun q2 => (bif !decide (q2.1 = 0) then (bif !decide (v3 = 2) then (bif !decide (v3 = 4) then (bif !decide (v3 = 1) then (g_M_does_154 E v1 v2 v5 q2.2) else ((C 238 [(2, 86), (0, v1), (0, v5), (0, 0)] q2.2).bind fun q3 => ((C 201 [(0, v1), (0, v5)] q3.2).bind fun q4 => ((C 202 [(2, 86), (0, v1), (0, v5)] q4.2).bind fun q5 => ((C 203 [(2, 86), (0, v1), (2, 94), (0, q4.1), (0, q5.1)] q5.2).bind fun q6 => (some (1, q6.2))))))) else (gI v2 12 (gI v2 12 ((C 240 [(2, 86), (0, v1), (0, v5), (0, q2.2 116 v2.toNat), (0, q2.2 117 v2.toNat)] q2.2).bind fun q7 => (g_M_does_116 E v1 v2 v3 v5 q7.1 q7.2))))) else ((C 239 [(2, 86), (0, v1), (0, v5)] q2.2).bind fun q8 => (g_M_does_91 E v1 v2 v3 v5 q8.1 q8.2))) else (some (0, q2.2))))) else ((C 234 [(2, 86), (0, v1), (0, v5)] μ).bind fun q9 => (g_M_does_62 E v1 v2 v3 v4 v5 q9.1 q9.2)) := by
    intro C E
    rfl
  exact key _ _
set_option maxRecDepth 100000 in
theorem e_M_does_154 (z : zZ) (d : Nat) (v1 : Int) (v2 : Int) (v5 : Int) (μ : Mu) : f_M_does_154 z d v1 v2 v5 μ = gI v2 12 ((mC z d 206 [(2, 86), (0, zw (1 - v1)), (2, 114), (0, zw (8 * v2)), (0, μ 115 v2.toNat)] μ).bind fun q1 => (bif decide (q1.1 = (-1)) then (f_M_does_198 z d q1.2) else ((mC z d 199 [(2, 86), (0, zw (1 - v1))] q1.2).bind fun q2 => ((mC z d 189 [(0, q2.1), (0, q1.1)] q2.2).bind fun q3 => (bif !decide (q3.1 = 0) then (f_M_does_200 z d v1 v5 q1.1 q3.2) else (f_M_does_198 z d q3.2)))))) := by
  show mE z d q_M_does 154 [(2, 86), (0, v1), (0, v2), (9, 0), (9, 0), (0, v5), (9, 0)] [] μ = _
  rw [mE_bk (M := q_M_does) k_M_does.1 k_M_does.2 [19, 51, 62, 91, 116, 154, 198, 200, 235] 400]
  have key : ∀ (C : Nat → List zv → Mu → mR) (E : Nat → List zv → List zv → Mu → mR), mbk C E q_M_does.1 q_M_does.2.1 z q_M_does.2.2.2 [19, 51, 62, 91, 116, 154, 198, 200, 235] 400 (zfind q_M_does.2.2.2 154) [(2, 86), (0, v1), (0, v2), (9, 0), (9, 0), (0, v5), (9, 0)] [] μ = gI v2 12 ((C 206 [(2, 86), (0, zw (1 - v1)), (2, 114), (0, zw (8 * v2)), (0, μ 115 v2.toNat)] μ).bind fun q1 => (bif decide (q1.1 = (-1)) then (g_M_does_198 E q1.2) else ((C 199 [(2, 86), (0, zw (1 - v1))] q1.2).bind fun q2 => ((C 189 [(0, q2.1), (0, q1.1)] q2.2).bind fun q3 => (bif !decide (q3.1 = 0) then (g_M_does_200 E v1 v5 q1.1 q3.2) else (g_M_does_198 E q3.2)))))) := by
    intro C E
    rfl
  exact key _ _
set_option maxRecDepth 100000 in
theorem e_M_does_116 (z : zZ) (d : Nat) (v1 : Int) (v2 : Int) (v3 : Int) (v5 : Int) (v100 : Int) (μ : Mu) : f_M_does_116 z d v1 v2 v3 v5 v100 μ = g01 v100 (some (v100, μ)) := by
  show mE z d q_M_does 116 [(2, 86), (0, v1), (0, v2), (0, v3), (9, 0), (0, v5), (9, 0)] [(0, v100)] μ = _
  rw [mE_bk (M := q_M_does) k_M_does.1 k_M_does.2 [19, 51, 62, 91, 116, 154, 198, 200, 235] 400]
  have key : ∀ (C : Nat → List zv → Mu → mR) (E : Nat → List zv → List zv → Mu → mR), mbk C E q_M_does.1 q_M_does.2.1 z q_M_does.2.2.2 [19, 51, 62, 91, 116, 154, 198, 200, 235] 400 (zfind q_M_does.2.2.2 116) [(2, 86), (0, v1), (0, v2), (0, v3), (9, 0), (0, v5), (9, 0)] [(0, v100)] μ = g01 v100 (some (v100, μ)) := by
    intro C E
    rfl
  exact key _ _
set_option maxRecDepth 100000 in
theorem e_M_does_91 (z : zZ) (d : Nat) (v1 : Int) (v2 : Int) (v3 : Int) (v5 : Int) (v100 : Int) (μ : Mu) : f_M_does_91 z d v1 v2 v3 v5 v100 μ = g01 v100 (some (v100, μ)) := by
  show mE z d q_M_does 91 [(2, 86), (0, v1), (0, v2), (0, v3), (9, 0), (0, v5), (9, 0)] [(0, v100)] μ = _
  rw [mE_bk (M := q_M_does) k_M_does.1 k_M_does.2 [19, 51, 62, 91, 116, 154, 198, 200, 235] 400]
  have key : ∀ (C : Nat → List zv → Mu → mR) (E : Nat → List zv → List zv → Mu → mR), mbk C E q_M_does.1 q_M_does.2.1 z q_M_does.2.2.2 [19, 51, 62, 91, 116, 154, 198, 200, 235] 400 (zfind q_M_does.2.2.2 91) [(2, 86), (0, v1), (0, v2), (0, v3), (9, 0), (0, v5), (9, 0)] [(0, v100)] μ = g01 v100 (some (v100, μ)) := by
    intro C E
    rfl
  exact key _ _
set_option maxRecDepth 100000 in
theorem e_M_does_62 (z : zZ) (d : Nat) (v1 : Int) (v2 : Int) (v3 : Int) (v4 : Int) (v5 : Int) (v100 : Int) (μ : Mu) : f_M_does_62 z d v1 v2 v3 v4 v5 v100 μ = g01 v100 (some (v100, μ)) := by
  show mE z d q_M_does 62 [(2, 86), (0, v1), (0, v2), (0, v3), (0, v4), (0, v5), (9, 0)] [(0, v100)] μ = _
  rw [mE_bk (M := q_M_does) k_M_does.1 k_M_does.2 [19, 51, 62, 91, 116, 154, 198, 200, 235] 400]
  have key : ∀ (C : Nat → List zv → Mu → mR) (E : Nat → List zv → List zv → Mu → mR), mbk C E q_M_does.1 q_M_does.2.1 z q_M_does.2.2.2 [19, 51, 62, 91, 116, 154, 198, 200, 235] 400 (zfind q_M_does.2.2.2 62) [(2, 86), (0, v1), (0, v2), (0, v3), (0, v4), (0, v5), (9, 0)] [(0, v100)] μ = g01 v100 (some (v100, μ)) := by
    intro C E
    rfl
  exact key _ _
set_option maxRecDepth 100000 in
theorem e_M_does_198 (z : zZ) (d : Nat) (μ : Mu) : f_M_does_198 z d μ = some (0, μ) := by
  show mE z d q_M_does 198 [(9, 0), (9, 0), (9, 0), (9, 0), (9, 0), (9, 0), (9, 0)] [] μ = _
  rw [mE_bk (M := q_M_does) k_M_does.1 k_M_does.2 [19, 51, 62, 91, 116, 154, 198, 200, 235] 400]
  have key : ∀ (C : Nat → List zv → Mu → mR) (E : Nat → List zv → List zv → Mu → mR), mbk C E q_M_does.1 q_M_does.2.1 z q_M_does.2.2.2 [19, 51, 62, 91, 116, 154, 198, 200, 235] 400 (zfind q_M_does.2.2.2 198) [(9, 0), (9, 0), (9, 0), (9, 0), (9, 0), (9, 0), (9, 0)] [] μ = some (0, μ) := by
    intro C E
    rfl
  exact key _ _
set_option maxRecDepth 100000 in
theorem e_M_does_200 (z : zZ) (d : Nat) (v1 : Int) (v5 : Int) (v6 : Int) (μ : Mu) : f_M_does_200 z d v1 v5 v6 μ = (mC z d 241 [(2, 86), (0, v1), (0, v5), (0, v6)] μ).bind fun q1 => (bif decide (q1.1 = 0) then ((mC z d 243 [(2, 86), (0, v1), (0, v5), (0, v6)] q1.2).bind fun q2 => (f_M_does_235 z d q2.2)) else ((mC z d 243 [(2, 86), (0, zw (1 - v1)), (0, v6), (0, v5)] q1.2).bind fun q3 => (f_M_does_235 z d q3.2))) := by
  show mE z d q_M_does 200 [(2, 86), (0, v1), (9, 0), (9, 0), (9, 0), (0, v5), (0, v6)] [] μ = _
  rw [mE_bk (M := q_M_does) k_M_does.1 k_M_does.2 [19, 51, 62, 91, 116, 154, 198, 200, 235] 400]
  have key : ∀ (C : Nat → List zv → Mu → mR) (E : Nat → List zv → List zv → Mu → mR), mbk C E q_M_does.1 q_M_does.2.1 z q_M_does.2.2.2 [19, 51, 62, 91, 116, 154, 198, 200, 235] 400 (zfind q_M_does.2.2.2 200) [(2, 86), (0, v1), (9, 0), (9, 0), (9, 0), (0, v5), (0, v6)] [] μ = (C 241 [(2, 86), (0, v1), (0, v5), (0, v6)] μ).bind fun q1 => (bif decide (q1.1 = 0) then ((C 243 [(2, 86), (0, v1), (0, v5), (0, v6)] q1.2).bind fun q2 => (g_M_does_235 E q2.2)) else ((C 243 [(2, 86), (0, zw (1 - v1)), (0, v6), (0, v5)] q1.2).bind fun q3 => (g_M_does_235 E q3.2))) := by
    intro C E
    rfl
  exact key _ _
set_option maxRecDepth 100000 in
theorem e_M_does_235 (z : zZ) (d : Nat) (μ : Mu) : f_M_does_235 z d μ = some (1, μ) := by
  show mE z d q_M_does 235 [(9, 0), (9, 0), (9, 0), (9, 0), (9, 0), (9, 0), (9, 0)] [] μ = _
  rw [mE_bk (M := q_M_does) k_M_does.1 k_M_does.2 [19, 51, 62, 91, 116, 154, 198, 200, 235] 400]
  have key : ∀ (C : Nat → List zv → Mu → mR) (E : Nat → List zv → List zv → Mu → mR), mbk C E q_M_does.1 q_M_does.2.1 z q_M_does.2.2.2 [19, 51, 62, 91, 116, 154, 198, 200, 235] 400 (zfind q_M_does.2.2.2 235) [(9, 0), (9, 0), (9, 0), (9, 0), (9, 0), (9, 0), (9, 0)] [] μ = some (1, μ) := by
    intro C E
    rfl
  exact key _ _
def g_M_forms_13 (E : Nat → List zv → List zv → Mu → mR) (v1 : Int) (v2 : Int) (v3 : Int) (μ : Mu) : mR := E 13 [(2, 86), (0, v1), (0, v2), (0, v3), (9, 0)] [] μ
noncomputable def f_M_forms_13 (z : zZ) (d : Nat) (v1 : Int) (v2 : Int) (v3 : Int) (μ : Mu) : mR := g_M_forms_13 (fun pc ls st μ => mE z d q_M_forms pc ls st μ) v1 v2 v3 μ
theorem k_M_forms : zprK q_M_forms.2.2.2 = true ∧ zinc q_M_forms.2.2.2 = true := by decide +kernel
set_option maxRecDepth 100000 in
theorem c_M_forms (z : zZ) (d : Nat) (v1 : Int) (v2 : Int) (μ : Mu) : mC z (d + 1) 234 [(2, 86), (0, v1), (0, v2)] μ = (mC z d 235 [(2, 86), (0, v1), (0, v2)] μ).bind fun q1 => (bif !decide (q1.1 = 0) then (f_M_forms_13 z d v1 v2 0 q1.2) else (some (0, q1.2))) := by
  rw [mC_succ q_M_forms rfl rfl rfl]
  rw [mE_bk (M := q_M_forms) k_M_forms.1 k_M_forms.2 [13] 400]
  have key : ∀ (C : Nat → List zv → Mu → mR) (E : Nat → List zv → List zv → Mu → mR), mbk C E q_M_forms.1 q_M_forms.2.1 z q_M_forms.2.2.2 [13] 400 (zfind q_M_forms.2.2.2 0) (zentry q_M_forms.2.2.1 [(2, 86), (0, v1), (0, v2)]) [] μ = (C 235 [(2, 86), (0, v1), (0, v2)] μ).bind fun q1 => (bif !decide (q1.1 = 0) then (g_M_forms_13 E v1 v2 0 q1.2) else (some (0, q1.2))) := by
    intro C E
    rfl
  exact key _ _
set_option maxRecDepth 100000 in
theorem e_M_forms_13 (z : zZ) (d : Nat) (v1 : Int) (v2 : Int) (v3 : Int) (μ : Mu) : f_M_forms_13 z d v1 v2 v3 μ = (mC z d 202 [(2, 86), (0, v1), (0, v2)] μ).bind fun q1 => (bif decide (q1.1 ≤ v3) then ((mC z d 238 [(2, 86), (0, v1), (0, v2), (0, 1)] q1.2).bind fun q2 => (some (1, q2.2))) else ((mC z d 201 [(0, v1), (0, v2)] q1.2).bind fun q3 => (gI (zw (q3.1 + v3)) 192 (gI (zw ((zw (12 * v1)) + (q3.2 94 ((zw (q3.1 + v3)).toNat)))) 24 (gI (zw ((zw (12 * v1)) + (q3.2 94 ((zw (q3.1 + v3)).toNat)))) 24 (f_M_forms_13 z d v1 v2 (zw (v3 + 1)) (zup q3.2 90 ((zw ((zw (12 * v1)) + (q3.2 94 ((zw (q3.1 + v3)).toNat)))).toNat) (zw ((q3.2 90 ((zw ((zw (12 * v1)) + (q3.2 94 ((zw (q3.1 + v3)).toNat)))).toNat)) - 1))))))))) := by
  show mE z d q_M_forms 13 [(2, 86), (0, v1), (0, v2), (0, v3), (9, 0)] [] μ = _
  rw [mE_bk (M := q_M_forms) k_M_forms.1 k_M_forms.2 [13] 400]
  have key : ∀ (C : Nat → List zv → Mu → mR) (E : Nat → List zv → List zv → Mu → mR), mbk C E q_M_forms.1 q_M_forms.2.1 z q_M_forms.2.2.2 [13] 400 (zfind q_M_forms.2.2.2 13) [(2, 86), (0, v1), (0, v2), (0, v3), (9, 0)] [] μ = (C 202 [(2, 86), (0, v1), (0, v2)] μ).bind fun q1 => (bif decide (q1.1 ≤ v3) then ((C 238 [(2, 86), (0, v1), (0, v2), (0, 1)] q1.2).bind fun q2 => (some (1, q2.2))) else ((C 201 [(0, v1), (0, v2)] q1.2).bind fun q3 => (gI (zw (q3.1 + v3)) 192 (gI (zw ((zw (12 * v1)) + (q3.2 94 ((zw (q3.1 + v3)).toNat)))) 24 (gI (zw ((zw (12 * v1)) + (q3.2 94 ((zw (q3.1 + v3)).toNat)))) 24 (g_M_forms_13 E v1 v2 (zw (v3 + 1)) (zup q3.2 90 ((zw ((zw (12 * v1)) + (q3.2 94 ((zw (q3.1 + v3)).toNat)))).toNat) (zw ((q3.2 90 ((zw ((zw (12 * v1)) + (q3.2 94 ((zw (q3.1 + v3)).toNat)))).toNat)) - 1))))))))) := by
    intro C E
    rfl
  exact key _ _
