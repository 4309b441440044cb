def g_M_closesSums_0 (E : Nat → List zv → List zv → Mu → mR) (v1 : Int) (μ : Mu) : mR := E 0 [(2, 86), (0, v1)] [] μ
noncomputable def f_M_closesSums_0 (z : zZ) (d : Nat) (v1 : Int) (μ : Mu) : mR := g_M_closesSums_0 (fun pc ls st μ => mE z d q_M_closesSums pc ls st μ) v1 μ
def g_M_closesSums_17 (E : Nat → List zv → List zv → Mu → mR) (v1 : Int) (μ : Mu) : mR := E 17 [(2, 86), (0, v1)] [] μ
noncomputable def f_M_closesSums_17 (z : zZ) (d : Nat) (v1 : Int) (μ : Mu) : mR := g_M_closesSums_17 (fun pc ls st μ => mE z d q_M_closesSums pc ls st μ) v1 μ
def g_M_closesSums_37 (E : Nat → List zv → List zv → Mu → mR) (v1 : Int) (μ : Mu) : mR := E 37 [(2, 86), (0, v1)] [] μ
noncomputable def f_M_closesSums_37 (z : zZ) (d : Nat) (v1 : Int) (μ : Mu) : mR := g_M_closesSums_37 (fun pc ls st μ => mE z d q_M_closesSums pc ls st μ) v1 μ
def g_M_closesSums_59 (E : Nat → List zv → List zv → Mu → mR) (μ : Mu) : mR := E 59 [(9, 0), (9, 0)] [] μ
noncomputable def f_M_closesSums_59 (z : zZ) (d : Nat) (μ : Mu) : mR := g_M_closesSums_59 (fun pc ls st μ => mE z d q_M_closesSums pc ls st μ) μ
theorem k_M_closesSums : zprK q_M_closesSums.2.2.2 = true ∧ zinc q_M_closesSums.2.2.2 = true := by decide +kernel
set_option maxRecDepth 100000 in
theorem c_M_closesSums (z : zZ) (d : Nat) (v1 : Int) (μ : Mu) : mC z (d + 1) 219 [(2, 86), (0, v1)] μ = (mC z d 220 [(2, 86)] μ).bind fun q1 => (bif decide (q1.1 < 4) then (f_M_closesSums_17 z d v1 q1.2) else ((mC z d 220 [(2, 86)] q1.2).bind fun q2 => (bif decide (q2.1 ≤ 6) then (f_M_closesSums_37 z d v1 q2.2) else (f_M_closesSums_17 z d v1 q2.2)))) := by
  rw [mC_succ q_M_closesSums rfl rfl rfl]
  rw [mE_bk (M := q_M_closesSums) k_M_closesSums.1 k_M_closesSums.2 [0, 17, 37, 59] 400]
  have key : ∀ (C : Nat → List zv → Mu → mR) (E : Nat → List zv → List zv → Mu → mR), mbk C E q_M_closesSums.1 q_M_closesSums.2.1 z q_M_closesSums.2.2.2 [0, 17, 37, 59] 400 (zfind q_M_closesSums.2.2.2 0) (zentry q_M_closesSums.2.2.1 [(2, 86), (0, v1)]) [] μ = (C 220 [(2, 86)] μ).bind fun q1 => (bif decide (q1.1 < 4) then (g_M_closesSums_17 E v1 q1.2) else ((C 220 [(2, 86)] q1.2).bind fun q2 => (bif decide (q2.1 ≤ 6) then (g_M_closesSums_37 E v1 q2.2) else (g_M_closesSums_17 E v1 q2.2)))) := by
    intro C E
    rfl
  exact key _ _
set_option maxRecDepth 100000 in
theorem e_M_closesSums_17 (z : zZ) (d : Nat) (v1 : Int) (μ : Mu) : f_M_closesSums_17 z d v1 μ = bif decide (v1 = 0) then (f_M_closesSums_59 z d μ) else ((mC z d 220 [(2, 86)] μ).bind fun q1 => (bif decide (q1.1 = 2) then (f_M_closesSums_37 z d v1 q1.2) else ((mC z d 220 [(2, 86)] q1.2).bind fun q2 => (bif !decide (q2.1 = 3) then (f_M_closesSums_59 z d q2.2) else (f_M_closesSums_37 z d v1 q2.2))))) := by
  show mE z d q_M_closesSums 17 [(2, 86), (0, v1)] [] μ = _
  rw [mE_bk (M := q_M_closesSums) k_M_closesSums.1 k_M_closesSums.2 [0, 17, 37, 59] 400]
  have key : ∀ (C : Nat → List zv → Mu → mR) (E : Nat → List zv → List zv → Mu → mR), mbk C E q_M_closesSums.1 q_M_closesSums.2.1 z q_M_closesSums.2.2.2 [0, 17, 37, 59] 400 (zfind q_M_closesSums.2.2.2 17) [(2, 86), (0, v1)] [] μ = bif decide (v1 = 0) then (g_M_closesSums_59 E μ) else ((C 220 [(2, 86)] μ).bind fun q1 => (bif decide (q1.1 = 2) then (g_M_closesSums_37 E v1 q1.2) else ((C 220 [(2, 86)] q1.2).bind fun q2 => (bif !decide (q2.1 = 3) then (g_M_closesSums_59 E q2.2) else (g_M_closesSums_37 E v1 q2.2))))) := by
    intro C E
    rfl
  exact key _ _
set_option maxRecDepth 100000 in
theorem e_M_closesSums_37 (z : zZ) (d : Nat) (v1 : Int) (μ : Mu) : f_M_closesSums_37 z d v1 μ = (mC z d 220 [(2, 86)] μ).bind fun q1 => ((mC z d 216 [(2, 86), (0, q1.1), (0, 0)] q1.2).bind fun q2 => (f_M_closesSums_0 z d v1 (zup q2.2 86 25 (zw ((q2.2 86 25) - 1))))) := by
  show mE z d q_M_closesSums 37 [(2, 86), (0, v1)] [] μ = _
  rw [mE_bk (M := q_M_closesSums) k_M_closesSums.1 k_M_closesSums.2 [0, 17, 37, 59] 400]
  have key : ∀ (C : Nat → List zv → Mu → mR) (E : Nat → List zv → List zv → Mu → mR), mbk C E q_M_closesSums.1 q_M_closesSums.2.1 z q_M_closesSums.2.2.2 [0, 17, 37, 59] 400 (zfind q_M_closesSums.2.2.2 37) [(2, 86), (0, v1)] [] μ = (C 220 [(2, 86)] μ).bind fun q1 => ((C 216 [(2, 86), (0, q1.1), (0, 0)] q1.2).bind fun q2 => (g_M_closesSums_0 E v1 (zup q2.2 86 25 (zw ((q2.2 86 25) - 1))))) := by
    intro C E
    rfl
  exact key _ _
set_option maxRecDepth 100000 in
theorem e_M_closesSums_59 (z : zZ) (d : Nat) (μ : Mu) : f_M_closesSums_59 z d μ = some (0, μ) := by
  show mE z d q_M_closesSums 59 [(9, 0), (9, 0)] [] μ = _
  rw [mE_bk (M := q_M_closesSums) k_M_closesSums.1 k_M_closesSums.2 [0, 17, 37, 59] 400]
  have key : ∀ (C : Nat → List zv → Mu → mR) (E : Nat → List zv → List zv → Mu → mR), mbk C E q_M_closesSums.1 q_M_closesSums.2.1 z q_M_closesSums.2.2.2 [0, 17, 37, 59] 400 (zfind q_M_closesSums.2.2.2 59) [(9, 0), (9, 0)] [] μ = some (0, μ) := by
    intro C E
    rfl
  exact key _ _
set_option maxRecDepth 100000 in
theorem e_M_closesSums_0 (z : zZ) (d : Nat) (v1 : Int) (μ : Mu) : f_M_closesSums_0 z d v1 μ = (mC z d 220 [(2, 86)] μ).bind fun q1 => (bif decide (q1.1 < 4) then (f_M_closesSums_17 z d v1 q1.2) else ((mC z d 220 [(2, 86)] q1.2).bind fun q2 => (bif decide (q2.1 ≤ 6) then (f_M_closesSums_37 z d v1 q2.2) else (f_M_closesSums_17 z d v1 q2.2)))) := by
  show mE z d q_M_closesSums 0 [(2, 86), (0, v1)] [] μ = _
  rw [mE_bk (M := q_M_closesSums) k_M_closesSums.1 k_M_closesSums.2 [0, 17, 37, 59] 400]
  have key : ∀ (C : Nat → List zv → Mu → mR) (E : Nat → List zv → List zv → Mu → mR), mbk C E q_M_closesSums.1 q_M_closesSums.2.1 z q_M_closesSums.2.2.2 [0, 17, 37, 59] 400 (zfind q_M_closesSums.2.2.2 0) [(2, 86), (0, v1)] [] μ = (C 220 [(2, 86)] μ).bind fun q1 => (bif decide (q1.1 < 4) then (g_M_closesSums_17 E v1 q1.2) else ((C 220 [(2, 86)] q1.2).bind fun q2 => (bif decide (q2.1 ≤ 6) then (g_M_closesSums_37 E v1 q2.2) else (g_M_closesSums_17 E v1 q2.2)))) := by
    intro C E
    rfl
  exact key _ _
def g_M_waitTop_26 (E : Nat → List zv → List zv → Mu → mR) (v100 : Int) (μ : Mu) : mR := E 26 [(9, 0)] [(0, v100)] μ
noncomputable def f_M_waitTop_26 (z : zZ) (d : Nat) (v100 : Int) (μ : Mu) : mR := g_M_waitTop_26 (fun pc ls st μ => mE z d q_M_waitTop pc ls st μ) v100 μ
theorem k_M_waitTop : zprK q_M_waitTop.2.2.2 = true ∧ zinc q_M_waitTop.2.2.2 = true := by decide +kernel
set_option maxRecDepth 100000 in
theorem c_M_waitTop (z : zZ) (d : Nat) (μ : Mu) : mC z (d + 1) 220 [(2, 86)] μ = bif !decide (μ 86 25 = 0) then (gI (zw ((μ 86 25) - 1)) 220 (f_M_waitTop_26 z d (z_div (μ 99 ((zw ((μ 86 25) - 1)).toNat)) 1048576) μ)) else (f_M_waitTop_26 z d ((-1)) μ) := by
  rw [mC_succ q_M_waitTop rfl rfl rfl]
  rw [mE_bk (M := q_M_waitTop) k_M_waitTop.1 k_M_waitTop.2 [26] 400]
  have key : ∀ (C : Nat → List zv → Mu → mR) (E : Nat → List zv → List zv → Mu → mR), mbk C E q_M_waitTop.1 q_M_waitTop.2.1 z q_M_waitTop.2.2.2 [26] 400 (zfind q_M_waitTop.2.2.2 0) (zentry q_M_waitTop.2.2.1 [(2, 86)]) [] μ = bif !decide (μ 86 25 = 0) then (gI (zw ((μ 86 25) - 1)) 220 (g_M_waitTop_26 E (z_div (μ 99 ((zw ((μ 86 25) - 1)).toNat)) 1048576) μ)) else (g_M_waitTop_26 E ((-1)) μ) := by
    intro C E
    rfl
  exact key _ _
set_option maxRecDepth 100000 in
theorem e_M_waitTop_26 (z : zZ) (d : Nat) (v100 : Int) (μ : Mu) : f_M_waitTop_26 z d v100 μ = some (v100, μ) := by
  show mE z d q_M_waitTop 26 [(9, 0)] [(0, v100)] μ = _
  rw [mE_bk (M := q_M_waitTop) k_M_waitTop.1 k_M_waitTop.2 [26] 400]
  have key : ∀ (C : Nat → List zv → Mu → mR) (E : Nat → List zv → List zv → Mu → mR), mbk C E q_M_waitTop.1 q_M_waitTop.2.1 z q_M_waitTop.2.2.2 [26] 400 (zfind q_M_waitTop.2.2.2 26) [(9, 0)] [(0, v100)] μ = some (v100, μ) := by
    intro C E
    rfl
  exact key _ _
def g_M_hasOpenSum_2 (E : Nat → List zv → List zv → Mu → mR) (v2 : Int) (μ : Mu) : mR := E 2 [(2, 86), (9, 0), (0, v2)] [] μ
noncomputable def f_M_hasOpenSum_2 (z : zZ) (d : Nat) (v2 : Int) (μ : Mu) : mR := g_M_hasOpenSum_2 (fun pc ls st μ => mE z d q_M_hasOpenSum pc ls st μ) v2 μ
theorem k_M_hasOpenSum : zprK q_M_hasOpenSum.2.2.2 = true ∧ zinc q_M_hasOpenSum.2.2.2 = true := by decide +kernel
set_option maxRecDepth 100000 in
theorem c_M_hasOpenSum (z : zZ) (d : Nat) (v1 : Int) (μ : Mu) : mC z (d + 1) 221 [(2, 86), (0, v1)] μ = f_M_hasOpenSum_2 z d v1 μ := by
  rw [mC_succ q_M_hasOpenSum rfl rfl rfl]
  rw [mE_bk (M := q_M_hasOpenSum) k_M_hasOpenSum.1 k_M_hasOpenSum.2 [2] 400]
  have key : ∀ (C : Nat → List zv → Mu → mR) (E : Nat → List zv → List zv → Mu → mR), mbk C E q_M_hasOpenSum.1 q_M_hasOpenSum.2.1 z q_M_hasOpenSum.2.2.2 [2] 400 (zfind q_M_hasOpenSum.2.2.2 0) (zentry q_M_hasOpenSum.2.2.1 [(2, 86), (0, v1)]) [] μ = g_M_hasOpenSum_2 E v1 μ := by
    intro C E
    rfl
  exact key _ _
set_option maxRecDepth 100000 in
theorem e_M_hasOpenSum_2 (z : zZ) (d : Nat) (v2 : Int) (μ : Mu) : f_M_hasOpenSum_2 z d v2 μ = bif decide (μ 86 25 ≤ v2) then (some (0, μ)) else (gI v2 220 (bif !decide (z_div (μ 99 v2.toNat) 1048576 = 14) then (f_M_hasOpenSum_2 z d (zw (v2 + 1)) μ) else (some (1, μ)))) := by
  show mE z d q_M_hasOpenSum 2 [(2, 86), (9, 0), (0, v2)] [] μ = _
  rw [mE_bk (M := q_M_hasOpenSum) k_M_hasOpenSum.1 k_M_hasOpenSum.2 [2] 400]
  have key : ∀ (C : Nat → List zv → Mu → mR) (E : Nat → List zv → List zv → Mu → mR), mbk C E q_M_hasOpenSum.1 q_M_hasOpenSum.2.1 z q_M_hasOpenSum.2.2.2 [2] 400 (zfind q_M_hasOpenSum.2.2.2 2) [(2, 86), (9, 0), (0, v2)] [] μ = bif decide (μ 86 25 ≤ v2) then (some (0, μ)) else (gI v2 220 (bif !decide (z_div (μ 99 v2.toNat) 1048576 = 14) then (g_M_hasOpenSum_2 E (zw (v2 + 1)) μ) else (some (1, μ)))) := by
    intro C E
    rfl
  exact key _ _
def g_M_readsCondition_40 (E : Nat → List zv → List zv → Mu → mR) (μ : Mu) : mR := E 40 [(2, 86)] [] μ
noncomputable def f_M_readsCondition_40 (z : zZ) (d : Nat) (μ : Mu) : mR := g_M_readsCondition_40 (fun pc ls st μ => mE z d q_M_readsCondition pc ls st μ) μ
def g_M_readsCondition_58 (E : Nat → List zv → List zv → Mu → mR) (μ : Mu) : mR := E 58 [(2, 86)] [] μ
noncomputable def f_M_readsCondition_58 (z : zZ) (d : Nat) (μ : Mu) : mR := g_M_readsCondition_58 (fun pc ls st μ => mE z d q_M_readsCondition pc ls st μ) μ
def g_M_readsCondition_75 (E : Nat → List zv → List zv → Mu → mR) (v101 : Int) (μ : Mu) : mR := E 75 [(2, 86)] [(0, v101), (2, 86)] μ
noncomputable def f_M_readsCondition_75 (z : zZ) (d : Nat) (v101 : Int) (μ : Mu) : mR := g_M_readsCondition_75 (fun pc ls st μ => mE z d q_M_readsCondition pc ls st μ) v101 μ
def g_M_readsCondition_92 (E : Nat → List zv → List zv → Mu → mR) (μ : Mu) : mR := E 92 [(2, 86)] [] μ
noncomputable def f_M_readsCondition_92 (z : zZ) (d : Nat) (μ : Mu) : mR := g_M_readsCondition_92 (fun pc ls st μ => mE z d q_M_readsCondition pc ls st μ) μ
def g_M_readsCondition_145 (E : Nat → List zv → List zv → Mu → mR) (μ : Mu) : mR := E 145 [(2, 86)] [] μ
noncomputable def f_M_readsCondition_145 (z : zZ) (d : Nat) (μ : Mu) : mR := g_M_readsCondition_145 (fun pc ls st μ => mE z d q_M_readsCondition pc ls st μ) μ
def g_M_readsCondition_180 (E : Nat → List zv → List zv → Mu → mR) (μ : Mu) : mR := E 180 [(2, 86)] [] μ
noncomputable def f_M_readsCondition_180 (z : zZ) (d : Nat) (μ : Mu) : mR := g_M_readsCondition_180 (fun pc ls st μ => mE z d q_M_readsCondition pc ls st μ) μ
def g_M_readsCondition_195 (E : Nat → List zv → List zv → Mu → mR) (v101 : Int) (μ : Mu) : mR := E 195 [(2, 86)] [(0, v101), (2, 86)] μ
noncomputable def f_M_readsCondition_195 (z : zZ) (d : Nat) (v101 : Int) (μ : Mu) : mR := g_M_readsCondition_195 (fun pc ls st μ => mE z d q_M_readsCondition pc ls st μ) v101 μ
def g_M_readsCondition_215 (E : Nat → List zv → List zv → Mu → mR) (v101 : Int) (μ : Mu) : mR := E 215 [(2, 86)] [(0, v101), (2, 86)] μ
noncomputable def f_M_readsCondition_215 (z : zZ) (d : Nat) (v101 : Int) (μ : Mu) : mR := g_M_readsCondition_215 (fun pc ls st μ => mE z d q_M_readsCondition pc ls st μ) v101 μ
theorem k_M_readsCondition : zprK q_M_readsCondition.2.2.2 = true ∧ zinc q_M_readsCondition.2.2.2 = true := by decide +kernel
set_option maxRecDepth 100000 in
theorem c_M_readsCondition (z : zZ) (d : Nat) (μ : Mu) : mC z (d + 1) 222 [(2, 86)] μ = (mC z d 193 [(2, 86)] μ).bind fun q1 => (bif decide (q1.1 = 40) then ((mC z d 213 [(2, 86), (0, 13)] (zup (zup q1.2 86 23 0) 86 25 0)).bind fun q2 => (bif !decide (q2.1 = 0) then (f_M_readsCondition_40 z d q2.2) else (some (0, q2.2)))) else ((mC z d 194 [(2, 86), (0, 1), (0, q1.2 86 10)] q1.2).bind fun q3 => (g01 q3.1 (some (q3.1, q3.2))))) := by
  rw [mC_succ q_M_readsCondition rfl rfl rfl]
  rw [mE_bk (M := q_M_readsCondition) k_M_readsCondition.1 k_M_readsCondition.2 [40, 58, 75, 92, 145, 180, 195, 215] 400]
  have key : ∀ (C : Nat → List zv → Mu → mR) (E : Nat → List zv → List zv → Mu → mR), mbk C E q_M_readsCondition.1 q_M_readsCondition.2.1 z q_M_readsCondition.2.2.2 [40, 58, 75, 92, 145, 180, 195, 215] 400 (zfind q_M_readsCondition.2.2.2 0) (zentry q_M_readsCondition.2.2.1 [(2, 86)]) [] μ = (C 193 [(2, 86)] μ).bind fun q1 => (bif decide (q1.1 = 40) then ((C 213 [(2, 86), (0, 13)] (zup (zup q1.2 86 23 0) 86 25 0)).bind fun q2 => (bif !decide (q2.1 = 0) then (g_M_readsCondition_40 E q2.2) else (some (0, q2.2)))) else ((C 194 [(2, 86), (0, 1), (0, q1.2 86 10)] q1.2).bind fun q3 => (g01 q3.1 (some (q3.1, q3.2))))) := by
    intro C E
    rfl
  exact key _ _
set_option maxRecDepth 100000 in
theorem e_M_readsCondition_40 (z : zZ) (d : Nat) (μ : Mu) : f_M_readsCondition_40 z d μ = (mC z d 193 [(2, 86)] μ).bind fun q1 => (bif decide (q1.1 = 33) then (f_M_readsCondition_58 z d q1.2) else ((mC z d 193 [(2, 86)] q1.2).bind fun q2 => (bif !decide (q2.1 = 40) then ((mC z d 223 [(2, 86)] q2.2).bind fun q3 => (bif !decide (q3.1 = 0) then (f_M_readsCondition_92 z d q3.2) else (some (0, q3.2)))) else (f_M_readsCondition_58 z d q2.2)))) := by
  show mE z d q_M_readsCondition 40 [(2, 86)] [] μ = _
  rw [mE_bk (M := q_M_readsCondition) k_M_readsCondition.1 k_M_readsCondition.2 [40, 58, 75, 92, 145, 180, 195, 215] 400]
  have key : ∀ (C : Nat → List zv → Mu → mR) (E : Nat → List zv → List zv → Mu → mR), mbk C E q_M_readsCondition.1 q_M_readsCondition.2.1 z q_M_readsCondition.2.2.2 [40, 58, 75, 92, 145, 180, 195, 215] 400 (zfind q_M_readsCondition.2.2.2 40) [(2, 86)] [] μ = (C 193 [(2, 86)] μ).bind fun q1 => (bif decide (q1.1 = 33) then (g_M_readsCondition_58 E q1.2) else ((C 193 [(2, 86)] q1.2).bind fun q2 => (bif !decide (q2.1 = 40) then ((C 223 [(2, 86)] q2.2).bind fun q3 => (bif !decide (q3.1 = 0) then (g_M_readsCondition_92 E q3.2) else (some (0, q3.2)))) else (g_M_readsCondition_58 E q2.2)))) := by
    intro C E
    rfl
  exact key _ _
set_option maxRecDepth 100000 in
theorem e_M_readsCondition_58 (z : zZ) (d : Nat) (μ : Mu) : f_M_readsCondition_58 z d μ = (mC z d 193 [(2, 86)] μ).bind fun q1 => (bif !decide (q1.1 = 33) then (f_M_readsCondition_75 z d 13 q1.2) else (f_M_readsCondition_75 z d 10 q1.2)) := by
  show mE z d q_M_readsCondition 58 [(2, 86)] [] μ = _
  rw [mE_bk (M := q_M_readsCondition) k_M_readsCondition.1 k_M_readsCondition.2 [40, 58, 75, 92, 145, 180, 195, 215] 400]
  have key : ∀ (C : Nat → List zv → Mu → mR) (E : Nat → List zv → List zv → Mu → mR), mbk C E q_M_readsCondition.1 q_M_readsCondition.2.1 z q_M_readsCondition.2.2.2 [40, 58, 75, 92, 145, 180, 195, 215] 400 (zfind q_M_readsCondition.2.2.2 58) [(2, 86)] [] μ = (C 193 [(2, 86)] μ).bind fun q1 => (bif !decide (q1.1 = 33) then (g_M_readsCondition_75 E 13 q1.2) else (g_M_readsCondition_75 E 10 q1.2)) := by
    intro C E
    rfl
  exact key _ _
set_option maxRecDepth 100000 in
theorem e_M_readsCondition_92 (z : zZ) (d : Nat) (μ : Mu) : f_M_readsCondition_92 z d μ = (mC z d 193 [(2, 86)] μ).bind fun q1 => (bif !decide (q1.1 = 41) then ((mC z d 193 [(2, 86)] q1.2).bind fun q2 => (bif decide (q2.1 = 38) then (f_M_readsCondition_180 z d q2.2) else ((mC z d 193 [(2, 86)] q2.2).bind fun q3 => (bif decide (q3.1 = 124) then (f_M_readsCondition_180 z d q3.2) else ((mC z d 194 [(2, 86), (0, 1), (0, q3.2 86 10)] q3.2).bind fun q4 => (g01 q4.1 (some (q4.1, q4.2)))))))) else ((mC z d 225 [(2, 86), (0, 1)] q1.2).bind fun q5 => (bif !decide (zw ((q5.2 86 25) - 1) = 0) then (f_M_readsCondition_145 z d (zup (zup (zup q5.2 86 25 (zw ((q5.2 86 25) - 1))) 86 23 (zw ((q5.2 86 23) - 1))) 86 10 (zw ((q5.2 86 10) + 1)))) else (some (1, zup (zup (zup q5.2 86 25 (zw ((q5.2 86 25) - 1))) 86 23 (zw ((q5.2 86 23) - 1))) 86 10 (zw ((q5.2 86 10) + 1))))))) := by
  show mE z d q_M_readsCondition 92 [(2, 86)] [] μ = _
  rw [mE_bk (M := q_M_readsCondition) k_M_readsCondition.1 k_M_readsCondition.2 [40, 58, 75, 92, 145, 180, 195, 215] 400]
  have key : ∀ (C : Nat → List zv → Mu → mR) (E : Nat → List zv → List zv → Mu → mR), mbk C E q_M_readsCondition.1 q_M_readsCondition.2.1 z q_M_readsCondition.2.2.2 [40, 58, 75, 92, 145, 180, 195, 215] 400 (zfind q_M_readsCondition.2.2.2 92) [(2, 86)] [] μ = (C 193 [(2, 86)] μ).bind fun q1 => (bif !decide (q1.1 = 41) then ((C 193 [(2, 86)] q1.2).bind fun q2 => (bif decide (q2.1 = 38) then (g_M_readsCondition_180 E q2.2) else ((C 193 [(2, 86)] q2.2).bind fun q3 => (bif decide (q3.1 = 124) then (g_M_readsCondition_180 E q3.2) else ((C 194 [(2, 86), (0, 1), (0, q3.2 86 10)] q3.2).bind fun q4 => (g01 q4.1 (some (q4.1, q4.2)))))))) else ((C 225 [(2, 86), (0, 1)] q1.2).bind fun q5 => (bif !decide (zw ((q5.2 86 25) - 1) = 0) then (g_M_readsCondition_145 E (zup (zup (zup q5.2 86 25 (zw ((q5.2 86 25) - 1))) 86 23 (zw ((q5.2 86 23) - 1))) 86 10 (zw ((q5.2 86 10) + 1)))) else (some (1, zup (zup (zup q5.2 86 25 (zw ((q5.2 86 25) - 1))) 86 23 (zw ((q5.2 86 23) - 1))) 86 10 (zw ((q5.2 86 10) + 1))))))) := by
    intro C E
    rfl
  exact key _ _
set_option maxRecDepth 100000 in
theorem e_M_readsCondition_75 (z : zZ) (d : Nat) (v101 : Int) (μ : Mu) : f_M_readsCondition_75 z d v101 μ = (mC z d 213 [(2, 86), (0, v101)] μ).bind fun q1 => (bif !decide (q1.1 = 0) then (f_M_readsCondition_40 z d q1.2) else (some (0, q1.2))) := by
  show mE z d q_M_readsCondition 75 [(2, 86)] [(0, v101), (2, 86)] μ = _
  rw [mE_bk (M := q_M_readsCondition) k_M_readsCondition.1 k_M_readsCondition.2 [40, 58, 75, 92, 145, 180, 195, 215] 400]
  have key : ∀ (C : Nat → List zv → Mu → mR) (E : Nat → List zv → List zv → Mu → mR), mbk C E q_M_readsCondition.1 q_M_readsCondition.2.1 z q_M_readsCondition.2.2.2 [40, 58, 75, 92, 145, 180, 195, 215] 400 (zfind q_M_readsCondition.2.2.2 75) [(2, 86)] [(0, v101), (2, 86)] μ = (C 213 [(2, 86), (0, v101)] μ).bind fun q1 => (bif !decide (q1.1 = 0) then (g_M_readsCondition_40 E q1.2) else (some (0, q1.2))) := by
    intro C E
    rfl
  exact key _ _
set_option maxRecDepth 100000 in
theorem e_M_readsCondition_180 (z : zZ) (d : Nat) (μ : Mu) : f_M_readsCondition_180 z d μ = (mC z d 193 [(2, 86)] μ).bind fun q1 => (bif !decide (q1.1 = 124) then (f_M_readsCondition_195 z d 0 q1.2) else (f_M_readsCondition_195 z d 1 q1.2)) := by
  show mE z d q_M_readsCondition 180 [(2, 86)] [] μ = _
  rw [mE_bk (M := q_M_readsCondition) k_M_readsCondition.1 k_M_readsCondition.2 [40, 58, 75, 92, 145, 180, 195, 215] 400]
  have key : ∀ (C : Nat → List zv → Mu → mR) (E : Nat → List zv → List zv → Mu → mR), mbk C E q_M_readsCondition.1 q_M_readsCondition.2.1 z q_M_readsCondition.2.2.2 [40, 58, 75, 92, 145, 180, 195, 215] 400 (zfind q_M_readsCondition.2.2.2 180) [(2, 86)] [] μ = (C 193 [(2, 86)] μ).bind fun q1 => (bif !decide (q1.1 = 124) then (g_M_readsCondition_195 E 0 q1.2) else (g_M_readsCondition_195 E 1 q1.2)) := by
    intro C E
    rfl
  exact key _ _
set_option maxRecDepth 100000 in
theorem e_M_readsCondition_145 (z : zZ) (d : Nat) (μ : Mu) : f_M_readsCondition_145 z d μ = (mC z d 224 [(2, 86)] μ).bind fun q1 => (f_M_readsCondition_92 z d q1.2) := by
  show mE z d q_M_readsCondition 145 [(2, 86)] [] μ = _
  rw [mE_bk (M := q_M_readsCondition) k_M_readsCondition.1 k_M_readsCondition.2 [40, 58, 75, 92, 145, 180, 195, 215] 400]
  have key : ∀ (C : Nat → List zv → Mu → mR) (E : Nat → List zv → List zv → Mu → mR), mbk C E q_M_readsCondition.1 q_M_readsCondition.2.1 z q_M_readsCondition.2.2.2 [40, 58, 75, 92, 145, 180, 195, 215] 400 (zfind q_M_readsCondition.2.2.2 145) [(2, 86)] [] μ = (C 224 [(2, 86)] μ).bind fun q1 => (g_M_readsCondition_92 E q1.2) := by
    intro C E
    rfl
  exact key _ _
set_option maxRecDepth 100000 in
theorem e_M_readsCondition_195 (z : zZ) (d : Nat) (v101 : Int) (μ : Mu) : f_M_readsCondition_195 z d v101 μ = (mC z d 225 [(2, 86), (0, v101)] μ).bind fun q1 => ((mC z d 193 [(2, 86)] q1.2).bind fun q2 => (bif !decide (q2.1 = 38) then (f_M_readsCondition_215 z d 12 q2.2) else (f_M_readsCondition_215 z d 11 q2.2))) := by
  show mE z d q_M_readsCondition 195 [(2, 86)] [(0, v101), (2, 86)] μ = _
  rw [mE_bk (M := q_M_readsCondition) k_M_readsCondition.1 k_M_readsCondition.2 [40, 58, 75, 92, 145, 180, 195, 215] 400]
  have key : ∀ (C : Nat → List zv → Mu → mR) (E : Nat → List zv → List zv → Mu → mR), mbk C E q_M_readsCondition.1 q_M_readsCondition.2.1 z q_M_readsCondition.2.2.2 [40, 58, 75, 92, 145, 180, 195, 215] 400 (zfind q_M_readsCondition.2.2.2 195) [(2, 86)] [(0, v101), (2, 86)] μ = (C 225 [(2, 86), (0, v101)] μ).bind fun q1 => ((C 193 [(2, 86)] q1.2).bind fun q2 => (bif !decide (q2.1 = 38) then (g_M_readsCondition_215 E 12 q2.2) else (g_M_readsCondition_215 E 11 q2.2))) := by
    intro C E
    rfl
  exact key _ _
set_option maxRecDepth 100000 in
theorem e_M_readsCondition_215 (z : zZ) (d : Nat) (v101 : Int) (μ : Mu) : f_M_readsCondition_215 z d v101 μ = (mC z d 226 [(2, 86), (0, v101)] μ).bind fun q1 => (f_M_readsCondition_40 z d q1.2) := by
  show mE z d q_M_readsCondition 215 [(2, 86)] [(0, v101), (2, 86)] μ = _
  rw [mE_bk (M := q_M_readsCondition) k_M_readsCondition.1 k_M_readsCondition.2 [40, 58, 75, 92, 145, 180, 195, 215] 400]
  have key : ∀ (C : Nat → List zv → Mu → mR) (E : Nat → List zv → List zv → Mu → mR), mbk C E q_M_readsCondition.1 q_M_readsCondition.2.1 z q_M_readsCondition.2.2.2 [40, 58, 75, 92, 145, 180, 195, 215] 400 (zfind q_M_readsCondition.2.2.2 215) [(2, 86)] [(0, v101), (2, 86)] μ = (C 226 [(2, 86), (0, v101)] μ).bind fun q1 => (g_M_readsCondition_40 E q1.2) := by
    intro C E
    rfl
  exact key _ _
def g_M_readsCompared_51 (E : Nat → List zv → List zv → Mu → mR) (μ : Mu) : mR := E 51 [(2, 86), (9, 0)] [] μ
noncomputable def f_M_readsCompared_51 (z : zZ) (d : Nat) (μ : Mu) : mR := g_M_readsCompared_51 (fun pc ls st μ => mE z d q_M_readsCompared pc ls st μ) μ
def g_M_readsCompared_52 (E : Nat → List zv → List zv → Mu → mR) (v100 : Int) (μ : Mu) : mR := E 52 [(2, 86), (9, 0)] [(0, v100)] μ
noncomputable def f_M_readsCompared_52 (z : zZ) (d : Nat) (v100 : Int) (μ : Mu) : mR := g_M_readsCompared_52 (fun pc ls st μ => mE z d q_M_readsCompared pc ls st μ) v100 μ
theorem k_M_readsCompared : zprK q_M_readsCompared.2.2.2 = true ∧ zinc q_M_readsCompared.2.2.2 = true := by decide +kernel
set_option maxRecDepth 100000 in
theorem c_M_readsCompared (z : zZ) (d : Nat) (μ : Mu) : mC z (d + 1) 223 [(2, 86)] μ = (mC z d 211 [(2, 86)] μ).bind fun q1 => (bif !decide (q1.1 = 0) then ((mC z d 193 [(2, 86)] q1.2).bind fun q2 => (bif !decide (q2.1 = 60) then ((mC z d 193 [(2, 86)] q2.2).bind fun q3 => (bif !decide (q3.1 = 62) then ((mC z d 193 [(2, 86)] q3.2).bind fun q4 => (bif !decide (q4.1 = 61) then (f_M_readsCompared_51 z d q4.2) else (f_M_readsCompared_52 z d 9 q4.2))) else (f_M_readsCompared_52 z d 8 q3.2))) else (f_M_readsCompared_52 z d 7 q2.2))) else (some (0, q1.2))) := by
  rw [mC_succ q_M_readsCompared rfl rfl rfl]
  rw [mE_bk (M := q_M_readsCompared) k_M_readsCompared.1 k_M_readsCompared.2 [51, 52] 400]
  have key : ∀ (C : Nat → List zv → Mu → mR) (E : Nat → List zv → List zv → Mu → mR), mbk C E q_M_readsCompared.1 q_M_readsCompared.2.1 z q_M_readsCompared.2.2.2 [51, 52] 400 (zfind q_M_readsCompared.2.2.2 0) (zentry q_M_readsCompared.2.2.1 [(2, 86)]) [] μ = (C 211 [(2, 86)] μ).bind fun q1 => (bif !decide (q1.1 = 0) then ((C 193 [(2, 86)] q1.2).bind fun q2 => (bif !decide (q2.1 = 60) then ((C 193 [(2, 86)] q2.2).bind fun q3 => (bif !decide (q3.1 = 62) then ((C 193 [(2, 86)] q3.2).bind fun q4 => (bif !decide (q4.1 = 61) then (g_M_readsCompared_51 E q4.2) else (g_M_readsCompared_52 E 9 q4.2))) else (g_M_readsCompared_52 E 8 q3.2))) else (g_M_readsCompared_52 E 7 q2.2))) else (some (0, q1.2))) := by
    intro C E
    rfl
  exact key _ _
set_option maxRecDepth 100000 in
theorem e_M_readsCompared_51 (z : zZ) (d : Nat) (μ : Mu) : f_M_readsCompared_51 z d μ = f_M_readsCompared_52 z d ((-1)) μ := by
  show mE z d q_M_readsCompared 51 [(2, 86), (9, 0)] [] μ = _
  rw [mE_bk (M := q_M_readsCompared) k_M_readsCompared.1 k_M_readsCompared.2 [51, 52] 400]
  have key : ∀ (C : Nat → List zv → Mu → mR) (E : Nat → List zv → List zv → Mu → mR), mbk C E q_M_readsCompared.1 q_M_readsCompared.2.1 z q_M_readsCompared.2.2.2 [51, 52] 400 (zfind q_M_readsCompared.2.2.2 51) [(2, 86), (9, 0)] [] μ = g_M_readsCompared_52 E ((-1)) μ := by
    intro C E
    rfl
  exact key _ _
set_option maxRecDepth 100000 in
theorem e_M_readsCompared_52 (z : zZ) (d : Nat) (v100 : Int) (μ : Mu) : f_M_readsCompared_52 z d v100 μ = bif !decide (v100 = (-1)) then ((mC z d 211 [(2, 86)] (zup μ 86 10 (zw ((μ 86 10) + 1)))).bind fun q1 => (bif !decide (q1.1 = 0) then ((mC z d 216 [(2, 86), (0, v100), (0, 0)] q1.2).bind fun q2 => ((mC z d 224 [(2, 86)] q2.2).bind fun q3 => (some (1, q3.2)))) else (some (0, q1.2)))) else ((mC z d 194 [(2, 86), (0, 1), (0, μ 86 10)] μ).bind fun q4 => (g01 q4.1 (some (q4.1, q4.2)))) := by
  show mE z d q_M_readsCompared 52 [(2, 86), (9, 0)] [(0, v100)] μ = _
  rw [mE_bk (M := q_M_readsCompared) k_M_readsCompared.1 k_M_readsCompared.2 [51, 52] 400]
  have key : ∀ (C : Nat → List zv → Mu → mR) (E : Nat → List zv → List zv → Mu → mR), mbk C E q_M_readsCompared.1 q_M_readsCompared.2.1 z q_M_readsCompared.2.2.2 [51, 52] 400 (zfind q_M_readsCompared.2.2.2 52) [(2, 86), (9, 0)] [(0, v100)] μ = bif !decide (v100 = (-1)) then ((C 211 [(2, 86)] (zup μ 86 10 (zw ((μ 86 10) + 1)))).bind fun q1 => (bif !decide (q1.1 = 0) then ((C 216 [(2, 86), (0, v100), (0, 0)] q1.2).bind fun q2 => ((C 224 [(2, 86)] q2.2).bind fun q3 => (some (1, q3.2)))) else (some (0, q1.2)))) else ((C 194 [(2, 86), (0, 1), (0, μ 86 10)] μ).bind fun q4 => (g01 q4.1 (some (q4.1, q4.2)))) := by
    intro C E
    rfl
  exact key _ _
def g_M_endsPiece_0 (E : Nat → List zv → List zv → Mu → mR) (μ : Mu) : mR := E 0 [(2, 86)] [] μ
noncomputable def f_M_endsPiece_0 (z : zZ) (d : Nat) (μ : Mu) : mR := g_M_endsPiece_0 (fun pc ls st μ => mE z d q_M_endsPiece pc ls st μ) μ
theorem k_M_endsPiece : zprK q_M_endsPiece.2.2.2 = true ∧ zinc q_M_endsPiece.2.2.2 = true := by decide +kernel
set_option maxRecDepth 100000 in
theorem c_M_endsPiece (z : zZ) (d : Nat) (μ : Mu) : mC z (d + 1) 224 [(2, 86)] μ = (mC z d 220 [(2, 86)] μ).bind fun q1 => (bif !decide (q1.1 = 10) then (some (0, q1.2)) else ((mC z d 216 [(2, 86), (0, 10), (0, 0)] q1.2).bind fun q2 => (f_M_endsPiece_0 z d (zup (zup q2.2 86 25 (zw ((q2.2 86 25) - 1))) 86 23 (zw ((q2.2 86 23) - 1)))))) := by
  rw [mC_succ q_M_endsPiece rfl rfl rfl]
  rw [mE_bk (M := q_M_endsPiece) k_M_endsPiece.1 k_M_endsPiece.2 [0] 400]
  have key : ∀ (C : Nat → List zv → Mu → mR) (E : Nat → List zv → List zv → Mu → mR), mbk C E q_M_endsPiece.1 q_M_endsPiece.2.1 z q_M_endsPiece.2.2.2 [0] 400 (zfind q_M_endsPiece.2.2.2 0) (zentry q_M_endsPiece.2.2.1 [(2, 86)]) [] μ = (C 220 [(2, 86)] μ).bind fun q1 => (bif !decide (q1.1 = 10) then (some (0, q1.2)) else ((C 216 [(2, 86), (0, 10), (0, 0)] q1.2).bind fun q2 => (g_M_endsPiece_0 E (zup (zup q2.2 86 25 (zw ((q2.2 86 25) - 1))) 86 23 (zw ((q2.2 86 23) - 1)))))) := by
    intro C E
    rfl
  exact key _ _
set_option maxRecDepth 100000 in
theorem e_M_endsPiece_0 (z : zZ) (d : Nat) (μ : Mu) : f_M_endsPiece_0 z d μ = (mC z d 220 [(2, 86)] μ).bind fun q1 => (bif !decide (q1.1 = 10) then (some (0, q1.2)) else ((mC z d 216 [(2, 86), (0, 10), (0, 0)] q1.2).bind fun q2 => (f_M_endsPiece_0 z d (zup (zup q2.2 86 25 (zw ((q2.2 86 25) - 1))) 86 23 (zw ((q2.2 86 23) - 1)))))) := by
  show mE z d q_M_endsPiece 0 [(2, 86)] [] μ = _
  rw [mE_bk (M := q_M_endsPiece) k_M_endsPiece.1 k_M_endsPiece.2 [0] 400]
  have key : ∀ (C : Nat → List zv → Mu → mR) (E : Nat → List zv → List zv → Mu → mR), mbk C E q_M_endsPiece.1 q_M_endsPiece.2.1 z q_M_endsPiece.2.2.2 [0] 400 (zfind q_M_endsPiece.2.2.2 0) [(2, 86)] [] μ = (C 220 [(2, 86)] μ).bind fun q1 => (bif !decide (q1.1 = 10) then (some (0, q1.2)) else ((C 216 [(2, 86), (0, 10), (0, 0)] q1.2).bind fun q2 => (g_M_endsPiece_0 E (zup (zup q2.2 86 25 (zw ((q2.2 86 25) - 1))) 86 23 (zw ((q2.2 86 23) - 1)))))) := by
    intro C E
    rfl
  exact key _ _
def g_M_lands_0 (E : Nat → List zv → List zv → Mu → mR) (v1 : Int) (μ : Mu) : mR := E 0 [(2, 86), (0, v1), (9, 0)] [] μ
noncomputable def f_M_lands_0 (z : zZ) (d : Nat) (v1 : Int) (μ : Mu) : mR := g_M_lands_0 (fun pc ls st μ => mE z d q_M_lands pc ls st μ) v1 μ
def g_M_lands_22 (E : Nat → List zv → List zv → Mu → mR) (v1 : Int) (μ : Mu) : mR := E 22 [(2, 86), (0, v1), (9, 0)] [] μ
noncomputable def f_M_lands_22 (z : zZ) (d : Nat) (v1 : Int) (μ : Mu) : mR := g_M_lands_22 (fun pc ls st μ => mE z d q_M_lands pc ls st μ) v1 μ
def g_M_lands_76 (E : Nat → List zv → List zv → Mu → mR) (μ : Mu) : mR := E 76 [(9, 0), (9, 0), (9, 0)] [] μ
noncomputable def f_M_lands_76 (z : zZ) (d : Nat) (μ : Mu) : mR := g_M_lands_76 (fun pc ls st μ => mE z d q_M_lands pc ls st μ) μ
theorem k_M_lands : zprK q_M_lands.2.2.2 = true ∧ zinc q_M_lands.2.2.2 = true := by decide +kernel
set_option maxRecDepth 100000 in
theorem c_M_lands (z : zZ) (d : Nat) (v1 : Int) (μ : Mu) : mC z (d + 1) 225 [(2, 86), (0, v1)] μ = (mC z d 220 [(2, 86)] μ).bind fun q1 => (bif decide (q1.1 = 11) then (f_M_lands_22 z d v1 q1.2) else (bif decide (v1 = 0) then (f_M_lands_76 z d q1.2) else ((mC z d 220 [(2, 86)] q1.2).bind fun q2 => (bif !decide (q2.1 = 12) then (f_M_lands_76 z d q2.2) else (f_M_lands_22 z d v1 q2.2))))) := by
  rw [mC_succ q_M_lands rfl rfl rfl]
  rw [mE_bk (M := q_M_lands) k_M_lands.1 k_M_lands.2 [0, 22, 76] 400]
  have key : ∀ (C : Nat → List zv → Mu → mR) (E : Nat → List zv → List zv → Mu → mR), mbk C E q_M_lands.1 q_M_lands.2.1 z q_M_lands.2.2.2 [0, 22, 76] 400 (zfind q_M_lands.2.2.2 0) (zentry q_M_lands.2.2.1 [(2, 86), (0, v1)]) [] μ = (C 220 [(2, 86)] μ).bind fun q1 => (bif decide (q1.1 = 11) then (g_M_lands_22 E v1 q1.2) else (bif decide (v1 = 0) then (g_M_lands_76 E q1.2) else ((C 220 [(2, 86)] q1.2).bind fun q2 => (bif !decide (q2.1 = 12) then (g_M_lands_76 E q2.2) else (g_M_lands_22 E v1 q2.2))))) := by
    intro C E
    rfl
  exact key _ _
set_option maxRecDepth 100000 in
theorem e_M_lands_22 (z : zZ) (d : Nat) (v1 : Int) (μ : Mu) : f_M_lands_22 z d v1 μ = gI (zw ((μ 86 25) - 1)) 220 (gI (z_rem (μ 99 ((zw ((μ 86 25) - 1)).toNat)) 1048576) 220 (gI (z_rem (μ 99 ((zw ((μ 86 25) - 1)).toNat)) 1048576) 220 (f_M_lands_0 z d v1 (zup (zup μ 98 ((z_rem (μ 99 ((zw ((μ 86 25) - 1)).toNat)) 1048576).toNat) (zw ((zw (1048576 * (z_div (μ 98 ((z_rem (μ 99 ((zw ((μ 86 25) - 1)).toNat)) 1048576).toNat)) 1048576))) + (μ 86 24)))) 86 25 (zw ((μ 86 25) - 1)))))) := by
  show mE z d q_M_lands 22 [(2, 86), (0, v1), (9, 0)] [] μ = _
  rw [mE_bk (M := q_M_lands) k_M_lands.1 k_M_lands.2 [0, 22, 76] 400]
  have key : ∀ (C : Nat → List zv → Mu → mR) (E : Nat → List zv → List zv → Mu → mR), mbk C E q_M_lands.1 q_M_lands.2.1 z q_M_lands.2.2.2 [0, 22, 76] 400 (zfind q_M_lands.2.2.2 22) [(2, 86), (0, v1), (9, 0)] [] μ = gI (zw ((μ 86 25) - 1)) 220 (gI (z_rem (μ 99 ((zw ((μ 86 25) - 1)).toNat)) 1048576) 220 (gI (z_rem (μ 99 ((zw ((μ 86 25) - 1)).toNat)) 1048576) 220 (g_M_lands_0 E v1 (zup (zup μ 98 ((z_rem (μ 99 ((zw ((μ 86 25) - 1)).toNat)) 1048576).toNat) (zw ((zw (1048576 * (z_div (μ 98 ((z_rem (μ 99 ((zw ((μ 86 25) - 1)).toNat)) 1048576).toNat)) 1048576))) + (μ 86 24)))) 86 25 (zw ((μ 86 25) - 1)))))) := by
    intro C E
    rfl
  exact key _ _
set_option maxRecDepth 100000 in
theorem e_M_lands_76 (z : zZ) (d : Nat) (μ : Mu) : f_M_lands_76 z d μ = some (0, μ) := by
  show mE z d q_M_lands 76 [(9, 0), (9, 0), (9, 0)] [] μ = _
  rw [mE_bk (M := q_M_lands) k_M_lands.1 k_M_lands.2 [0, 22, 76] 400]
  have key : ∀ (C : Nat → List zv → Mu → mR) (E : Nat → List zv → List zv → Mu → mR), mbk C E q_M_lands.1 q_M_lands.2.1 z q_M_lands.2.2.2 [0, 22, 76] 400 (zfind q_M_lands.2.2.2 76) [(9, 0), (9, 0), (9, 0)] [] μ = some (0, μ) := by
    intro C E
    rfl
  exact key _ _
set_option maxRecDepth 100000 in
theorem e_M_lands_0 (z : zZ) (d : Nat) (v1 : Int) (μ : Mu) : f_M_lands_0 z d v1 μ = (mC z d 220 [(2, 86)] μ).bind fun q1 => (bif decide (q1.1 = 11) then (f_M_lands_22 z d v1 q1.2) else (bif decide (v1 = 0) then (f_M_lands_76 z d q1.2) else ((mC z d 220 [(2, 86)] q1.2).bind fun q2 => (bif !decide (q2.1 = 12) then (f_M_lands_76 z d q2.2) else (f_M_lands_22 z d v1 q2.2))))) := by
  show mE z d q_M_lands 0 [(2, 86), (0, v1), (9, 0)] [] μ = _
  rw [mE_bk (M := q_M_lands) k_M_lands.1 k_M_lands.2 [0, 22, 76] 400]
  have key : ∀ (C : Nat → List zv → Mu → mR) (E : Nat → List zv → List zv → Mu → mR), mbk C E q_M_lands.1 q_M_lands.2.1 z q_M_lands.2.2.2 [0, 22, 76] 400 (zfind q_M_lands.2.2.2 0) [(2, 86), (0, v1), (9, 0)] [] μ = (C 220 [(2, 86)] μ).bind fun q1 => (bif decide (q1.1 = 11) then (g_M_lands_22 E v1 q1.2) else (bif decide (v1 = 0) then (g_M_lands_76 E q1.2) else ((C 220 [(2, 86)] q1.2).bind fun q2 => (bif !decide (q2.1 = 12) then (g_M_lands_76 E q2.2) else (g_M_lands_22 E v1 q2.2))))) := by
    intro C E
    rfl
  exact key _ _
theorem k_M_jumps : zprK q_M_jumps.2.2.2 = true ∧ zinc q_M_jumps.2.2.2 = true := by decide +kernel
set_option maxRecDepth 100000 in
theorem c_M_jumps (z : zZ) (d : Nat) (v1 : Int) (μ : Mu) : mC z (d + 1) 226 [(2, 86), (0, v1)] μ = gI (μ 86 25) 220 ((mC z d 216 [(2, 86), (0, v1), (0, 0)] (zup (zup μ 99 ((μ 86 25).toNat) (zw ((zw (1048576 * v1)) + (μ 86 24)))) 86 25 (zw ((μ 86 25) + 1)))).bind fun q1 => (some (0, zup q1.2 86 10 (zw ((q1.2 86 10) + 1))))) := by
  rw [mC_succ q_M_jumps rfl rfl rfl]
  rw [mE_bk (M := q_M_jumps) k_M_jumps.1 k_M_jumps.2 [] 400]
  have key : ∀ (C : Nat → List zv → Mu → mR) (E : Nat → List zv → List zv → Mu → mR), mbk C E q_M_jumps.1 q_M_jumps.2.1 z q_M_jumps.2.2.2 [] 400 (zfind q_M_jumps.2.2.2 0) (zentry q_M_jumps.2.2.1 [(2, 86), (0, v1)]) [] μ = gI (μ 86 25) 220 ((C 216 [(2, 86), (0, v1), (0, 0)] (zup (zup μ 99 ((μ 86 25).toNat) (zw ((zw (1048576 * v1)) + (μ 86 24)))) 86 25 (zw ((μ 86 25) + 1)))).bind fun q1 => (some (0, zup q1.2 86 10 (zw ((q1.2 86 10) + 1))))) := by
    intro C E
    rfl
  exact key _ _
def g_M_orders_26 (E : Nat → List zv → List zv → Mu → mR) (μ : Mu) : mR := E 26 [(9, 0), (9, 0), (9, 0), (9, 0), (9, 0)] [] μ
noncomputable def f_M_orders_26 (z : zZ) (d : Nat) (μ : Mu) : mR := g_M_orders_26 (fun pc ls st μ => mE z d q_M_orders pc ls st μ) μ
def g_M_orders_41 (E : Nat → List zv → List zv → Mu → mR) (v1 : Int) (μ : Mu) : mR := E 41 [(2, 86), (0, v1), (9, 0), (9, 0), (9, 0)] [] μ
noncomputable def f_M_orders_41 (z : zZ) (d : Nat) (v1 : Int) (μ : Mu) : mR := g_M_orders_41 (fun pc ls st μ => mE z d q_M_orders pc ls st μ) v1 μ
def g_M_orders_46 (E : Nat → List zv → List zv → Mu → mR) (v1 : Int) (v3 : Int) (v4 : Int) (μ : Mu) : mR := E 46 [(2, 86), (0, v1), (9, 0), (0, v3), (0, v4)] [] μ
noncomputable def f_M_orders_46 (z : zZ) (d : Nat) (v1 : Int) (v3 : Int) (v4 : Int) (μ : Mu) : mR := g_M_orders_46 (fun pc ls st μ => mE z d q_M_orders pc ls st μ) v1 v3 v4 μ
def g_M_orders_71 (E : Nat → List zv → List zv → Mu → mR) (v1 : Int) (v4 : Int) (v100 : Int) (v101 : Int) (μ : Mu) : mR := E 71 [(2, 86), (0, v1), (9, 0), (9, 0), (0, v4)] [(0, v101), (0, v100)] μ
noncomputable def f_M_orders_71 (z : zZ) (d : Nat) (v1 : Int) (v4 : Int) (v100 : Int) (v101 : Int) (μ : Mu) : mR := g_M_orders_71 (fun pc ls st μ => mE z d q_M_orders pc ls st μ) v1 v4 v100 v101 μ
theorem k_M_orders : zprK q_M_orders.2.2.2 = true ∧ zinc q_M_orders.2.2.2 = true := by decide +kernel
set_option maxRecDepth 100000 in
theorem c_M_orders (z : zZ) (d : Nat) (v1 : Int) (v2 : Int) (μ : Mu) : mC z (d + 1) 227 [(2, 86), (0, v1), (0, v2)] μ = (mC z d 185 [(0, v1)] μ).bind fun q1 => (bif decide (q1.1 = 0) then (f_M_orders_26 z d q1.2) else ((mC z d 183 [(0, v2), (0, 1), (0, 160)] q1.2).bind fun q2 => (bif decide (q2.1 = 0) then (f_M_orders_26 z d q2.2) else (bif decide (v2 ≤ q2.2 86 9) then ((mC z d 228 [(2, 86), (0, v2)] q2.2).bind fun q3 => (bif !decide (q3.1 = 0) then (f_M_orders_41 z d v1 q3.2) else (some (q3.2 86 12, q3.2)))) else (f_M_orders_26 z d q2.2))))) := by
  rw [mC_succ q_M_orders rfl rfl rfl]
  rw [mE_bk (M := q_M_orders) k_M_orders.1 k_M_orders.2 [26, 41, 46, 71] 400]
  have key : ∀ (C : Nat → List zv → Mu → mR) (E : Nat → List zv → List zv → Mu → mR), mbk C E q_M_orders.1 q_M_orders.2.1 z q_M_orders.2.2.2 [26, 41, 46, 71] 400 (zfind q_M_orders.2.2.2 0) (zentry q_M_orders.2.2.1 [(2, 86), (0, v1), (0, v2)]) [] μ = (C 185 [(0, v1)] μ).bind fun q1 => (bif decide (q1.1 = 0) then (g_M_orders_26 E q1.2) else ((C 183 [(0, v2), (0, 1), (0, 160)] q1.2).bind fun q2 => (bif decide (q2.1 = 0) then (g_M_orders_26 E q2.2) else (bif decide (v2 ≤ q2.2 86 9) then ((C 228 [(2, 86), (0, v2)] q2.2).bind fun q3 => (bif !decide (q3.1 = 0) then (g_M_orders_41 E v1 q3.2) else (some (q3.2 86 12, q3.2)))) else (g_M_orders_26 E q2.2))))) := by
    intro C E
    rfl
  exact key _ _
set_option maxRecDepth 100000 in
theorem e_M_orders_26 (z : zZ) (d : Nat) (μ : Mu) : f_M_orders_26 z d μ = some ((-1), μ) := by
  show mE z d q_M_orders 26 [(9, 0), (9, 0), (9, 0), (9, 0), (9, 0)] [] μ = _
  rw [mE_bk (M := q_M_orders) k_M_orders.1 k_M_orders.2 [26, 41, 46, 71] 400]
  have key : ∀ (C : Nat → List zv → Mu → mR) (E : Nat → List zv → List zv → Mu → mR), mbk C E q_M_orders.1 q_M_orders.2.1 z q_M_orders.2.2.2 [26, 41, 46, 71] 400 (zfind q_M_orders.2.2.2 26) [(9, 0), (9, 0), (9, 0), (9, 0), (9, 0)] [] μ = some ((-1), μ) := by
    intro C E
    rfl
  exact key _ _
set_option maxRecDepth 100000 in
theorem e_M_orders_41 (z : zZ) (d : Nat) (v1 : Int) (μ : Mu) : f_M_orders_41 z d v1 μ = f_M_orders_46 z d v1 0 0 μ := by
  show mE z d q_M_orders 41 [(2, 86), (0, v1), (9, 0), (9, 0), (9, 0)] [] μ = _
  rw [mE_bk (M := q_M_orders) k_M_orders.1 k_M_orders.2 [26, 41, 46, 71] 400]
  have key : ∀ (C : Nat → List zv → Mu → mR) (E : Nat → List zv → List zv → Mu → mR), mbk C E q_M_orders.1 q_M_orders.2.1 z q_M_orders.2.2.2 [26, 41, 46, 71] 400 (zfind q_M_orders.2.2.2 41) [(2, 86), (0, v1), (9, 0), (9, 0), (9, 0)] [] μ = g_M_orders_46 E v1 0 0 μ := by
    intro C E
    rfl
  exact key _ _
set_option maxRecDepth 100000 in
theorem e_M_orders_46 (z : zZ) (d : Nat) (v1 : Int) (v3 : Int) (v4 : Int) (μ : Mu) : f_M_orders_46 z d v1 v3 v4 μ = bif decide (μ 86 48 ≤ v4) then (some (v3, μ)) else ((mC z d 233 [(2, 86), (0, v1), (0, v4)] μ).bind fun q1 => (bif decide (q1.1 = 0) then (f_M_orders_71 z d v1 v4 v3 0 q1.2) else (f_M_orders_71 z d v1 v4 v3 1 q1.2))) := by
  show mE z d q_M_orders 46 [(2, 86), (0, v1), (9, 0), (0, v3), (0, v4)] [] μ = _
  rw [mE_bk (M := q_M_orders) k_M_orders.1 k_M_orders.2 [26, 41, 46, 71] 400]
  have key : ∀ (C : Nat → List zv → Mu → mR) (E : Nat → List zv → List zv → Mu → mR), mbk C E q_M_orders.1 q_M_orders.2.1 z q_M_orders.2.2.2 [26, 41, 46, 71] 400 (zfind q_M_orders.2.2.2 46) [(2, 86), (0, v1), (9, 0), (0, v3), (0, v4)] [] μ = bif decide (μ 86 48 ≤ v4) then (some (v3, μ)) else ((C 233 [(2, 86), (0, v1), (0, v4)] μ).bind fun q1 => (bif decide (q1.1 = 0) then (g_M_orders_71 E v1 v4 v3 0 q1.2) else (g_M_orders_71 E v1 v4 v3 1 q1.2))) := by
    intro C E
    rfl
  exact key _ _
set_option maxRecDepth 100000 in
theorem e_M_orders_71 (z : zZ) (d : Nat) (v1 : Int) (v4 : Int) (v100 : Int) (v101 : Int) (μ : Mu) : f_M_orders_71 z d v1 v4 v100 v101 μ = f_M_orders_46 z d v1 (zw (v100 + v101)) (zw (v4 + 1)) μ := by
  show mE z d q_M_orders 71 [(2, 86), (0, v1), (9, 0), (9, 0), (0, v4)] [(0, v101), (0, v100)] μ = _
  rw [mE_bk (M := q_M_orders) k_M_orders.1 k_M_orders.2 [26, 41, 46, 71] 400]
  have key : ∀ (C : Nat → List zv → Mu → mR) (E : Nat → List zv → List zv → Mu → mR), mbk C E q_M_orders.1 q_M_orders.2.1 z q_M_orders.2.2.2 [26, 41, 46, 71] 400 (zfind q_M_orders.2.2.2 71) [(2, 86), (0, v1), (9, 0), (9, 0), (0, v4)] [(0, v101), (0, v100)] μ = g_M_orders_46 E v1 (zw (v100 + v101)) (zw (v4 + 1)) μ := by
    intro C E
    rfl
  exact key _ _
