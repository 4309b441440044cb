def g_M_readsSum_14 (E : Nat → List zv → List zv → Mu → mR) (v1 : Int) (μ : Mu) : mR := E 14 [(2, 86), (0, v1), (9, 0)] [] μ
noncomputable def f_M_readsSum_14 (z : zZ) (d : Nat) (v1 : Int) (μ : Mu) : mR := g_M_readsSum_14 (fun pc ls st μ => mE z d q_M_readsSum pc ls st μ) v1 μ
def g_M_readsSum_37 (E : Nat → List zv → List zv → Mu → mR) (v1 : Int) (v2 : Int) (μ : Mu) : mR := E 37 [(2, 86), (0, v1), (0, v2)] [(2, 86)] μ
noncomputable def f_M_readsSum_37 (z : zZ) (d : Nat) (v1 : Int) (v2 : Int) (μ : Mu) : mR := g_M_readsSum_37 (fun pc ls st μ => mE z d q_M_readsSum pc ls st μ) v1 v2 μ
def g_M_readsSum_38 (E : Nat → List zv → List zv → Mu → mR) (v1 : Int) (v2 : Int) (v101 : Int) (μ : Mu) : mR := E 38 [(2, 86), (0, v1), (0, v2)] [(0, v101), (2, 86)] μ
noncomputable def f_M_readsSum_38 (z : zZ) (d : Nat) (v1 : Int) (v2 : Int) (v101 : Int) (μ : Mu) : mR := g_M_readsSum_38 (fun pc ls st μ => mE z d q_M_readsSum pc ls st μ) v1 v2 v101 μ
def g_M_readsSum_139 (E : Nat → List zv → List zv → Mu → mR) (v1 : Int) (μ : Mu) : mR := E 139 [(2, 86), (0, v1), (9, 0)] [] μ
noncomputable def f_M_readsSum_139 (z : zZ) (d : Nat) (v1 : Int) (μ : Mu) : mR := g_M_readsSum_139 (fun pc ls st μ => mE z d q_M_readsSum pc ls st μ) v1 μ
def g_M_readsSum_164 (E : Nat → List zv → List zv → Mu → mR) (v1 : Int) (μ : Mu) : mR := E 164 [(2, 86), (0, v1), (9, 0)] [] μ
noncomputable def f_M_readsSum_164 (z : zZ) (d : Nat) (v1 : Int) (μ : Mu) : mR := g_M_readsSum_164 (fun pc ls st μ => mE z d q_M_readsSum pc ls st μ) v1 μ
theorem k_M_readsSum : zprK q_M_readsSum.2.2.2 = true ∧ zinc q_M_readsSum.2.2.2 = true := by decide +kernel
set_option maxRecDepth 100000 in
theorem c_M_readsSum (z : zZ) (d : Nat) (μ : Mu) : mC z (d + 1) 211 [(2, 86)] μ = (mC z d 212 [(2, 86)] μ).bind fun q1 => (bif !decide (q1.1 = 0) then (f_M_readsSum_14 z d (μ 86 25) q1.2) else (some (0, q1.2))) := by
  rw [mC_succ q_M_readsSum rfl rfl rfl]
  rw [mE_bk (M := q_M_readsSum) k_M_readsSum.1 k_M_readsSum.2 [14, 37, 38, 139, 164] 400]
  have key : ∀ (C : Nat → List zv → Mu → mR) (E : Nat → List zv → List zv → Mu → mR), mbk C E q_M_readsSum.1 q_M_readsSum.2.1 z q_M_readsSum.2.2.2 [14, 37, 38, 139, 164] 400 (zfind q_M_readsSum.2.2.2 0) (zentry q_M_readsSum.2.2.1 [(2, 86)]) [] μ = (C 212 [(2, 86)] μ).bind fun q1 => (bif !decide (q1.1 = 0) then (g_M_readsSum_14 E (μ 86 25) q1.2) else (some (0, q1.2))) := by
    intro C E
    rfl
  exact key _ _
set_option maxRecDepth 100000 in
theorem e_M_readsSum_14 (z : zZ) (d : Nat) (v1 : Int) (μ : Mu) : f_M_readsSum_14 z d v1 μ = (mC z d 193 [(2, 86)] μ).bind fun q1 => ((mC z d 218 [(0, q1.1)] q1.2).bind fun q2 => (bif decide (q2.1 = (-1)) then ((mC z d 193 [(2, 86)] q2.2).bind fun q3 => (bif !decide (q3.1 = 93) then (f_M_readsSum_139 z d v1 q3.2) else ((mC z d 221 [(2, 86), (0, v1)] q3.2).bind fun q4 => (bif decide (q4.1 = 0) then (f_M_readsSum_139 z d v1 q4.2) else ((mC z d 219 [(2, 86), (0, 1)] q4.2).bind fun q5 => (f_M_readsSum_164 z d v1 (zup (zup (zup q5.2 86 25 (zw ((q5.2 86 25) - 1))) 86 23 (zw ((q5.2 86 23) - 1))) 86 10 (zw ((q5.2 86 10) + 1))))))))) else (bif decide (4 ≤ q2.1) then (f_M_readsSum_37 z d v1 q2.1 q2.2) else (f_M_readsSum_38 z d v1 q2.1 1 q2.2)))) := by
  show mE z d q_M_readsSum 14 [(2, 86), (0, v1), (9, 0)] [] μ = _
  rw [mE_bk (M := q_M_readsSum) k_M_readsSum.1 k_M_readsSum.2 [14, 37, 38, 139, 164] 400]
  have key : ∀ (C : Nat → List zv → Mu → mR) (E : Nat → List zv → List zv → Mu → mR), mbk C E q_M_readsSum.1 q_M_readsSum.2.1 z q_M_readsSum.2.2.2 [14, 37, 38, 139, 164] 400 (zfind q_M_readsSum.2.2.2 14) [(2, 86), (0, v1), (9, 0)] [] μ = (C 193 [(2, 86)] μ).bind fun q1 => ((C 218 [(0, q1.1)] q1.2).bind fun q2 => (bif decide (q2.1 = (-1)) then ((C 193 [(2, 86)] q2.2).bind fun q3 => (bif !decide (q3.1 = 93) then (g_M_readsSum_139 E v1 q3.2) else ((C 221 [(2, 86), (0, v1)] q3.2).bind fun q4 => (bif decide (q4.1 = 0) then (g_M_readsSum_139 E v1 q4.2) else ((C 219 [(2, 86), (0, 1)] q4.2).bind fun q5 => (g_M_readsSum_164 E v1 (zup (zup (zup q5.2 86 25 (zw ((q5.2 86 25) - 1))) 86 23 (zw ((q5.2 86 23) - 1))) 86 10 (zw ((q5.2 86 10) + 1))))))))) else (bif decide (4 ≤ q2.1) then (g_M_readsSum_37 E v1 q2.1 q2.2) else (g_M_readsSum_38 E v1 q2.1 1 q2.2)))) := by
    intro C E
    rfl
  exact key _ _
set_option maxRecDepth 100000 in
theorem e_M_readsSum_139 (z : zZ) (d : Nat) (v1 : Int) (μ : Mu) : f_M_readsSum_139 z d v1 μ = (mC z d 221 [(2, 86), (0, v1)] μ).bind fun q1 => (bif decide (q1.1 = 0) then ((mC z d 219 [(2, 86), (0, 1)] q1.2).bind fun q2 => (some (1, q2.2))) else ((mC z d 194 [(2, 86), (0, 1), (0, q1.2 86 10)] q1.2).bind fun q3 => (g01 q3.1 (some (q3.1, q3.2))))) := by
  show mE z d q_M_readsSum 139 [(2, 86), (0, v1), (9, 0)] [] μ = _
  rw [mE_bk (M := q_M_readsSum) k_M_readsSum.1 k_M_readsSum.2 [14, 37, 38, 139, 164] 400]
  have key : ∀ (C : Nat → List zv → Mu → mR) (E : Nat → List zv → List zv → Mu → mR), mbk C E q_M_readsSum.1 q_M_readsSum.2.1 z q_M_readsSum.2.2.2 [14, 37, 38, 139, 164] 400 (zfind q_M_readsSum.2.2.2 139) [(2, 86), (0, v1), (9, 0)] [] μ = (C 221 [(2, 86), (0, v1)] μ).bind fun q1 => (bif decide (q1.1 = 0) then ((C 219 [(2, 86), (0, 1)] q1.2).bind fun q2 => (some (1, q2.2))) else ((C 194 [(2, 86), (0, 1), (0, q1.2 86 10)] q1.2).bind fun q3 => (g01 q3.1 (some (q3.1, q3.2))))) := by
    intro C E
    rfl
  exact key _ _
set_option maxRecDepth 100000 in
theorem e_M_readsSum_164 (z : zZ) (d : Nat) (v1 : Int) (μ : Mu) : f_M_readsSum_164 z d v1 μ = f_M_readsSum_14 z d v1 μ := by
  show mE z d q_M_readsSum 164 [(2, 86), (0, v1), (9, 0)] [] μ = _
  rw [mE_bk (M := q_M_readsSum) k_M_readsSum.1 k_M_readsSum.2 [14, 37, 38, 139, 164] 400]
  have key : ∀ (C : Nat → List zv → Mu → mR) (E : Nat → List zv → List zv → Mu → mR), mbk C E q_M_readsSum.1 q_M_readsSum.2.1 z q_M_readsSum.2.2.2 [14, 37, 38, 139, 164] 400 (zfind q_M_readsSum.2.2.2 164) [(2, 86), (0, v1), (9, 0)] [] μ = g_M_readsSum_14 E v1 μ := by
    intro C E
    rfl
  exact key _ _
set_option maxRecDepth 100000 in
theorem e_M_readsSum_37 (z : zZ) (d : Nat) (v1 : Int) (v2 : Int) (μ : Mu) : f_M_readsSum_37 z d v1 v2 μ = f_M_readsSum_38 z d v1 v2 0 μ := by
  show mE z d q_M_readsSum 37 [(2, 86), (0, v1), (0, v2)] [(2, 86)] μ = _
  rw [mE_bk (M := q_M_readsSum) k_M_readsSum.1 k_M_readsSum.2 [14, 37, 38, 139, 164] 400]
  have key : ∀ (C : Nat → List zv → Mu → mR) (E : Nat → List zv → List zv → Mu → mR), mbk C E q_M_readsSum.1 q_M_readsSum.2.1 z q_M_readsSum.2.2.2 [14, 37, 38, 139, 164] 400 (zfind q_M_readsSum.2.2.2 37) [(2, 86), (0, v1), (0, v2)] [(2, 86)] μ = g_M_readsSum_38 E v1 v2 0 μ := by
    intro C E
    rfl
  exact key _ _
set_option maxRecDepth 100000 in
theorem e_M_readsSum_38 (z : zZ) (d : Nat) (v1 : Int) (v2 : Int) (v101 : Int) (μ : Mu) : f_M_readsSum_38 z d v1 v2 v101 μ = (mC z d 219 [(2, 86), (0, v101)] μ).bind fun q1 => (gI (q1.2 86 25) 220 ((mC z d 212 [(2, 86)] (zup (zup (zup q1.2 99 ((q1.2 86 25).toNat) (zw (1048576 * v2))) 86 25 (zw ((q1.2 86 25) + 1))) 86 10 (zw ((q1.2 86 10) + 1)))).bind fun q2 => (bif !decide (q2.1 = 0) then (f_M_readsSum_164 z d v1 q2.2) else (some (0, q2.2))))) := by
  show mE z d q_M_readsSum 38 [(2, 86), (0, v1), (0, v2)] [(0, v101), (2, 86)] μ = _
  rw [mE_bk (M := q_M_readsSum) k_M_readsSum.1 k_M_readsSum.2 [14, 37, 38, 139, 164] 400]
  have key : ∀ (C : Nat → List zv → Mu → mR) (E : Nat → List zv → List zv → Mu → mR), mbk C E q_M_readsSum.1 q_M_readsSum.2.1 z q_M_readsSum.2.2.2 [14, 37, 38, 139, 164] 400 (zfind q_M_readsSum.2.2.2 38) [(2, 86), (0, v1), (0, v2)] [(0, v101), (2, 86)] μ = (C 219 [(2, 86), (0, v101)] μ).bind fun q1 => (gI (q1.2 86 25) 220 ((C 212 [(2, 86)] (zup (zup (zup q1.2 99 ((q1.2 86 25).toNat) (zw (1048576 * v2))) 86 25 (zw ((q1.2 86 25) + 1))) 86 10 (zw ((q1.2 86 10) + 1)))).bind fun q2 => (bif !decide (q2.1 = 0) then (g_M_readsSum_164 E v1 q2.2) else (some (0, q2.2))))) := by
    intro C E
    rfl
  exact key _ _
def g_M_readsFactor_0 (E : Nat → List zv → List zv → Mu → mR) (μ : Mu) : mR := E 0 [(2, 86), (9, 0)] [] μ
noncomputable def f_M_readsFactor_0 (z : zZ) (d : Nat) (μ : Mu) : mR := g_M_readsFactor_0 (fun pc ls st μ => mE z d q_M_readsFactor pc ls st μ) μ
def g_M_readsFactor_36 (E : Nat → List zv → List zv → Mu → mR) (μ : Mu) : mR := E 36 [(2, 86), (9, 0)] [] μ
noncomputable def f_M_readsFactor_36 (z : zZ) (d : Nat) (μ : Mu) : mR := g_M_readsFactor_36 (fun pc ls st μ => mE z d q_M_readsFactor pc ls st μ) μ
theorem k_M_readsFactor : zprK q_M_readsFactor.2.2.2 = true ∧ zinc q_M_readsFactor.2.2.2 = true := by decide +kernel
set_option maxRecDepth 100000 in
theorem c_M_readsFactor (z : zZ) (d : Nat) (μ : Mu) : mC z (d + 1) 212 [(2, 86)] μ = (mC z d 193 [(2, 86)] μ).bind fun q1 => (bif !decide (q1.1 = 91) then ((mC z d 214 [(2, 86)] q1.2).bind fun q2 => (bif decide (q2.1 = 0) then ((mC z d 193 [(2, 86)] q2.2).bind fun q3 => ((mC z d 217 [(0, q3.1)] q3.2).bind fun q4 => (bif !decide (q4.1 = (-1)) then ((mC z d 216 [(2, 86), (0, 1), (0, q4.1)] q4.2).bind fun q5 => (some (1, zup q5.2 86 10 (zw ((q5.2 86 10) + 1))))) else ((mC z d 194 [(2, 86), (0, 1), (0, q4.2 86 10)] q4.2).bind fun q6 => (g01 q6.1 (some (q6.1, q6.2))))))) else ((mC z d 215 [(2, 86)] q2.2).bind fun q7 => (bif !decide (q7.1 = 0) then (f_M_readsFactor_36 z d q7.2) else (some (0, q7.2)))))) else ((mC z d 213 [(2, 86), (0, 14)] q1.2).bind fun q8 => (bif !decide (q8.1 = 0) then (f_M_readsFactor_0 z d q8.2) else (some (0, q8.2))))) := by
  rw [mC_succ q_M_readsFactor rfl rfl rfl]
  rw [mE_bk (M := q_M_readsFactor) k_M_readsFactor.1 k_M_readsFactor.2 [0, 36] 400]
  have key : ∀ (C : Nat → List zv → Mu → mR) (E : Nat → List zv → List zv → Mu → mR), mbk C E q_M_readsFactor.1 q_M_readsFactor.2.1 z q_M_readsFactor.2.2.2 [0, 36] 400 (zfind q_M_readsFactor.2.2.2 0) (zentry q_M_readsFactor.2.2.1 [(2, 86)]) [] μ = (C 193 [(2, 86)] μ).bind fun q1 => (bif !decide (q1.1 = 91) then ((C 214 [(2, 86)] q1.2).bind fun q2 => (bif decide (q2.1 = 0) then ((C 193 [(2, 86)] q2.2).bind fun q3 => ((C 217 [(0, q3.1)] q3.2).bind fun q4 => (bif !decide (q4.1 = (-1)) then ((C 216 [(2, 86), (0, 1), (0, q4.1)] q4.2).bind fun q5 => (some (1, zup q5.2 86 10 (zw ((q5.2 86 10) + 1))))) else ((C 194 [(2, 86), (0, 1), (0, q4.2 86 10)] q4.2).bind fun q6 => (g01 q6.1 (some (q6.1, q6.2))))))) else ((C 215 [(2, 86)] q2.2).bind fun q7 => (bif !decide (q7.1 = 0) then (g_M_readsFactor_36 E q7.2) else (some (0, q7.2)))))) else ((C 213 [(2, 86), (0, 14)] q1.2).bind fun q8 => (bif !decide (q8.1 = 0) then (g_M_readsFactor_0 E q8.2) else (some (0, q8.2))))) := by
    intro C E
    rfl
  exact key _ _
set_option maxRecDepth 100000 in
theorem e_M_readsFactor_36 (z : zZ) (d : Nat) (μ : Mu) : f_M_readsFactor_36 z d μ = (mC z d 216 [(2, 86), (0, 0), (0, μ 86 13)] μ).bind fun q1 => (some (1, q1.2)) := by
  show mE z d q_M_readsFactor 36 [(2, 86), (9, 0)] [] μ = _
  rw [mE_bk (M := q_M_readsFactor) k_M_readsFactor.1 k_M_readsFactor.2 [0, 36] 400]
  have key : ∀ (C : Nat → List zv → Mu → mR) (E : Nat → List zv → List zv → Mu → mR), mbk C E q_M_readsFactor.1 q_M_readsFactor.2.1 z q_M_readsFactor.2.2.2 [0, 36] 400 (zfind q_M_readsFactor.2.2.2 36) [(2, 86), (9, 0)] [] μ = (C 216 [(2, 86), (0, 0), (0, μ 86 13)] μ).bind fun q1 => (some (1, q1.2)) := by
    intro C E
    rfl
  exact key _ _
set_option maxRecDepth 100000 in
theorem e_M_readsFactor_0 (z : zZ) (d : Nat) (μ : Mu) : f_M_readsFactor_0 z d μ = (mC z d 193 [(2, 86)] μ).bind fun q1 => (bif !decide (q1.1 = 91) then ((mC z d 214 [(2, 86)] q1.2).bind fun q2 => (bif decide (q2.1 = 0) then ((mC z d 193 [(2, 86)] q2.2).bind fun q3 => ((mC z d 217 [(0, q3.1)] q3.2).bind fun q4 => (bif !decide (q4.1 = (-1)) then ((mC z d 216 [(2, 86), (0, 1), (0, q4.1)] q4.2).bind fun q5 => (some (1, zup q5.2 86 10 (zw ((q5.2 86 10) + 1))))) else ((mC z d 194 [(2, 86), (0, 1), (0, q4.2 86 10)] q4.2).bind fun q6 => (g01 q6.1 (some (q6.1, q6.2))))))) else ((mC z d 215 [(2, 86)] q2.2).bind fun q7 => (bif !decide (q7.1 = 0) then (f_M_readsFactor_36 z d q7.2) else (some (0, q7.2)))))) else ((mC z d 213 [(2, 86), (0, 14)] q1.2).bind fun q8 => (bif !decide (q8.1 = 0) then (f_M_readsFactor_0 z d q8.2) else (some (0, q8.2))))) := by
  show mE z d q_M_readsFactor 0 [(2, 86), (9, 0)] [] μ = _
  rw [mE_bk (M := q_M_readsFactor) k_M_readsFactor.1 k_M_readsFactor.2 [0, 36] 400]
  have key : ∀ (C : Nat → List zv → Mu → mR) (E : Nat → List zv → List zv → Mu → mR), mbk C E q_M_readsFactor.1 q_M_readsFactor.2.1 z q_M_readsFactor.2.2.2 [0, 36] 400 (zfind q_M_readsFactor.2.2.2 0) [(2, 86), (9, 0)] [] μ = (C 193 [(2, 86)] μ).bind fun q1 => (bif !decide (q1.1 = 91) then ((C 214 [(2, 86)] q1.2).bind fun q2 => (bif decide (q2.1 = 0) then ((C 193 [(2, 86)] q2.2).bind fun q3 => ((C 217 [(0, q3.1)] q3.2).bind fun q4 => (bif !decide (q4.1 = (-1)) then ((C 216 [(2, 86), (0, 1), (0, q4.1)] q4.2).bind fun q5 => (some (1, zup q5.2 86 10 (zw ((q5.2 86 10) + 1))))) else ((C 194 [(2, 86), (0, 1), (0, q4.2 86 10)] q4.2).bind fun q6 => (g01 q6.1 (some (q6.1, q6.2))))))) else ((C 215 [(2, 86)] q2.2).bind fun q7 => (bif !decide (q7.1 = 0) then (g_M_readsFactor_36 E q7.2) else (some (0, q7.2)))))) else ((C 213 [(2, 86), (0, 14)] q1.2).bind fun q8 => (bif !decide (q8.1 = 0) then (g_M_readsFactor_0 E q8.2) else (some (0, q8.2))))) := by
    intro C E
    rfl
  exact key _ _
theorem k_M_opens : zprK q_M_opens.2.2.2 = true ∧ zinc q_M_opens.2.2.2 = true := by decide +kernel
set_option maxRecDepth 100000 in
theorem c_M_opens (z : zZ) (d : Nat) (v1 : Int) (μ : Mu) : mC z (d + 1) 213 [(2, 86), (0, v1)] μ = bif !decide (μ 86 23 = 6) then (gI (μ 86 25) 220 (some (1, zup (zup (zup (zup μ 86 23 (zw ((μ 86 23) + 1))) 99 ((μ 86 25).toNat) (zw (1048576 * v1))) 86 25 (zw ((μ 86 25) + 1))) 86 10 (zw ((μ 86 10) + 1))))) else ((mC z d 194 [(2, 86), (0, 5), (0, μ 86 10)] μ).bind fun q1 => (g01 q1.1 (some (q1.1, q1.2)))) := by
  rw [mC_succ q_M_opens rfl rfl rfl]
  rw [mE_bk (M := q_M_opens) k_M_opens.1 k_M_opens.2 [] 400]
  have key : ∀ (C : Nat → List zv → Mu → mR) (E : Nat → List zv → List zv → Mu → mR), mbk C E q_M_opens.1 q_M_opens.2.1 z q_M_opens.2.2.2 [] 400 (zfind q_M_opens.2.2.2 0) (zentry q_M_opens.2.2.1 [(2, 86), (0, v1)]) [] μ = bif !decide (μ 86 23 = 6) then (gI (μ 86 25) 220 (some (1, zup (zup (zup (zup μ 86 23 (zw ((μ 86 23) + 1))) 99 ((μ 86 25).toNat) (zw (1048576 * v1))) 86 25 (zw ((μ 86 25) + 1))) 86 10 (zw ((μ 86 10) + 1))))) else ((C 194 [(2, 86), (0, 5), (0, μ 86 10)] μ).bind fun q1 => (g01 q1.1 (some (q1.1, q1.2)))) := by
    intro C E
    rfl
  exact key _ _
def g_M_isDigit_22 (E : Nat → List zv → List zv → Mu → mR) (μ : Mu) : mR := E 22 [(9, 0)] [] μ
noncomputable def f_M_isDigit_22 (z : zZ) (d : Nat) (μ : Mu) : mR := g_M_isDigit_22 (fun pc ls st μ => mE z d q_M_isDigit pc ls st μ) μ
def g_M_isDigit_23 (E : Nat → List zv → List zv → Mu → mR) (v100 : Int) (μ : Mu) : mR := E 23 [(9, 0)] [(0, v100)] μ
noncomputable def f_M_isDigit_23 (z : zZ) (d : Nat) (v100 : Int) (μ : Mu) : mR := g_M_isDigit_23 (fun pc ls st μ => mE z d q_M_isDigit pc ls st μ) v100 μ
theorem k_M_isDigit : zprK q_M_isDigit.2.2.2 = true ∧ zinc q_M_isDigit.2.2.2 = true := by decide +kernel
set_option maxRecDepth 100000 in
theorem c_M_isDigit (z : zZ) (d : Nat) (μ : Mu) : mC z (d + 1) 214 [(2, 86)] μ = (mC z d 193 [(2, 86)] μ).bind fun q1 => (bif decide (q1.1 < 48) then (f_M_isDigit_22 z d q1.2) else ((mC z d 193 [(2, 86)] q1.2).bind fun q2 => (bif decide (57 < q2.1) then (f_M_isDigit_22 z d q2.2) else (f_M_isDigit_23 z d 1 q2.2)))) := by
  rw [mC_succ q_M_isDigit rfl rfl rfl]
  rw [mE_bk (M := q_M_isDigit) k_M_isDigit.1 k_M_isDigit.2 [22, 23] 400]
  have key : ∀ (C : Nat → List zv → Mu → mR) (E : Nat → List zv → List zv → Mu → mR), mbk C E q_M_isDigit.1 q_M_isDigit.2.1 z q_M_isDigit.2.2.2 [22, 23] 400 (zfind q_M_isDigit.2.2.2 0) (zentry q_M_isDigit.2.2.1 [(2, 86)]) [] μ = (C 193 [(2, 86)] μ).bind fun q1 => (bif decide (q1.1 < 48) then (g_M_isDigit_22 E q1.2) else ((C 193 [(2, 86)] q1.2).bind fun q2 => (bif decide (57 < q2.1) then (g_M_isDigit_22 E q2.2) else (g_M_isDigit_23 E 1 q2.2)))) := by
    intro C E
    rfl
  exact key _ _
set_option maxRecDepth 100000 in
theorem e_M_isDigit_22 (z : zZ) (d : Nat) (μ : Mu) : f_M_isDigit_22 z d μ = f_M_isDigit_23 z d 0 μ := by
  show mE z d q_M_isDigit 22 [(9, 0)] [] μ = _
  rw [mE_bk (M := q_M_isDigit) k_M_isDigit.1 k_M_isDigit.2 [22, 23] 400]
  have key : ∀ (C : Nat → List zv → Mu → mR) (E : Nat → List zv → List zv → Mu → mR), mbk C E q_M_isDigit.1 q_M_isDigit.2.1 z q_M_isDigit.2.2.2 [22, 23] 400 (zfind q_M_isDigit.2.2.2 22) [(9, 0)] [] μ = g_M_isDigit_23 E 0 μ := by
    intro C E
    rfl
  exact key _ _
set_option maxRecDepth 100000 in
theorem e_M_isDigit_23 (z : zZ) (d : Nat) (v100 : Int) (μ : Mu) : f_M_isDigit_23 z d v100 μ = g01 v100 (some (v100, μ)) := by
  show mE z d q_M_isDigit 23 [(9, 0)] [(0, v100)] μ = _
  rw [mE_bk (M := q_M_isDigit) k_M_isDigit.1 k_M_isDigit.2 [22, 23] 400]
  have key : ∀ (C : Nat → List zv → Mu → mR) (E : Nat → List zv → List zv → Mu → mR), mbk C E q_M_isDigit.1 q_M_isDigit.2.1 z q_M_isDigit.2.2.2 [22, 23] 400 (zfind q_M_isDigit.2.2.2 23) [(9, 0)] [(0, v100)] μ = g01 v100 (some (v100, μ)) := by
    intro C E
    rfl
  exact key _ _
def g_M_readsNumber_10 (E : Nat → List zv → List zv → Mu → mR) (v1 : Int) (μ : Mu) : mR := E 10 [(2, 86), (0, v1)] [] μ
noncomputable def f_M_readsNumber_10 (z : zZ) (d : Nat) (v1 : Int) (μ : Mu) : mR := g_M_readsNumber_10 (fun pc ls st μ => mE z d q_M_readsNumber pc ls st μ) v1 μ
theorem k_M_readsNumber : zprK q_M_readsNumber.2.2.2 = true ∧ zinc q_M_readsNumber.2.2.2 = true := by decide +kernel
set_option maxRecDepth 100000 in
theorem c_M_readsNumber (z : zZ) (d : Nat) (μ : Mu) : mC z (d + 1) 215 [(2, 86)] μ = f_M_readsNumber_10 z d (μ 86 10) (zup μ 86 13 0) := by
  rw [mC_succ q_M_readsNumber rfl rfl rfl]
  rw [mE_bk (M := q_M_readsNumber) k_M_readsNumber.1 k_M_readsNumber.2 [10] 400]
  have key : ∀ (C : Nat → List zv → Mu → mR) (E : Nat → List zv → List zv → Mu → mR), mbk C E q_M_readsNumber.1 q_M_readsNumber.2.1 z q_M_readsNumber.2.2.2 [10] 400 (zfind q_M_readsNumber.2.2.2 0) (zentry q_M_readsNumber.2.2.1 [(2, 86)]) [] μ = g_M_readsNumber_10 E (μ 86 10) (zup μ 86 13 0) := by
    intro C E
    rfl
  exact key _ _
set_option maxRecDepth 100000 in
theorem e_M_readsNumber_10 (z : zZ) (d : Nat) (v1 : Int) (μ : Mu) : f_M_readsNumber_10 z d v1 μ = (mC z d 214 [(2, 86)] μ).bind fun q1 => (bif decide (q1.1 = 0) then (some (1, q1.2)) else (bif !decide (q1.2 86 10 = zw (v1 + 5)) then ((mC z d 193 [(2, 86)] q1.2).bind fun q2 => (f_M_readsNumber_10 z d v1 (zup (zup q2.2 86 13 (zw ((zw ((zw (10 * (q1.2 86 13))) + q2.1)) - 48))) 86 10 (zw ((q2.2 86 10) + 1))))) else ((mC z d 194 [(2, 86), (0, 2), (0, q1.2 86 10)] q1.2).bind fun q3 => (g01 q3.1 (some (q3.1, q3.2)))))) := by
  show mE z d q_M_readsNumber 10 [(2, 86), (0, v1)] [] μ = _
  rw [mE_bk (M := q_M_readsNumber) k_M_readsNumber.1 k_M_readsNumber.2 [10] 400]
  have key : ∀ (C : Nat → List zv → Mu → mR) (E : Nat → List zv → List zv → Mu → mR), mbk C E q_M_readsNumber.1 q_M_readsNumber.2.1 z q_M_readsNumber.2.2.2 [10] 400 (zfind q_M_readsNumber.2.2.2 10) [(2, 86), (0, v1)] [] μ = (C 214 [(2, 86)] μ).bind fun q1 => (bif decide (q1.1 = 0) then (some (1, q1.2)) else (bif !decide (q1.2 86 10 = zw (v1 + 5)) then ((C 193 [(2, 86)] q1.2).bind fun q2 => (g_M_readsNumber_10 E v1 (zup (zup q2.2 86 13 (zw ((zw ((zw (10 * (q1.2 86 13))) + q2.1)) - 48))) 86 10 (zw ((q2.2 86 10) + 1))))) else ((C 194 [(2, 86), (0, 2), (0, q1.2 86 10)] q1.2).bind fun q3 => (g01 q3.1 (some (q3.1, q3.2)))))) := by
    intro C E
    rfl
  exact key _ _
theorem k_M_notes : zprK q_M_notes.2.2.2 = true ∧ zinc q_M_notes.2.2.2 = true := by decide +kernel
set_option maxRecDepth 100000 in
theorem c_M_notes (z : zZ) (d : Nat) (v1 : Int) (v2 : Int) (μ : Mu) : mC z (d + 1) 216 [(2, 86), (0, v1), (0, v2)] μ = gI (μ 86 24) 220 (some (0, zup (zup μ 98 ((μ 86 24).toNat) (zw ((zw (1048576 * v1)) + v2))) 86 24 (zw ((μ 86 24) + 1)))) := by
  rw [mC_succ q_M_notes rfl rfl rfl]
  rw [mE_bk (M := q_M_notes) k_M_notes.1 k_M_notes.2 [] 400]
  have key : ∀ (C : Nat → List zv → Mu → mR) (E : Nat → List zv → List zv → Mu → mR), mbk C E q_M_notes.1 q_M_notes.2.1 z q_M_notes.2.2.2 [] 400 (zfind q_M_notes.2.2.2 0) (zentry q_M_notes.2.2.1 [(2, 86), (0, v1), (0, v2)]) [] μ = gI (μ 86 24) 220 (some (0, zup (zup μ 98 ((μ 86 24).toNat) (zw ((zw (1048576 * v1)) + v2))) 86 24 (zw ((μ 86 24) + 1)))) := by
    intro C E
    rfl
  exact key _ _
def g_M_factOf_88 (E : Nat → List zv → List zv → Mu → mR) (μ : Mu) : mR := E 88 [(9, 0)] [] μ
noncomputable def f_M_factOf_88 (z : zZ) (d : Nat) (μ : Mu) : mR := g_M_factOf_88 (fun pc ls st μ => mE z d q_M_factOf pc ls st μ) μ
def g_M_factOf_90 (E : Nat → List zv → List zv → Mu → mR) (μ : Mu) : mR := E 90 [(9, 0)] [] μ
noncomputable def f_M_factOf_90 (z : zZ) (d : Nat) (μ : Mu) : mR := g_M_factOf_90 (fun pc ls st μ => mE z d q_M_factOf pc ls st μ) μ
def g_M_factOf_92 (E : Nat → List zv → List zv → Mu → mR) (μ : Mu) : mR := E 92 [(9, 0)] [] μ
noncomputable def f_M_factOf_92 (z : zZ) (d : Nat) (μ : Mu) : mR := g_M_factOf_92 (fun pc ls st μ => mE z d q_M_factOf pc ls st μ) μ
def g_M_factOf_94 (E : Nat → List zv → List zv → Mu → mR) (μ : Mu) : mR := E 94 [(9, 0)] [] μ
noncomputable def f_M_factOf_94 (z : zZ) (d : Nat) (μ : Mu) : mR := g_M_factOf_94 (fun pc ls st μ => mE z d q_M_factOf pc ls st μ) μ
def g_M_factOf_96 (E : Nat → List zv → List zv → Mu → mR) (μ : Mu) : mR := E 96 [(9, 0)] [] μ
noncomputable def f_M_factOf_96 (z : zZ) (d : Nat) (μ : Mu) : mR := g_M_factOf_96 (fun pc ls st μ => mE z d q_M_factOf pc ls st μ) μ
def g_M_factOf_98 (E : Nat → List zv → List zv → Mu → mR) (μ : Mu) : mR := E 98 [(9, 0)] [] μ
noncomputable def f_M_factOf_98 (z : zZ) (d : Nat) (μ : Mu) : mR := g_M_factOf_98 (fun pc ls st μ => mE z d q_M_factOf pc ls st μ) μ
def g_M_factOf_100 (E : Nat → List zv → List zv → Mu → mR) (μ : Mu) : mR := E 100 [(9, 0)] [] μ
noncomputable def f_M_factOf_100 (z : zZ) (d : Nat) (μ : Mu) : mR := g_M_factOf_100 (fun pc ls st μ => mE z d q_M_factOf pc ls st μ) μ
def g_M_factOf_103 (E : Nat → List zv → List zv → Mu → mR) (μ : Mu) : mR := E 103 [(9, 0)] [] μ
noncomputable def f_M_factOf_103 (z : zZ) (d : Nat) (μ : Mu) : mR := g_M_factOf_103 (fun pc ls st μ => mE z d q_M_factOf pc ls st μ) μ
def g_M_factOf_106 (E : Nat → List zv → List zv → Mu → mR) (μ : Mu) : mR := E 106 [(9, 0)] [] μ
noncomputable def f_M_factOf_106 (z : zZ) (d : Nat) (μ : Mu) : mR := g_M_factOf_106 (fun pc ls st μ => mE z d q_M_factOf pc ls st μ) μ
def g_M_factOf_109 (E : Nat → List zv → List zv → Mu → mR) (μ : Mu) : mR := E 109 [(9, 0)] [] μ
noncomputable def f_M_factOf_109 (z : zZ) (d : Nat) (μ : Mu) : mR := g_M_factOf_109 (fun pc ls st μ => mE z d q_M_factOf pc ls st μ) μ
def g_M_factOf_112 (E : Nat → List zv → List zv → Mu → mR) (μ : Mu) : mR := E 112 [(9, 0)] [] μ
noncomputable def f_M_factOf_112 (z : zZ) (d : Nat) (μ : Mu) : mR := g_M_factOf_112 (fun pc ls st μ => mE z d q_M_factOf pc ls st μ) μ
theorem k_M_factOf : zprK q_M_factOf.2.2.2 = true ∧ zinc q_M_factOf.2.2.2 = true := by decide +kernel
set_option maxRecDepth 100000 in
theorem c_M_factOf (z : zZ) (d : Nat) (v0 : Int) (μ : Mu) : mC z (d + 1) 217 [(0, v0)] μ = bif decide (v0 = 104) then (f_M_factOf_106 z d μ) else bif decide (v0 = 105) then (f_M_factOf_90 z d μ) else bif decide (v0 = 106) then (f_M_factOf_112 z d μ) else bif decide (v0 = 107) then (f_M_factOf_112 z d μ) else bif decide (v0 = 108) then (f_M_factOf_112 z d μ) else bif decide (v0 = 109) then (f_M_factOf_92 z d μ) else bif decide (v0 = 110) then (f_M_factOf_96 z d μ) else bif decide (v0 = 111) then (f_M_factOf_112 z d μ) else bif decide (v0 = 112) then (f_M_factOf_112 z d μ) else bif decide (v0 = 113) then (f_M_factOf_98 z d μ) else bif decide (v0 = 114) then (f_M_factOf_100 z d μ) else bif decide (v0 = 115) then (f_M_factOf_94 z d μ) else bif decide (v0 = 116) then (f_M_factOf_88 z d μ) else bif decide (v0 = 117) then (f_M_factOf_112 z d μ) else bif decide (v0 = 118) then (f_M_factOf_112 z d μ) else bif decide (v0 = 119) then (f_M_factOf_112 z d μ) else bif decide (v0 = 120) then (f_M_factOf_103 z d μ) else bif decide (v0 = 121) then (f_M_factOf_109 z d μ) else (f_M_factOf_112 z d μ) := by
  rw [mC_succ q_M_factOf rfl rfl rfl]
  rw [mE_bk (M := q_M_factOf) k_M_factOf.1 k_M_factOf.2 [88, 90, 92, 94, 96, 98, 100, 103, 106, 109, 112] 400]
  have key : ∀ (C : Nat → List zv → Mu → mR) (E : Nat → List zv → List zv → Mu → mR), mbk C E q_M_factOf.1 q_M_factOf.2.1 z q_M_factOf.2.2.2 [88, 90, 92, 94, 96, 98, 100, 103, 106, 109, 112] 400 (zfind q_M_factOf.2.2.2 0) (zentry q_M_factOf.2.2.1 [(0, v0)]) [] μ = bif decide (v0 = 104) then (g_M_factOf_106 E μ) else bif decide (v0 = 105) then (g_M_factOf_90 E μ) else bif decide (v0 = 106) then (g_M_factOf_112 E μ) else bif decide (v0 = 107) then (g_M_factOf_112 E μ) else bif decide (v0 = 108) then (g_M_factOf_112 E μ) else bif decide (v0 = 109) then (g_M_factOf_92 E μ) else bif decide (v0 = 110) then (g_M_factOf_96 E μ) else bif decide (v0 = 111) then (g_M_factOf_112 E μ) else bif decide (v0 = 112) then (g_M_factOf_112 E μ) else bif decide (v0 = 113) then (g_M_factOf_98 E μ) else bif decide (v0 = 114) then (g_M_factOf_100 E μ) else bif decide (v0 = 115) then (g_M_factOf_94 E μ) else bif decide (v0 = 116) then (g_M_factOf_88 E μ) else bif decide (v0 = 117) then (g_M_factOf_112 E μ) else bif decide (v0 = 118) then (g_M_factOf_112 E μ) else bif decide (v0 = 119) then (g_M_factOf_112 E μ) else bif decide (v0 = 120) then (g_M_factOf_103 E μ) else bif decide (v0 = 121) then (g_M_factOf_109 E μ) else (g_M_factOf_112 E μ) := by
    intro C E
    rfl
  exact key _ _
set_option maxRecDepth 100000 in
theorem e_M_factOf_106 (z : zZ) (d : Nat) (μ : Mu) : f_M_factOf_106 z d μ = some (8, μ) := by
  show mE z d q_M_factOf 106 [(9, 0)] [] μ = _
  rw [mE_bk (M := q_M_factOf) k_M_factOf.1 k_M_factOf.2 [88, 90, 92, 94, 96, 98, 100, 103, 106, 109, 112] 400]
  have key : ∀ (C : Nat → List zv → Mu → mR) (E : Nat → List zv → List zv → Mu → mR), mbk C E q_M_factOf.1 q_M_factOf.2.1 z q_M_factOf.2.2.2 [88, 90, 92, 94, 96, 98, 100, 103, 106, 109, 112] 400 (zfind q_M_factOf.2.2.2 106) [(9, 0)] [] μ = some (8, μ) := by
    intro C E
    rfl
  exact key _ _
set_option maxRecDepth 100000 in
theorem e_M_factOf_90 (z : zZ) (d : Nat) (μ : Mu) : f_M_factOf_90 z d μ = some (1, μ) := by
  show mE z d q_M_factOf 90 [(9, 0)] [] μ = _
  rw [mE_bk (M := q_M_factOf) k_M_factOf.1 k_M_factOf.2 [88, 90, 92, 94, 96, 98, 100, 103, 106, 109, 112] 400]
  have key : ∀ (C : Nat → List zv → Mu → mR) (E : Nat → List zv → List zv → Mu → mR), mbk C E q_M_factOf.1 q_M_factOf.2.1 z q_M_factOf.2.2.2 [88, 90, 92, 94, 96, 98, 100, 103, 106, 109, 112] 400 (zfind q_M_factOf.2.2.2 90) [(9, 0)] [] μ = some (1, μ) := by
    intro C E
    rfl
  exact key _ _
set_option maxRecDepth 100000 in
theorem e_M_factOf_112 (z : zZ) (d : Nat) (μ : Mu) : f_M_factOf_112 z d μ = some ((-1), μ) := by
  show mE z d q_M_factOf 112 [(9, 0)] [] μ = _
  rw [mE_bk (M := q_M_factOf) k_M_factOf.1 k_M_factOf.2 [88, 90, 92, 94, 96, 98, 100, 103, 106, 109, 112] 400]
  have key : ∀ (C : Nat → List zv → Mu → mR) (E : Nat → List zv → List zv → Mu → mR), mbk C E q_M_factOf.1 q_M_factOf.2.1 z q_M_factOf.2.2.2 [88, 90, 92, 94, 96, 98, 100, 103, 106, 109, 112] 400 (zfind q_M_factOf.2.2.2 112) [(9, 0)] [] μ = some ((-1), μ) := by
    intro C E
    rfl
  exact key _ _
set_option maxRecDepth 100000 in
theorem e_M_factOf_92 (z : zZ) (d : Nat) (μ : Mu) : f_M_factOf_92 z d μ = some (2, μ) := by
  show mE z d q_M_factOf 92 [(9, 0)] [] μ = _
  rw [mE_bk (M := q_M_factOf) k_M_factOf.1 k_M_factOf.2 [88, 90, 92, 94, 96, 98, 100, 103, 106, 109, 112] 400]
  have key : ∀ (C : Nat → List zv → Mu → mR) (E : Nat → List zv → List zv → Mu → mR), mbk C E q_M_factOf.1 q_M_factOf.2.1 z q_M_factOf.2.2.2 [88, 90, 92, 94, 96, 98, 100, 103, 106, 109, 112] 400 (zfind q_M_factOf.2.2.2 92) [(9, 0)] [] μ = some (2, μ) := by
    intro C E
    rfl
  exact key _ _
set_option maxRecDepth 100000 in
theorem e_M_factOf_96 (z : zZ) (d : Nat) (μ : Mu) : f_M_factOf_96 z d μ = some (4, μ) := by
  show mE z d q_M_factOf 96 [(9, 0)] [] μ = _
  rw [mE_bk (M := q_M_factOf) k_M_factOf.1 k_M_factOf.2 [88, 90, 92, 94, 96, 98, 100, 103, 106, 109, 112] 400]
  have key : ∀ (C : Nat → List zv → Mu → mR) (E : Nat → List zv → List zv → Mu → mR), mbk C E q_M_factOf.1 q_M_factOf.2.1 z q_M_factOf.2.2.2 [88, 90, 92, 94, 96, 98, 100, 103, 106, 109, 112] 400 (zfind q_M_factOf.2.2.2 96) [(9, 0)] [] μ = some (4, μ) := by
    intro C E
    rfl
  exact key _ _
set_option maxRecDepth 100000 in
theorem e_M_factOf_98 (z : zZ) (d : Nat) (μ : Mu) : f_M_factOf_98 z d μ = some (5, μ) := by
  show mE z d q_M_factOf 98 [(9, 0)] [] μ = _
  rw [mE_bk (M := q_M_factOf) k_M_factOf.1 k_M_factOf.2 [88, 90, 92, 94, 96, 98, 100, 103, 106, 109, 112] 400]
  have key : ∀ (C : Nat → List zv → Mu → mR) (E : Nat → List zv → List zv → Mu → mR), mbk C E q_M_factOf.1 q_M_factOf.2.1 z q_M_factOf.2.2.2 [88, 90, 92, 94, 96, 98, 100, 103, 106, 109, 112] 400 (zfind q_M_factOf.2.2.2 98) [(9, 0)] [] μ = some (5, μ) := by
    intro C E
    rfl
  exact key _ _
set_option maxRecDepth 100000 in
theorem e_M_factOf_100 (z : zZ) (d : Nat) (μ : Mu) : f_M_factOf_100 z d μ = some (6, μ) := by
  show mE z d q_M_factOf 100 [(9, 0)] [] μ = _
  rw [mE_bk (M := q_M_factOf) k_M_factOf.1 k_M_factOf.2 [88, 90, 92, 94, 96, 98, 100, 103, 106, 109, 112] 400]
  have key : ∀ (C : Nat → List zv → Mu → mR) (E : Nat → List zv → List zv → Mu → mR), mbk C E q_M_factOf.1 q_M_factOf.2.1 z q_M_factOf.2.2.2 [88, 90, 92, 94, 96, 98, 100, 103, 106, 109, 112] 400 (zfind q_M_factOf.2.2.2 100) [(9, 0)] [] μ = some (6, μ) := by
    intro C E
    rfl
  exact key _ _
set_option maxRecDepth 100000 in
theorem e_M_factOf_94 (z : zZ) (d : Nat) (μ : Mu) : f_M_factOf_94 z d μ = some (3, μ) := by
  show mE z d q_M_factOf 94 [(9, 0)] [] μ = _
  rw [mE_bk (M := q_M_factOf) k_M_factOf.1 k_M_factOf.2 [88, 90, 92, 94, 96, 98, 100, 103, 106, 109, 112] 400]
  have key : ∀ (C : Nat → List zv → Mu → mR) (E : Nat → List zv → List zv → Mu → mR), mbk C E q_M_factOf.1 q_M_factOf.2.1 z q_M_factOf.2.2.2 [88, 90, 92, 94, 96, 98, 100, 103, 106, 109, 112] 400 (zfind q_M_factOf.2.2.2 94) [(9, 0)] [] μ = some (3, μ) := by
    intro C E
    rfl
  exact key _ _
set_option maxRecDepth 100000 in
theorem e_M_factOf_88 (z : zZ) (d : Nat) (μ : Mu) : f_M_factOf_88 z d μ = some (0, μ) := by
  show mE z d q_M_factOf 88 [(9, 0)] [] μ = _
  rw [mE_bk (M := q_M_factOf) k_M_factOf.1 k_M_factOf.2 [88, 90, 92, 94, 96, 98, 100, 103, 106, 109, 112] 400]
  have key : ∀ (C : Nat → List zv → Mu → mR) (E : Nat → List zv → List zv → Mu → mR), mbk C E q_M_factOf.1 q_M_factOf.2.1 z q_M_factOf.2.2.2 [88, 90, 92, 94, 96, 98, 100, 103, 106, 109, 112] 400 (zfind q_M_factOf.2.2.2 88) [(9, 0)] [] μ = some (0, μ) := by
    intro C E
    rfl
  exact key _ _
set_option maxRecDepth 100000 in
theorem e_M_factOf_103 (z : zZ) (d : Nat) (μ : Mu) : f_M_factOf_103 z d μ = some (7, μ) := by
  show mE z d q_M_factOf 103 [(9, 0)] [] μ = _
  rw [mE_bk (M := q_M_factOf) k_M_factOf.1 k_M_factOf.2 [88, 90, 92, 94, 96, 98, 100, 103, 106, 109, 112] 400]
  have key : ∀ (C : Nat → List zv → Mu → mR) (E : Nat → List zv → List zv → Mu → mR), mbk C E q_M_factOf.1 q_M_factOf.2.1 z q_M_factOf.2.2.2 [88, 90, 92, 94, 96, 98, 100, 103, 106, 109, 112] 400 (zfind q_M_factOf.2.2.2 103) [(9, 0)] [] μ = some (7, μ) := by
    intro C E
    rfl
  exact key _ _
set_option maxRecDepth 100000 in
theorem e_M_factOf_109 (z : zZ) (d : Nat) (μ : Mu) : f_M_factOf_109 z d μ = some (9, μ) := by
  show mE z d q_M_factOf 109 [(9, 0)] [] μ = _
  rw [mE_bk (M := q_M_factOf) k_M_factOf.1 k_M_factOf.2 [88, 90, 92, 94, 96, 98, 100, 103, 106, 109, 112] 400]
  have key : ∀ (C : Nat → List zv → Mu → mR) (E : Nat → List zv → List zv → Mu → mR), mbk C E q_M_factOf.1 q_M_factOf.2.1 z q_M_factOf.2.2.2 [88, 90, 92, 94, 96, 98, 100, 103, 106, 109, 112] 400 (zfind q_M_factOf.2.2.2 109) [(9, 0)] [] μ = some (9, μ) := by
    intro C E
    rfl
  exact key _ _
def g_M_sumSign_51 (E : Nat → List zv → List zv → Mu → mR) (μ : Mu) : mR := E 51 [(9, 0)] [] μ
noncomputable def f_M_sumSign_51 (z : zZ) (d : Nat) (μ : Mu) : mR := g_M_sumSign_51 (fun pc ls st μ => mE z d q_M_sumSign pc ls st μ) μ
def g_M_sumSign_52 (E : Nat → List zv → List zv → Mu → mR) (v100 : Int) (μ : Mu) : mR := E 52 [(9, 0)] [(0, v100)] μ
noncomputable def f_M_sumSign_52 (z : zZ) (d : Nat) (v100 : Int) (μ : Mu) : mR := g_M_sumSign_52 (fun pc ls st μ => mE z d q_M_sumSign pc ls st μ) v100 μ
theorem k_M_sumSign : zprK q_M_sumSign.2.2.2 = true ∧ zinc q_M_sumSign.2.2.2 = true := by decide +kernel
set_option maxRecDepth 100000 in
theorem c_M_sumSign (z : zZ) (d : Nat) (v0 : Int) (μ : Mu) : mC z (d + 1) 218 [(0, v0)] μ = bif !decide (v0 = 43) then (bif !decide (v0 = 45) then (bif !decide (v0 = 42) then (bif !decide (v0 = 47) then (bif !decide (v0 = 37) then (f_M_sumSign_51 z d μ) else (f_M_sumSign_52 z d 6 μ)) else (f_M_sumSign_52 z d 5 μ)) else (f_M_sumSign_52 z d 4 μ)) else (f_M_sumSign_52 z d 3 μ)) else (f_M_sumSign_52 z d 2 μ) := by
  rw [mC_succ q_M_sumSign rfl rfl rfl]
  rw [mE_bk (M := q_M_sumSign) k_M_sumSign.1 k_M_sumSign.2 [51, 52] 400]
  have key : ∀ (C : Nat → List zv → Mu → mR) (E : Nat → List zv → List zv → Mu → mR), mbk C E q_M_sumSign.1 q_M_sumSign.2.1 z q_M_sumSign.2.2.2 [51, 52] 400 (zfind q_M_sumSign.2.2.2 0) (zentry q_M_sumSign.2.2.1 [(0, v0)]) [] μ = bif !decide (v0 = 43) then (bif !decide (v0 = 45) then (bif !decide (v0 = 42) then (bif !decide (v0 = 47) then (bif !decide (v0 = 37) then (g_M_sumSign_51 E μ) else (g_M_sumSign_52 E 6 μ)) else (g_M_sumSign_52 E 5 μ)) else (g_M_sumSign_52 E 4 μ)) else (g_M_sumSign_52 E 3 μ)) else (g_M_sumSign_52 E 2 μ) := by
    intro C E
    rfl
  exact key _ _
set_option maxRecDepth 100000 in
theorem e_M_sumSign_51 (z : zZ) (d : Nat) (μ : Mu) : f_M_sumSign_51 z d μ = f_M_sumSign_52 z d ((-1)) μ := by
  show mE z d q_M_sumSign 51 [(9, 0)] [] μ = _
  rw [mE_bk (M := q_M_sumSign) k_M_sumSign.1 k_M_sumSign.2 [51, 52] 400]
  have key : ∀ (C : Nat → List zv → Mu → mR) (E : Nat → List zv → List zv → Mu → mR), mbk C E q_M_sumSign.1 q_M_sumSign.2.1 z q_M_sumSign.2.2.2 [51, 52] 400 (zfind q_M_sumSign.2.2.2 51) [(9, 0)] [] μ = g_M_sumSign_52 E ((-1)) μ := by
    intro C E
    rfl
  exact key _ _
set_option maxRecDepth 100000 in
theorem e_M_sumSign_52 (z : zZ) (d : Nat) (v100 : Int) (μ : Mu) : f_M_sumSign_52 z d v100 μ = some (v100, μ) := by
  show mE z d q_M_sumSign 52 [(9, 0)] [(0, v100)] μ = _
  rw [mE_bk (M := q_M_sumSign) k_M_sumSign.1 k_M_sumSign.2 [51, 52] 400]
  have key : ∀ (C : Nat → List zv → Mu → mR) (E : Nat → List zv → List zv → Mu → mR), mbk C E q_M_sumSign.1 q_M_sumSign.2.1 z q_M_sumSign.2.2.2 [51, 52] 400 (zfind q_M_sumSign.2.2.2 52) [(9, 0)] [(0, v100)] μ = some (v100, μ) := by
    intro C E
    rfl
  exact key _ _
