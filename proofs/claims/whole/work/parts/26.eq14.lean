def g_M_learnt_40 (E : Nat → List zv → List zv → Mu → mR) (v1 : Int) (μ : Mu) : mR := E 40 [(2, 86), (0, v1), (9, 0), (9, 0), (9, 0), (9, 0), (9, 0)] [] μ
noncomputable def f_M_learnt_40 (z : zZ) (d : Nat) (v1 : Int) (μ : Mu) : mR := g_M_learnt_40 (fun pc ls st μ => mE z d q_M_learnt pc ls st μ) v1 μ
def g_M_learnt_49 (E : Nat → List zv → List zv → Mu → mR) (v1 : Int) (v4 : Int) (v5 : Int) (v6 : Int) (μ : Mu) : mR := E 49 [(2, 86), (0, v1), (9, 0), (9, 0), (0, v4), (0, v5), (0, v6)] [] μ
noncomputable def f_M_learnt_49 (z : zZ) (d : Nat) (v1 : Int) (v4 : Int) (v5 : Int) (v6 : Int) (μ : Mu) : mR := g_M_learnt_49 (fun pc ls st μ => mE z d q_M_learnt pc ls st μ) v1 v4 v5 v6 μ
def g_M_learnt_58 (E : Nat → List zv → List zv → Mu → mR) (v1 : Int) (v4 : Int) (v5 : Int) (v6 : Int) (μ : Mu) : mR := E 58 [(2, 86), (0, v1), (9, 0), (9, 0), (0, v4), (0, v5), (0, v6)] [] μ
noncomputable def f_M_learnt_58 (z : zZ) (d : Nat) (v1 : Int) (v4 : Int) (v5 : Int) (v6 : Int) (μ : Mu) : mR := g_M_learnt_58 (fun pc ls st μ => mE z d q_M_learnt pc ls st μ) v1 v4 v5 v6 μ
def g_M_learnt_100 (E : Nat → List zv → List zv → Mu → mR) (v1 : Int) (v4 : Int) (v5 : Int) (v6 : Int) (μ : Mu) : mR := E 100 [(2, 86), (0, v1), (9, 0), (9, 0), (0, v4), (0, v5), (0, v6)] [] μ
noncomputable def f_M_learnt_100 (z : zZ) (d : Nat) (v1 : Int) (v4 : Int) (v5 : Int) (v6 : Int) (μ : Mu) : mR := g_M_learnt_100 (fun pc ls st μ => mE z d q_M_learnt pc ls st μ) v1 v4 v5 v6 μ
def g_M_learnt_109 (E : Nat → List zv → List zv → Mu → mR) (v1 : Int) (v4 : Int) (v5 : Int) (v6 : Int) (μ : Mu) : mR := E 109 [(2, 86), (0, v1), (9, 0), (9, 0), (0, v4), (0, v5), (0, v6)] [] μ
noncomputable def f_M_learnt_109 (z : zZ) (d : Nat) (v1 : Int) (v4 : Int) (v5 : Int) (v6 : Int) (μ : Mu) : mR := g_M_learnt_109 (fun pc ls st μ => mE z d q_M_learnt pc ls st μ) v1 v4 v5 v6 μ
theorem k_M_learnt : zprK q_M_learnt.2.2.2 = true ∧ zinc q_M_learnt.2.2.2 = true := by decide +kernel
set_option maxRecDepth 100000 in
theorem c_M_learnt (z : zZ) (d : Nat) (v1 : Int) (μ : Mu) : mC z (d + 1) 282 [(2, 86), (0, v1)] μ = (mC z d 183 [(0, v1), (0, (-1)), (0, 11)] μ).bind fun q1 => (bif !decide (q1.1 = 0) then ((mC z d 283 [(2, 86)] q1.2).bind fun q2 => ((mC z d 284 [(2, 86)] q2.2).bind fun q3 => (bif !decide (v1 = (-1)) then (bif !decide (z_lcmp q3.1 0 = 0) then (f_M_learnt_40 z d v1 q3.2) else (some ((-2), q3.2))) else (some (q3.1, q3.2))))) else (some ((-3), q1.2))) := by
  rw [mC_succ q_M_learnt rfl rfl rfl]
  rw [mE_bk (M := q_M_learnt) k_M_learnt.1 k_M_learnt.2 [40, 49, 58, 100, 109] 400]
  have key : ∀ (C : Nat → List zv → Mu → mR) (E : Nat → List zv → List zv → Mu → mR), mbk C E q_M_learnt.1 q_M_learnt.2.1 z q_M_learnt.2.2.2 [40, 49, 58, 100, 109] 400 (zfind q_M_learnt.2.2.2 0) (zentry q_M_learnt.2.2.1 [(2, 86), (0, v1)]) [] μ = (C 183 [(0, v1), (0, (-1)), (0, 11)] μ).bind fun q1 => (bif !decide (q1.1 = 0) then ((C 283 [(2, 86)] q1.2).bind fun q2 => ((C 284 [(2, 86)] q2.2).bind fun q3 => (bif !decide (v1 = (-1)) then (bif !decide (z_lcmp q3.1 0 = 0) then (g_M_learnt_40 E v1 q3.2) else (some ((-2), q3.2))) else (some (q3.1, q3.2))))) else (some ((-3), q1.2))) := by
    intro C E
    rfl
  exact key _ _
set_option maxRecDepth 100000 in
theorem e_M_learnt_40 (z : zZ) (d : Nat) (v1 : Int) (μ : Mu) : f_M_learnt_40 z d v1 μ = f_M_learnt_49 z d v1 0 0 0 μ := by
  show mE z d q_M_learnt 40 [(2, 86), (0, v1), (9, 0), (9, 0), (9, 0), (9, 0), (9, 0)] [] μ = _
  rw [mE_bk (M := q_M_learnt) k_M_learnt.1 k_M_learnt.2 [40, 49, 58, 100, 109] 400]
  have key : ∀ (C : Nat → List zv → Mu → mR) (E : Nat → List zv → List zv → Mu → mR), mbk C E q_M_learnt.1 q_M_learnt.2.1 z q_M_learnt.2.2.2 [40, 49, 58, 100, 109] 400 (zfind q_M_learnt.2.2.2 40) [(2, 86), (0, v1), (9, 0), (9, 0), (9, 0), (9, 0), (9, 0)] [] μ = g_M_learnt_49 E v1 0 0 0 μ := by
    intro C E
    rfl
  exact key _ _
set_option maxRecDepth 100000 in
theorem e_M_learnt_49 (z : zZ) (d : Nat) (v1 : Int) (v4 : Int) (v5 : Int) (v6 : Int) (μ : Mu) : f_M_learnt_49 z d v1 v4 v5 v6 μ = bif decide (v1 < v6) then (some (v5, μ)) else (f_M_learnt_58 z d v1 v4 0 v6 μ) := by
  show mE z d q_M_learnt 49 [(2, 86), (0, v1), (9, 0), (9, 0), (0, v4), (0, v5), (0, v6)] [] μ = _
  rw [mE_bk (M := q_M_learnt) k_M_learnt.1 k_M_learnt.2 [40, 49, 58, 100, 109] 400]
  have key : ∀ (C : Nat → List zv → Mu → mR) (E : Nat → List zv → List zv → Mu → mR), mbk C E q_M_learnt.1 q_M_learnt.2.1 z q_M_learnt.2.2.2 [40, 49, 58, 100, 109] 400 (zfind q_M_learnt.2.2.2 49) [(2, 86), (0, v1), (9, 0), (9, 0), (0, v4), (0, v5), (0, v6)] [] μ = bif decide (v1 < v6) then (some (v5, μ)) else (g_M_learnt_58 E v1 v4 0 v6 μ) := by
    intro C E
    rfl
  exact key _ _
set_option maxRecDepth 100000 in
theorem e_M_learnt_58 (z : zZ) (d : Nat) (v1 : Int) (v4 : Int) (v5 : Int) (v6 : Int) (μ : Mu) : f_M_learnt_58 z d v1 v4 v5 v6 μ = (mC z d 189 [(0, v4), (0, v5)] μ).bind fun q1 => (bif !decide (q1.1 = 0) then (f_M_learnt_100 z d v1 v4 v5 v6 q1.2) else (gI v5 12 (bif !decide (z_and (q1.2 130 v5.toNat) (z_xor v4 ((-1))) = 0) then (f_M_learnt_100 z d v1 v4 v5 v6 q1.2) else (gI (z_or v4 (z_shl 1 v5)) 4096 (bif !decide (z_lcmp (q1.2 131 ((z_or v4 (z_shl 1 v5)).toNat)) 0 = 0) then (f_M_learnt_109 z d v1 v4 v5 v6 q1.2) else (f_M_learnt_100 z d v1 v4 v5 v6 q1.2)))))) := by
  show mE z d q_M_learnt 58 [(2, 86), (0, v1), (9, 0), (9, 0), (0, v4), (0, v5), (0, v6)] [] μ = _
  rw [mE_bk (M := q_M_learnt) k_M_learnt.1 k_M_learnt.2 [40, 49, 58, 100, 109] 400]
  have key : ∀ (C : Nat → List zv → Mu → mR) (E : Nat → List zv → List zv → Mu → mR), mbk C E q_M_learnt.1 q_M_learnt.2.1 z q_M_learnt.2.2.2 [40, 49, 58, 100, 109] 400 (zfind q_M_learnt.2.2.2 58) [(2, 86), (0, v1), (9, 0), (9, 0), (0, v4), (0, v5), (0, v6)] [] μ = (C 189 [(0, v4), (0, v5)] μ).bind fun q1 => (bif !decide (q1.1 = 0) then (g_M_learnt_100 E v1 v4 v5 v6 q1.2) else (gI v5 12 (bif !decide (z_and (q1.2 130 v5.toNat) (z_xor v4 ((-1))) = 0) then (g_M_learnt_100 E v1 v4 v5 v6 q1.2) else (gI (z_or v4 (z_shl 1 v5)) 4096 (bif !decide (z_lcmp (q1.2 131 ((z_or v4 (z_shl 1 v5)).toNat)) 0 = 0) then (g_M_learnt_109 E v1 v4 v5 v6 q1.2) else (g_M_learnt_100 E v1 v4 v5 v6 q1.2)))))) := by
    intro C E
    rfl
  exact key _ _
set_option maxRecDepth 100000 in
theorem e_M_learnt_100 (z : zZ) (d : Nat) (v1 : Int) (v4 : Int) (v5 : Int) (v6 : Int) (μ : Mu) : f_M_learnt_100 z d v1 v4 v5 v6 μ = f_M_learnt_58 z d v1 v4 (zw (v5 + 1)) v6 μ := by
  show mE z d q_M_learnt 100 [(2, 86), (0, v1), (9, 0), (9, 0), (0, v4), (0, v5), (0, v6)] [] μ = _
  rw [mE_bk (M := q_M_learnt) k_M_learnt.1 k_M_learnt.2 [40, 49, 58, 100, 109] 400]
  have key : ∀ (C : Nat → List zv → Mu → mR) (E : Nat → List zv → List zv → Mu → mR), mbk C E q_M_learnt.1 q_M_learnt.2.1 z q_M_learnt.2.2.2 [40, 49, 58, 100, 109] 400 (zfind q_M_learnt.2.2.2 100) [(2, 86), (0, v1), (9, 0), (9, 0), (0, v4), (0, v5), (0, v6)] [] μ = g_M_learnt_58 E v1 v4 (zw (v5 + 1)) v6 μ := by
    intro C E
    rfl
  exact key _ _
set_option maxRecDepth 100000 in
theorem e_M_learnt_109 (z : zZ) (d : Nat) (v1 : Int) (v4 : Int) (v5 : Int) (v6 : Int) (μ : Mu) : f_M_learnt_109 z d v1 v4 v5 v6 μ = f_M_learnt_49 z d v1 (z_or v4 (z_shl 1 v5)) v5 (zw (v6 + 1)) μ := by
  show mE z d q_M_learnt 109 [(2, 86), (0, v1), (9, 0), (9, 0), (0, v4), (0, v5), (0, v6)] [] μ = _
  rw [mE_bk (M := q_M_learnt) k_M_learnt.1 k_M_learnt.2 [40, 49, 58, 100, 109] 400]
  have key : ∀ (C : Nat → List zv → Mu → mR) (E : Nat → List zv → List zv → Mu → mR), mbk C E q_M_learnt.1 q_M_learnt.2.1 z q_M_learnt.2.2.2 [40, 49, 58, 100, 109] 400 (zfind q_M_learnt.2.2.2 109) [(2, 86), (0, v1), (9, 0), (9, 0), (0, v4), (0, v5), (0, v6)] [] μ = g_M_learnt_49 E v1 (z_or v4 (z_shl 1 v5)) v5 (zw (v6 + 1)) μ := by
    intro C E
    rfl
  exact key _ _
def g_M_laysMust_2 (E : Nat → List zv → List zv → Mu → mR) (v1 : Int) (μ : Mu) : mR := E 2 [(2, 86), (0, v1)] [] μ
noncomputable def f_M_laysMust_2 (z : zZ) (d : Nat) (v1 : Int) (μ : Mu) : mR := g_M_laysMust_2 (fun pc ls st μ => mE z d q_M_laysMust pc ls st μ) v1 μ
def g_M_laysMust_23 (E : Nat → List zv → List zv → Mu → mR) (v1 : Int) (μ : Mu) : mR := E 23 [(2, 86), (0, v1)] [] μ
noncomputable def f_M_laysMust_23 (z : zZ) (d : Nat) (v1 : Int) (μ : Mu) : mR := g_M_laysMust_23 (fun pc ls st μ => mE z d q_M_laysMust pc ls st μ) v1 μ
theorem k_M_laysMust : zprK q_M_laysMust.2.2.2 = true ∧ zinc q_M_laysMust.2.2.2 = true := by decide +kernel
set_option maxRecDepth 100000 in
theorem c_M_laysMust (z : zZ) (d : Nat) (μ : Mu) : mC z (d + 1) 283 [(2, 86)] μ = f_M_laysMust_2 z d 0 μ := by
  rw [mC_succ q_M_laysMust rfl rfl rfl]
  rw [mE_bk (M := q_M_laysMust) k_M_laysMust.1 k_M_laysMust.2 [2, 23] 400]
  have key : ∀ (C : Nat → List zv → Mu → mR) (E : Nat → List zv → List zv → Mu → mR), mbk C E q_M_laysMust.1 q_M_laysMust.2.1 z q_M_laysMust.2.2.2 [2, 23] 400 (zfind q_M_laysMust.2.2.2 0) (zentry q_M_laysMust.2.2.1 [(2, 86)]) [] μ = g_M_laysMust_2 E 0 μ := by
    intro C E
    rfl
  exact key _ _
set_option maxRecDepth 100000 in
theorem e_M_laysMust_2 (z : zZ) (d : Nat) (v1 : Int) (μ : Mu) : f_M_laysMust_2 z d v1 μ = bif decide (12 ≤ v1) then (f_M_laysMust_23 z d 0 μ) else (gI v1 12 (f_M_laysMust_2 z d (zw (v1 + 1)) (zup μ 130 v1.toNat 0))) := by
  show mE z d q_M_laysMust 2 [(2, 86), (0, v1)] [] μ = _
  rw [mE_bk (M := q_M_laysMust) k_M_laysMust.1 k_M_laysMust.2 [2, 23] 400]
  have key : ∀ (C : Nat → List zv → Mu → mR) (E : Nat → List zv → List zv → Mu → mR), mbk C E q_M_laysMust.1 q_M_laysMust.2.1 z q_M_laysMust.2.2.2 [2, 23] 400 (zfind q_M_laysMust.2.2.2 2) [(2, 86), (0, v1)] [] μ = bif decide (12 ≤ v1) then (g_M_laysMust_23 E 0 μ) else (gI v1 12 (g_M_laysMust_2 E (zw (v1 + 1)) (zup μ 130 v1.toNat 0))) := by
    intro C E
    rfl
  exact key _ _
set_option maxRecDepth 100000 in
theorem e_M_laysMust_23 (z : zZ) (d : Nat) (v1 : Int) (μ : Mu) : f_M_laysMust_23 z d v1 μ = bif decide (μ 86 67 ≤ v1) then (some (0, μ)) else (gI v1 24 (gI v1 24 (gI (μ 129 v1.toNat) 12 (gI v1 24 (gI (μ 129 v1.toNat) 12 (f_M_laysMust_23 z d (zw (v1 + 1)) (zup μ 130 ((μ 129 v1.toNat).toNat) (z_or (μ 130 ((μ 129 v1.toNat).toNat)) (z_shl 1 (μ 128 v1.toNat)))))))))) := by
  show mE z d q_M_laysMust 23 [(2, 86), (0, v1)] [] μ = _
  rw [mE_bk (M := q_M_laysMust) k_M_laysMust.1 k_M_laysMust.2 [2, 23] 400]
  have key : ∀ (C : Nat → List zv → Mu → mR) (E : Nat → List zv → List zv → Mu → mR), mbk C E q_M_laysMust.1 q_M_laysMust.2.1 z q_M_laysMust.2.2.2 [2, 23] 400 (zfind q_M_laysMust.2.2.2 23) [(2, 86), (0, v1)] [] μ = bif decide (μ 86 67 ≤ v1) then (some (0, μ)) else (gI v1 24 (gI v1 24 (gI (μ 129 v1.toNat) 12 (gI v1 24 (gI (μ 129 v1.toNat) 12 (g_M_laysMust_23 E (zw (v1 + 1)) (zup μ 130 ((μ 129 v1.toNat).toNat) (z_or (μ 130 ((μ 129 v1.toNat).toNat)) (z_shl 1 (μ 128 v1.toNat)))))))))) := by
    intro C E
    rfl
  exact key _ _
def g_M_laysWays_4 (E : Nat → List zv → List zv → Mu → mR) (v1 : Int) (μ : Mu) : mR := E 4 [(2, 86), (0, v1), (9, 0), (9, 0), (9, 0)] [] μ
noncomputable def f_M_laysWays_4 (z : zZ) (d : Nat) (v1 : Int) (μ : Mu) : mR := g_M_laysWays_4 (fun pc ls st μ => mE z d q_M_laysWays pc ls st μ) v1 μ
def g_M_laysWays_20 (E : Nat → List zv → List zv → Mu → mR) (v1 : Int) (v100 : Int) (μ : Mu) : mR := E 20 [(2, 86), (0, v1), (9, 0), (9, 0), (9, 0)] [(1, v100)] μ
noncomputable def f_M_laysWays_20 (z : zZ) (d : Nat) (v1 : Int) (v100 : Int) (μ : Mu) : mR := g_M_laysWays_20 (fun pc ls st μ => mE z d q_M_laysWays pc ls st μ) v1 v100 μ
def g_M_laysWays_24 (E : Nat → List zv → List zv → Mu → mR) (v1 : Int) (v2 : Int) (v4 : Int) (μ : Mu) : mR := E 24 [(2, 86), (0, v1), (1, v2), (9, 0), (0, v4)] [] μ
noncomputable def f_M_laysWays_24 (z : zZ) (d : Nat) (v1 : Int) (v2 : Int) (v4 : Int) (μ : Mu) : mR := g_M_laysWays_24 (fun pc ls st μ => mE z d q_M_laysWays pc ls st μ) v1 v2 v4 μ
def g_M_laysWays_68 (E : Nat → List zv → List zv → Mu → mR) (v1 : Int) (v2 : Int) (v4 : Int) (μ : Mu) : mR := E 68 [(2, 86), (0, v1), (1, v2), (9, 0), (0, v4)] [] μ
noncomputable def f_M_laysWays_68 (z : zZ) (d : Nat) (v1 : Int) (v2 : Int) (v4 : Int) (μ : Mu) : mR := g_M_laysWays_68 (fun pc ls st μ => mE z d q_M_laysWays pc ls st μ) v1 v2 v4 μ
theorem k_M_laysWays : zprK q_M_laysWays.2.2.2 = true ∧ zinc q_M_laysWays.2.2.2 = true := by decide +kernel
set_option maxRecDepth 100000 in
theorem c_M_laysWays (z : zZ) (d : Nat) (μ : Mu) : mC z (d + 1) 284 [(2, 86)] μ = f_M_laysWays_4 z d 4095 μ := by
  rw [mC_succ q_M_laysWays rfl rfl rfl]
  rw [mE_bk (M := q_M_laysWays) k_M_laysWays.1 k_M_laysWays.2 [4, 20, 24, 68] 400]
  have key : ∀ (C : Nat → List zv → Mu → mR) (E : Nat → List zv → List zv → Mu → mR), mbk C E q_M_laysWays.1 q_M_laysWays.2.1 z q_M_laysWays.2.2.2 [4, 20, 24, 68] 400 (zfind q_M_laysWays.2.2.2 0) (zentry q_M_laysWays.2.2.1 [(2, 86)]) [] μ = g_M_laysWays_4 E 4095 μ := by
    intro C E
    rfl
  exact key _ _
set_option maxRecDepth 100000 in
theorem e_M_laysWays_4 (z : zZ) (d : Nat) (v1 : Int) (μ : Mu) : f_M_laysWays_4 z d v1 μ = bif decide (v1 < 0) then (some (μ 131 0, μ)) else (bif !decide (v1 = 4095) then (f_M_laysWays_20 z d v1 0 μ) else (f_M_laysWays_20 z d v1 1 μ)) := by
  show mE z d q_M_laysWays 4 [(2, 86), (0, v1), (9, 0), (9, 0), (9, 0)] [] μ = _
  rw [mE_bk (M := q_M_laysWays) k_M_laysWays.1 k_M_laysWays.2 [4, 20, 24, 68] 400]
  have key : ∀ (C : Nat → List zv → Mu → mR) (E : Nat → List zv → List zv → Mu → mR), mbk C E q_M_laysWays.1 q_M_laysWays.2.1 z q_M_laysWays.2.2.2 [4, 20, 24, 68] 400 (zfind q_M_laysWays.2.2.2 4) [(2, 86), (0, v1), (9, 0), (9, 0), (9, 0)] [] μ = bif decide (v1 < 0) then (some (μ 131 0, μ)) else (bif !decide (v1 = 4095) then (g_M_laysWays_20 E v1 0 μ) else (g_M_laysWays_20 E v1 1 μ)) := by
    intro C E
    rfl
  exact key _ _
set_option maxRecDepth 100000 in
theorem e_M_laysWays_20 (z : zZ) (d : Nat) (v1 : Int) (v100 : Int) (μ : Mu) : f_M_laysWays_20 z d v1 v100 μ = f_M_laysWays_24 z d v1 v100 0 μ := by
  show mE z d q_M_laysWays 20 [(2, 86), (0, v1), (9, 0), (9, 0), (9, 0)] [(1, v100)] μ = _
  rw [mE_bk (M := q_M_laysWays) k_M_laysWays.1 k_M_laysWays.2 [4, 20, 24, 68] 400]
  have key : ∀ (C : Nat → List zv → Mu → mR) (E : Nat → List zv → List zv → Mu → mR), mbk C E q_M_laysWays.1 q_M_laysWays.2.1 z q_M_laysWays.2.2.2 [4, 20, 24, 68] 400 (zfind q_M_laysWays.2.2.2 20) [(2, 86), (0, v1), (9, 0), (9, 0), (9, 0)] [(1, v100)] μ = g_M_laysWays_24 E v1 v100 0 μ := by
    intro C E
    rfl
  exact key _ _
set_option maxRecDepth 100000 in
theorem e_M_laysWays_24 (z : zZ) (d : Nat) (v1 : Int) (v2 : Int) (v4 : Int) (μ : Mu) : f_M_laysWays_24 z d v1 v2 v4 μ = bif decide (12 ≤ v4) then (gI v1 4096 (f_M_laysWays_4 z d (zw (v1 + (-1))) (zup μ 131 v1.toNat v2))) else ((mC z d 189 [(0, v1), (0, v4)] μ).bind fun q1 => (bif !decide (q1.1 = 0) then (f_M_laysWays_68 z d v1 v2 v4 q1.2) else (gI v4 12 (bif !decide (z_and (q1.2 130 v4.toNat) (z_xor v1 ((-1))) = 0) then (f_M_laysWays_68 z d v1 v2 v4 q1.2) else (gI (z_or v1 (z_shl 1 v4)) 4096 (f_M_laysWays_68 z d v1 (zwl (v2 + (q1.2 131 ((z_or v1 (z_shl 1 v4)).toNat)))) v4 q1.2)))))) := by
  show mE z d q_M_laysWays 24 [(2, 86), (0, v1), (1, v2), (9, 0), (0, v4)] [] μ = _
  rw [mE_bk (M := q_M_laysWays) k_M_laysWays.1 k_M_laysWays.2 [4, 20, 24, 68] 400]
  have key : ∀ (C : Nat → List zv → Mu → mR) (E : Nat → List zv → List zv → Mu → mR), mbk C E q_M_laysWays.1 q_M_laysWays.2.1 z q_M_laysWays.2.2.2 [4, 20, 24, 68] 400 (zfind q_M_laysWays.2.2.2 24) [(2, 86), (0, v1), (1, v2), (9, 0), (0, v4)] [] μ = bif decide (12 ≤ v4) then (gI v1 4096 (g_M_laysWays_4 E (zw (v1 + (-1))) (zup μ 131 v1.toNat v2))) else ((C 189 [(0, v1), (0, v4)] μ).bind fun q1 => (bif !decide (q1.1 = 0) then (g_M_laysWays_68 E v1 v2 v4 q1.2) else (gI v4 12 (bif !decide (z_and (q1.2 130 v4.toNat) (z_xor v1 ((-1))) = 0) then (g_M_laysWays_68 E v1 v2 v4 q1.2) else (gI (z_or v1 (z_shl 1 v4)) 4096 (g_M_laysWays_68 E v1 (zwl (v2 + (q1.2 131 ((z_or v1 (z_shl 1 v4)).toNat)))) v4 q1.2)))))) := by
    intro C E
    rfl
  exact key _ _
set_option maxRecDepth 100000 in
theorem e_M_laysWays_68 (z : zZ) (d : Nat) (v1 : Int) (v2 : Int) (v4 : Int) (μ : Mu) : f_M_laysWays_68 z d v1 v2 v4 μ = f_M_laysWays_24 z d v1 v2 (zw (v4 + 1)) μ := by
  show mE z d q_M_laysWays 68 [(2, 86), (0, v1), (1, v2), (9, 0), (0, v4)] [] μ = _
  rw [mE_bk (M := q_M_laysWays) k_M_laysWays.1 k_M_laysWays.2 [4, 20, 24, 68] 400]
  have key : ∀ (C : Nat → List zv → Mu → mR) (E : Nat → List zv → List zv → Mu → mR), mbk C E q_M_laysWays.1 q_M_laysWays.2.1 z q_M_laysWays.2.2.2 [4, 20, 24, 68] 400 (zfind q_M_laysWays.2.2.2 68) [(2, 86), (0, v1), (1, v2), (9, 0), (0, v4)] [] μ = g_M_laysWays_24 E v1 v2 (zw (v4 + 1)) μ := by
    intro C E
    rfl
  exact key _ _
def g_M_ahead_28 (E : Nat → List zv → List zv → Mu → mR) (μ : Mu) : mR := E 28 [(9, 0), (9, 0), (9, 0)] [] μ
noncomputable def f_M_ahead_28 (z : zZ) (d : Nat) (μ : Mu) : mR := g_M_ahead_28 (fun pc ls st μ => mE z d q_M_ahead pc ls st μ) μ
def g_M_ahead_31 (E : Nat → List zv → List zv → Mu → mR) (v100 : Int) (μ : Mu) : mR := E 31 [(9, 0), (9, 0), (9, 0)] [(1, v100)] μ
noncomputable def f_M_ahead_31 (z : zZ) (d : Nat) (v100 : Int) (μ : Mu) : mR := g_M_ahead_31 (fun pc ls st μ => mE z d q_M_ahead pc ls st μ) v100 μ
theorem k_M_ahead : zprK q_M_ahead.2.2.2 = true ∧ zinc q_M_ahead.2.2.2 = true := by decide +kernel
set_option maxRecDepth 100000 in
theorem c_M_ahead (z : zZ) (d : Nat) (v1 : Int) (v2 : Int) (μ : Mu) : mC z (d + 1) 285 [(2, 86), (0, v1), (0, v2)] μ = (mC z d 182 [(0, v1)] μ).bind fun q1 => (bif decide (q1.1 = 0) then (f_M_ahead_28 z d q1.2) else ((mC z d 182 [(0, v2)] q1.2).bind fun q2 => (bif decide (q2.1 = 0) then (f_M_ahead_28 z d q2.2) else (bif decide (v1 = v2) then (f_M_ahead_28 z d q2.2) else ((mC z d 286 [(2, 86), (0, v1), (0, v2)] q2.2).bind fun q3 => (f_M_ahead_31 z d q3.1 q3.2)))))) := by
  rw [mC_succ q_M_ahead rfl rfl rfl]
  rw [mE_bk (M := q_M_ahead) k_M_ahead.1 k_M_ahead.2 [28, 31] 400]
  have key : ∀ (C : Nat → List zv → Mu → mR) (E : Nat → List zv → List zv → Mu → mR), mbk C E q_M_ahead.1 q_M_ahead.2.1 z q_M_ahead.2.2.2 [28, 31] 400 (zfind q_M_ahead.2.2.2 0) (zentry q_M_ahead.2.2.1 [(2, 86), (0, v1), (0, v2)]) [] μ = (C 182 [(0, v1)] μ).bind fun q1 => (bif decide (q1.1 = 0) then (g_M_ahead_28 E q1.2) else ((C 182 [(0, v2)] q1.2).bind fun q2 => (bif decide (q2.1 = 0) then (g_M_ahead_28 E q2.2) else (bif decide (v1 = v2) then (g_M_ahead_28 E q2.2) else ((C 286 [(2, 86), (0, v1), (0, v2)] q2.2).bind fun q3 => (g_M_ahead_31 E q3.1 q3.2)))))) := by
    intro C E
    rfl
  exact key _ _
set_option maxRecDepth 100000 in
theorem e_M_ahead_28 (z : zZ) (d : Nat) (μ : Mu) : f_M_ahead_28 z d μ = f_M_ahead_31 z d ((-1)) μ := by
  show mE z d q_M_ahead 28 [(9, 0), (9, 0), (9, 0)] [] μ = _
  rw [mE_bk (M := q_M_ahead) k_M_ahead.1 k_M_ahead.2 [28, 31] 400]
  have key : ∀ (C : Nat → List zv → Mu → mR) (E : Nat → List zv → List zv → Mu → mR), mbk C E q_M_ahead.1 q_M_ahead.2.1 z q_M_ahead.2.2.2 [28, 31] 400 (zfind q_M_ahead.2.2.2 28) [(9, 0), (9, 0), (9, 0)] [] μ = g_M_ahead_31 E ((-1)) μ := by
    intro C E
    rfl
  exact key _ _
set_option maxRecDepth 100000 in
theorem e_M_ahead_31 (z : zZ) (d : Nat) (v100 : Int) (μ : Mu) : f_M_ahead_31 z d v100 μ = some (v100, μ) := by
  show mE z d q_M_ahead 31 [(9, 0), (9, 0), (9, 0)] [(1, v100)] μ = _
  rw [mE_bk (M := q_M_ahead) k_M_ahead.1 k_M_ahead.2 [28, 31] 400]
  have key : ∀ (C : Nat → List zv → Mu → mR) (E : Nat → List zv → List zv → Mu → mR), mbk C E q_M_ahead.1 q_M_ahead.2.1 z q_M_ahead.2.2.2 [28, 31] 400 (zfind q_M_ahead.2.2.2 31) [(9, 0), (9, 0), (9, 0)] [(1, v100)] μ = some (v100, μ) := by
    intro C E
    rfl
  exact key _ _
theorem k_M_waysWith : zprK q_M_waysWith.2.2.2 = true ∧ zinc q_M_waysWith.2.2.2 = true := by decide +kernel
set_option maxRecDepth 100000 in
theorem c_M_waysWith (z : zZ) (d : Nat) (v1 : Int) (v2 : Int) (μ : Mu) : mC z (d + 1) 286 [(2, 86), (0, v1), (0, v2)] μ = (mC z d 283 [(2, 86)] μ).bind fun q1 => (gI v2 12 (gI v2 12 ((mC z d 284 [(2, 86)] (zup q1.2 130 v2.toNat (z_or (q1.2 130 v2.toNat) (z_shl 1 v1)))).bind fun q2 => (some (q2.1, q2.2))))) := by
  rw [mC_succ q_M_waysWith rfl rfl rfl]
  rw [mE_bk (M := q_M_waysWith) k_M_waysWith.1 k_M_waysWith.2 [] 400]
  have key : ∀ (C : Nat → List zv → Mu → mR) (E : Nat → List zv → List zv → Mu → mR), mbk C E q_M_waysWith.1 q_M_waysWith.2.1 z q_M_waysWith.2.2.2 [] 400 (zfind q_M_waysWith.2.2.2 0) (zentry q_M_waysWith.2.2.1 [(2, 86), (0, v1), (0, v2)]) [] μ = (C 283 [(2, 86)] μ).bind fun q1 => (gI v2 12 (gI v2 12 ((C 284 [(2, 86)] (zup q1.2 130 v2.toNat (z_or (q1.2 130 v2.toNat) (z_shl 1 v1)))).bind fun q2 => (some (q2.1, q2.2))))) := by
    intro C E
    rfl
  exact key _ _
def g_M_skirmish_31 (E : Nat → List zv → List zv → Mu → mR) (v1 : Int) (v2 : Int) (v4 : Int) (v5 : Int) (v7 : Int) (μ : Mu) : mR := E 31 [(2, 86), (0, v1), (1, v2), (9, 0), (0, v4), (1, v5), (9, 0), (0, v7), (9, 0), (9, 0), (9, 0), (9, 0)] [] μ
noncomputable def f_M_skirmish_31 (z : zZ) (d : Nat) (v1 : Int) (v2 : Int) (v4 : Int) (v5 : Int) (v7 : Int) (μ : Mu) : mR := g_M_skirmish_31 (fun pc ls st μ => mE z d q_M_skirmish pc ls st μ) v1 v2 v4 v5 v7 μ
def g_M_skirmish_87 (E : Nat → List zv → List zv → Mu → mR) (v1 : Int) (v2 : Int) (v4 : Int) (v5 : Int) (v7 : Int) (v8 : Int) (μ : Mu) : mR := E 87 [(2, 86), (0, v1), (1, v2), (9, 0), (0, v4), (1, v5), (9, 0), (0, v7), (1, v8), (9, 0), (9, 0), (9, 0)] [] μ
noncomputable def f_M_skirmish_87 (z : zZ) (d : Nat) (v1 : Int) (v2 : Int) (v4 : Int) (v5 : Int) (v7 : Int) (v8 : Int) (μ : Mu) : mR := g_M_skirmish_87 (fun pc ls st μ => mE z d q_M_skirmish pc ls st μ) v1 v2 v4 v5 v7 v8 μ
def g_M_skirmish_92 (E : Nat → List zv → List zv → Mu → mR) (v1 : Int) (v2 : Int) (v4 : Int) (v5 : Int) (v7 : Int) (v100 : Int) (μ : Mu) : mR := E 92 [(2, 86), (0, v1), (1, v2), (9, 0), (0, v4), (1, v5), (9, 0), (0, v7), (9, 0), (9, 0), (9, 0), (9, 0)] [(1, v100)] μ
noncomputable def f_M_skirmish_92 (z : zZ) (d : Nat) (v1 : Int) (v2 : Int) (v4 : Int) (v5 : Int) (v7 : Int) (v100 : Int) (μ : Mu) : mR := g_M_skirmish_92 (fun pc ls st μ => mE z d q_M_skirmish pc ls st μ) v1 v2 v4 v5 v7 v100 μ
def g_M_skirmish_111 (E : Nat → List zv → List zv → Mu → mR) (v1 : Int) (v2 : Int) (v4 : Int) (v5 : Int) (v7 : Int) (μ : Mu) : mR := E 111 [(2, 86), (0, v1), (1, v2), (9, 0), (0, v4), (1, v5), (9, 0), (0, v7), (9, 0), (9, 0), (9, 0), (9, 0)] [] μ
noncomputable def f_M_skirmish_111 (z : zZ) (d : Nat) (v1 : Int) (v2 : Int) (v4 : Int) (v5 : Int) (v7 : Int) (μ : Mu) : mR := g_M_skirmish_111 (fun pc ls st μ => mE z d q_M_skirmish pc ls st μ) v1 v2 v4 v5 v7 μ
def g_M_skirmish_117 (E : Nat → List zv → List zv → Mu → mR) (v1 : Int) (v2 : Int) (v4 : Int) (μ : Mu) : mR := E 117 [(9, 0), (0, v1), (1, v2), (9, 0), (0, v4), (9, 0), (9, 0), (9, 0), (9, 0), (9, 0), (9, 0), (9, 0)] [] μ
noncomputable def f_M_skirmish_117 (z : zZ) (d : Nat) (v1 : Int) (v2 : Int) (v4 : Int) (μ : Mu) : mR := g_M_skirmish_117 (fun pc ls st μ => mE z d q_M_skirmish pc ls st μ) v1 v2 v4 μ
def g_M_skirmish_129 (E : Nat → List zv → List zv → Mu → mR) (v1 : Int) (v2 : Int) (v4 : Int) (μ : Mu) : mR := E 129 [(9, 0), (0, v1), (1, v2), (9, 0), (0, v4), (9, 0), (9, 0), (9, 0), (9, 0), (9, 0), (9, 0), (9, 0)] [] μ
noncomputable def f_M_skirmish_129 (z : zZ) (d : Nat) (v1 : Int) (v2 : Int) (v4 : Int) (μ : Mu) : mR := g_M_skirmish_129 (fun pc ls st μ => mE z d q_M_skirmish pc ls st μ) v1 v2 v4 μ
def g_M_skirmish_142 (E : Nat → List zv → List zv → Mu → mR) (v1 : Int) (v2 : Int) (v4 : Int) (μ : Mu) : mR := E 142 [(9, 0), (0, v1), (1, v2), (9, 0), (0, v4), (9, 0), (9, 0), (9, 0), (9, 0), (9, 0), (9, 0), (9, 0)] [] μ
noncomputable def f_M_skirmish_142 (z : zZ) (d : Nat) (v1 : Int) (v2 : Int) (v4 : Int) (μ : Mu) : mR := g_M_skirmish_142 (fun pc ls st μ => mE z d q_M_skirmish pc ls st μ) v1 v2 v4 μ
def g_M_skirmish_156 (E : Nat → List zv → List zv → Mu → mR) (v2 : Int) (μ : Mu) : mR := E 156 [(9, 0), (9, 0), (1, v2), (9, 0), (9, 0), (9, 0), (9, 0), (9, 0), (9, 0), (9, 0), (9, 0), (9, 0)] [] μ
noncomputable def f_M_skirmish_156 (z : zZ) (d : Nat) (v2 : Int) (μ : Mu) : mR := g_M_skirmish_156 (fun pc ls st μ => mE z d q_M_skirmish pc ls st μ) v2 μ
def g_M_skirmish_157 (E : Nat → List zv → List zv → Mu → mR) (v100 : Int) (μ : Mu) : mR := E 157 [(9, 0), (9, 0), (9, 0), (9, 0), (9, 0), (9, 0), (9, 0), (9, 0), (9, 0), (9, 0), (9, 0), (9, 0)] [(1, v100)] μ
noncomputable def f_M_skirmish_157 (z : zZ) (d : Nat) (v100 : Int) (μ : Mu) : mR := g_M_skirmish_157 (fun pc ls st μ => mE z d q_M_skirmish pc ls st μ) v100 μ
theorem k_M_skirmish : zprK q_M_skirmish.2.2.2 = true ∧ zinc q_M_skirmish.2.2.2 = true := by decide +kernel
set_option maxRecDepth 100000 in
theorem c_M_skirmish (z : zZ) (d : Nat) (v1 : Int) (μ : Mu) : mC z (d + 1) 287 [(2, 86), (0, v1)] μ = (mC z d 183 [(0, v1), (0, 0), (0, 2)] μ).bind fun q1 => (bif !decide (q1.1 = 0) then ((mC z d 283 [(2, 86)] q1.2).bind fun q2 => ((mC z d 284 [(2, 86)] q2.2).bind fun q3 => (f_M_skirmish_31 z d v1 0 ((-1)) q3.1 0 q3.2))) else (some ((-1), q1.2))) := by
  rw [mC_succ q_M_skirmish rfl rfl rfl]
  rw [mE_bk (M := q_M_skirmish) k_M_skirmish.1 k_M_skirmish.2 [31, 87, 92, 111, 117, 129, 142, 156, 157] 400]
  have key : ∀ (C : Nat → List zv → Mu → mR) (E : Nat → List zv → List zv → Mu → mR), mbk C E q_M_skirmish.1 q_M_skirmish.2.1 z q_M_skirmish.2.2.2 [31, 87, 92, 111, 117, 129, 142, 156, 157] 400 (zfind q_M_skirmish.2.2.2 0) (zentry q_M_skirmish.2.2.1 [(2, 86), (0, v1)]) [] μ = (C 183 [(0, v1), (0, 0), (0, 2)] μ).bind fun q1 => (bif !decide (q1.1 = 0) then ((C 283 [(2, 86)] q1.2).bind fun q2 => ((C 284 [(2, 86)] q2.2).bind fun q3 => (g_M_skirmish_31 E v1 0 ((-1)) q3.1 0 q3.2))) else (some ((-1), q1.2))) := by
    intro C E
    rfl
  exact key _ _
set_option maxRecDepth 100000 in
theorem e_M_skirmish_31 (z : zZ) (d : Nat) (v1 : Int) (v2 : Int) (v4 : Int) (v5 : Int) (v7 : Int) (μ : Mu) : f_M_skirmish_31 z d v1 v2 v4 v5 v7 μ = bif decide (144 ≤ v7) then (f_M_skirmish_117 z d v1 v2 v4 μ) else (bif decide (z_div v7 12 < z_rem v7 12) then ((mC z d 286 [(2, 86), (0, z_div v7 12), (0, z_rem v7 12)] μ).bind fun q1 => (bif decide (0 ≤ z_lcmp q1.1 (zwl (v5 - q1.1))) then (f_M_skirmish_87 z d v1 v2 v4 v5 v7 q1.1 q1.2) else (f_M_skirmish_92 z d v1 v2 v4 v5 v7 q1.1 q1.2))) else (f_M_skirmish_111 z d v1 v2 v4 v5 v7 μ)) := by
  show mE z d q_M_skirmish 31 [(2, 86), (0, v1), (1, v2), (9, 0), (0, v4), (1, v5), (9, 0), (0, v7), (9, 0), (9, 0), (9, 0), (9, 0)] [] μ = _
  rw [mE_bk (M := q_M_skirmish) k_M_skirmish.1 k_M_skirmish.2 [31, 87, 92, 111, 117, 129, 142, 156, 157] 400]
  have key : ∀ (C : Nat → List zv → Mu → mR) (E : Nat → List zv → List zv → Mu → mR), mbk C E q_M_skirmish.1 q_M_skirmish.2.1 z q_M_skirmish.2.2.2 [31, 87, 92, 111, 117, 129, 142, 156, 157] 400 (zfind q_M_skirmish.2.2.2 31) [(2, 86), (0, v1), (1, v2), (9, 0), (0, v4), (1, v5), (9, 0), (0, v7), (9, 0), (9, 0), (9, 0), (9, 0)] [] μ = bif decide (144 ≤ v7) then (g_M_skirmish_117 E v1 v2 v4 μ) else (bif decide (z_div v7 12 < z_rem v7 12) then ((C 286 [(2, 86), (0, z_div v7 12), (0, z_rem v7 12)] μ).bind fun q1 => (bif decide (0 ≤ z_lcmp q1.1 (zwl (v5 - q1.1))) then (g_M_skirmish_87 E v1 v2 v4 v5 v7 q1.1 q1.2) else (g_M_skirmish_92 E v1 v2 v4 v5 v7 q1.1 q1.2))) else (g_M_skirmish_111 E v1 v2 v4 v5 v7 μ)) := by
    intro C E
    rfl
  exact key _ _
set_option maxRecDepth 100000 in
theorem e_M_skirmish_117 (z : zZ) (d : Nat) (v1 : Int) (v2 : Int) (v4 : Int) (μ : Mu) : f_M_skirmish_117 z d v1 v2 v4 μ = bif !decide (v4 = (-1)) then (f_M_skirmish_129 z d v1 v2 v4 μ) else (f_M_skirmish_157 z d ((-2)) μ) := by
  show mE z d q_M_skirmish 117 [(9, 0), (0, v1), (1, v2), (9, 0), (0, v4), (9, 0), (9, 0), (9, 0), (9, 0), (9, 0), (9, 0), (9, 0)] [] μ = _
  rw [mE_bk (M := q_M_skirmish) k_M_skirmish.1 k_M_skirmish.2 [31, 87, 92, 111, 117, 129, 142, 156, 157] 400]
  have key : ∀ (C : Nat → List zv → Mu → mR) (E : Nat → List zv → List zv → Mu → mR), mbk C E q_M_skirmish.1 q_M_skirmish.2.1 z q_M_skirmish.2.2.2 [31, 87, 92, 111, 117, 129, 142, 156, 157] 400 (zfind q_M_skirmish.2.2.2 117) [(9, 0), (0, v1), (1, v2), (9, 0), (0, v4), (9, 0), (9, 0), (9, 0), (9, 0), (9, 0), (9, 0), (9, 0)] [] μ = bif !decide (v4 = (-1)) then (g_M_skirmish_129 E v1 v2 v4 μ) else (g_M_skirmish_157 E ((-2)) μ) := by
    intro C E
    rfl
  exact key _ _
set_option maxRecDepth 100000 in
theorem e_M_skirmish_87 (z : zZ) (d : Nat) (v1 : Int) (v2 : Int) (v4 : Int) (v5 : Int) (v7 : Int) (v8 : Int) (μ : Mu) : f_M_skirmish_87 z d v1 v2 v4 v5 v7 v8 μ = f_M_skirmish_92 z d v1 v2 v4 v5 v7 (zwl (v5 - v8)) μ := by
  show mE z d q_M_skirmish 87 [(2, 86), (0, v1), (1, v2), (9, 0), (0, v4), (1, v5), (9, 0), (0, v7), (1, v8), (9, 0), (9, 0), (9, 0)] [] μ = _
  rw [mE_bk (M := q_M_skirmish) k_M_skirmish.1 k_M_skirmish.2 [31, 87, 92, 111, 117, 129, 142, 156, 157] 400]
  have key : ∀ (C : Nat → List zv → Mu → mR) (E : Nat → List zv → List zv → Mu → mR), mbk C E q_M_skirmish.1 q_M_skirmish.2.1 z q_M_skirmish.2.2.2 [31, 87, 92, 111, 117, 129, 142, 156, 157] 400 (zfind q_M_skirmish.2.2.2 87) [(2, 86), (0, v1), (1, v2), (9, 0), (0, v4), (1, v5), (9, 0), (0, v7), (1, v8), (9, 0), (9, 0), (9, 0)] [] μ = g_M_skirmish_92 E v1 v2 v4 v5 v7 (zwl (v5 - v8)) μ := by
    intro C E
    rfl
  exact key _ _
set_option maxRecDepth 100000 in
theorem e_M_skirmish_92 (z : zZ) (d : Nat) (v1 : Int) (v2 : Int) (v4 : Int) (v5 : Int) (v7 : Int) (v100 : Int) (μ : Mu) : f_M_skirmish_92 z d v1 v2 v4 v5 v7 v100 μ = bif decide (0 < z_lcmp v100 v2) then (f_M_skirmish_111 z d v1 v100 v7 v5 v7 μ) else (f_M_skirmish_111 z d v1 v2 v4 v5 v7 μ) := by
  show mE z d q_M_skirmish 92 [(2, 86), (0, v1), (1, v2), (9, 0), (0, v4), (1, v5), (9, 0), (0, v7), (9, 0), (9, 0), (9, 0), (9, 0)] [(1, v100)] μ = _
  rw [mE_bk (M := q_M_skirmish) k_M_skirmish.1 k_M_skirmish.2 [31, 87, 92, 111, 117, 129, 142, 156, 157] 400]
  have key : ∀ (C : Nat → List zv → Mu → mR) (E : Nat → List zv → List zv → Mu → mR), mbk C E q_M_skirmish.1 q_M_skirmish.2.1 z q_M_skirmish.2.2.2 [31, 87, 92, 111, 117, 129, 142, 156, 157] 400 (zfind q_M_skirmish.2.2.2 92) [(2, 86), (0, v1), (1, v2), (9, 0), (0, v4), (1, v5), (9, 0), (0, v7), (9, 0), (9, 0), (9, 0), (9, 0)] [(1, v100)] μ = bif decide (0 < z_lcmp v100 v2) then (g_M_skirmish_111 E v1 v100 v7 v5 v7 μ) else (g_M_skirmish_111 E v1 v2 v4 v5 v7 μ) := by
    intro C E
    rfl
  exact key _ _
set_option maxRecDepth 100000 in
theorem e_M_skirmish_111 (z : zZ) (d : Nat) (v1 : Int) (v2 : Int) (v4 : Int) (v5 : Int) (v7 : Int) (μ : Mu) : f_M_skirmish_111 z d v1 v2 v4 v5 v7 μ = f_M_skirmish_31 z d v1 v2 v4 v5 (zw (v7 + 1)) μ := by
  show mE z d q_M_skirmish 111 [(2, 86), (0, v1), (1, v2), (9, 0), (0, v4), (1, v5), (9, 0), (0, v7), (9, 0), (9, 0), (9, 0), (9, 0)] [] μ = _
  rw [mE_bk (M := q_M_skirmish) k_M_skirmish.1 k_M_skirmish.2 [31, 87, 92, 111, 117, 129, 142, 156, 157] 400]
  have key : ∀ (C : Nat → List zv → Mu → mR) (E : Nat → List zv → List zv → Mu → mR), mbk C E q_M_skirmish.1 q_M_skirmish.2.1 z q_M_skirmish.2.2.2 [31, 87, 92, 111, 117, 129, 142, 156, 157] 400 (zfind q_M_skirmish.2.2.2 111) [(2, 86), (0, v1), (1, v2), (9, 0), (0, v4), (1, v5), (9, 0), (0, v7), (9, 0), (9, 0), (9, 0), (9, 0)] [] μ = g_M_skirmish_31 E v1 v2 v4 v5 (zw (v7 + 1)) μ := by
    intro C E
    rfl
  exact key _ _
set_option maxRecDepth 100000 in
theorem e_M_skirmish_129 (z : zZ) (d : Nat) (v1 : Int) (v2 : Int) (v4 : Int) (μ : Mu) : f_M_skirmish_129 z d v1 v2 v4 μ = bif !decide (v1 = 0) then (f_M_skirmish_142 z d v1 v2 v4 μ) else (f_M_skirmish_157 z d (z_div v4 12) μ) := by
  show mE z d q_M_skirmish 129 [(9, 0), (0, v1), (1, v2), (9, 0), (0, v4), (9, 0), (9, 0), (9, 0), (9, 0), (9, 0), (9, 0), (9, 0)] [] μ = _
  rw [mE_bk (M := q_M_skirmish) k_M_skirmish.1 k_M_skirmish.2 [31, 87, 92, 111, 117, 129, 142, 156, 157] 400]
  have key : ∀ (C : Nat → List zv → Mu → mR) (E : Nat → List zv → List zv → Mu → mR), mbk C E q_M_skirmish.1 q_M_skirmish.2.1 z q_M_skirmish.2.2.2 [31, 87, 92, 111, 117, 129, 142, 156, 157] 400 (zfind q_M_skirmish.2.2.2 129) [(9, 0), (0, v1), (1, v2), (9, 0), (0, v4), (9, 0), (9, 0), (9, 0), (9, 0), (9, 0), (9, 0), (9, 0)] [] μ = bif !decide (v1 = 0) then (g_M_skirmish_142 E v1 v2 v4 μ) else (g_M_skirmish_157 E (z_div v4 12) μ) := by
    intro C E
    rfl
  exact key _ _
set_option maxRecDepth 100000 in
theorem e_M_skirmish_157 (z : zZ) (d : Nat) (v100 : Int) (μ : Mu) : f_M_skirmish_157 z d v100 μ = some (v100, μ) := by
  show mE z d q_M_skirmish 157 [(9, 0), (9, 0), (9, 0), (9, 0), (9, 0), (9, 0), (9, 0), (9, 0), (9, 0), (9, 0), (9, 0), (9, 0)] [(1, v100)] μ = _
  rw [mE_bk (M := q_M_skirmish) k_M_skirmish.1 k_M_skirmish.2 [31, 87, 92, 111, 117, 129, 142, 156, 157] 400]
  have key : ∀ (C : Nat → List zv → Mu → mR) (E : Nat → List zv → List zv → Mu → mR), mbk C E q_M_skirmish.1 q_M_skirmish.2.1 z q_M_skirmish.2.2.2 [31, 87, 92, 111, 117, 129, 142, 156, 157] 400 (zfind q_M_skirmish.2.2.2 157) [(9, 0), (9, 0), (9, 0), (9, 0), (9, 0), (9, 0), (9, 0), (9, 0), (9, 0), (9, 0), (9, 0), (9, 0)] [(1, v100)] μ = some (v100, μ) := by
    intro C E
    rfl
  exact key _ _
set_option maxRecDepth 100000 in
theorem e_M_skirmish_142 (z : zZ) (d : Nat) (v1 : Int) (v2 : Int) (v4 : Int) (μ : Mu) : f_M_skirmish_142 z d v1 v2 v4 μ = bif !decide (v1 = 1) then (f_M_skirmish_156 z d v2 μ) else (f_M_skirmish_157 z d (z_rem v4 12) μ) := by
  show mE z d q_M_skirmish 142 [(9, 0), (0, v1), (1, v2), (9, 0), (0, v4), (9, 0), (9, 0), (9, 0), (9, 0), (9, 0), (9, 0), (9, 0)] [] μ = _
  rw [mE_bk (M := q_M_skirmish) k_M_skirmish.1 k_M_skirmish.2 [31, 87, 92, 111, 117, 129, 142, 156, 157] 400]
  have key : ∀ (C : Nat → List zv → Mu → mR) (E : Nat → List zv → List zv → Mu → mR), mbk C E q_M_skirmish.1 q_M_skirmish.2.1 z q_M_skirmish.2.2.2 [31, 87, 92, 111, 117, 129, 142, 156, 157] 400 (zfind q_M_skirmish.2.2.2 142) [(9, 0), (0, v1), (1, v2), (9, 0), (0, v4), (9, 0), (9, 0), (9, 0), (9, 0), (9, 0), (9, 0), (9, 0)] [] μ = bif !decide (v1 = 1) then (g_M_skirmish_156 E v2 μ) else (g_M_skirmish_157 E (z_rem v4 12) μ) := by
    intro C E
    rfl
  exact key _ _
set_option maxRecDepth 100000 in
theorem e_M_skirmish_156 (z : zZ) (d : Nat) (v2 : Int) (μ : Mu) : f_M_skirmish_156 z d v2 μ = f_M_skirmish_157 z d v2 μ := by
  show mE z d q_M_skirmish 156 [(9, 0), (9, 0), (1, v2), (9, 0), (9, 0), (9, 0), (9, 0), (9, 0), (9, 0), (9, 0), (9, 0), (9, 0)] [] μ = _
  rw [mE_bk (M := q_M_skirmish) k_M_skirmish.1 k_M_skirmish.2 [31, 87, 92, 111, 117, 129, 142, 156, 157] 400]
  have key : ∀ (C : Nat → List zv → Mu → mR) (E : Nat → List zv → List zv → Mu → mR), mbk C E q_M_skirmish.1 q_M_skirmish.2.1 z q_M_skirmish.2.2.2 [31, 87, 92, 111, 117, 129, 142, 156, 157] 400 (zfind q_M_skirmish.2.2.2 156) [(9, 0), (9, 0), (1, v2), (9, 0), (9, 0), (9, 0), (9, 0), (9, 0), (9, 0), (9, 0), (9, 0), (9, 0)] [] μ = g_M_skirmish_157 E v2 μ := by
    intro C E
    rfl
  exact key _ _
theorem k_M_forget : zprK q_M_forget.2.2.2 = true ∧ zinc q_M_forget.2.2.2 = true := by decide +kernel
set_option maxRecDepth 100000 in
theorem c_M_forget (z : zZ) (d : Nat) (μ : Mu) : mC z (d + 1) 288 [(2, 86)] μ = some (μ 86 67, zup μ 86 67 0) := by
  rw [mC_succ q_M_forget rfl rfl rfl]
  rw [mE_bk (M := q_M_forget) k_M_forget.1 k_M_forget.2 [] 400]
  have key : ∀ (C : Nat → List zv → Mu → mR) (E : Nat → List zv → List zv → Mu → mR), mbk C E q_M_forget.1 q_M_forget.2.1 z q_M_forget.2.2.2 [] 400 (zfind q_M_forget.2.2.2 0) (zentry q_M_forget.2.2.1 [(2, 86)]) [] μ = some (μ 86 67, zup μ 86 67 0) := by
    intro C E
    rfl
  exact key _ _
def g_M_soldier_49 (E : Nat → List zv → List zv → Mu → mR) (μ : Mu) : mR := E 49 [(9, 0), (9, 0), (9, 0), (9, 0), (9, 0), (9, 0)] [] μ
noncomputable def f_M_soldier_49 (z : zZ) (d : Nat) (μ : Mu) : mR := g_M_soldier_49 (fun pc ls st μ => mE z d q_M_soldier pc ls st μ) μ
def g_M_soldier_51 (E : Nat → List zv → List zv → Mu → mR) (v1 : Int) (v2 : Int) (v3 : Int) (v4 : Int) (v5 : Int) (μ : Mu) : mR := E 51 [(2, 86), (0, v1), (0, v2), (0, v3), (0, v4), (0, v5)] [] μ
noncomputable def f_M_soldier_51 (z : zZ) (d : Nat) (v1 : Int) (v2 : Int) (v3 : Int) (v4 : Int) (v5 : Int) (μ : Mu) : mR := g_M_soldier_51 (fun pc ls st μ => mE z d q_M_soldier pc ls st μ) v1 v2 v3 v4 v5 μ
theorem k_M_soldier : zprK q_M_soldier.2.2.2 = true ∧ zinc q_M_soldier.2.2.2 = true := by decide +kernel
set_option maxRecDepth 100000 in
theorem c_M_soldier (z : zZ) (d : Nat) (v1 : Int) (v2 : Int) (v3 : Int) (v4 : Int) (v5 : Int) (μ : Mu) : mC z (d + 1) 289 [(2, 86), (0, v1), (0, v2), (0, v3), (0, v4), (0, v5)] μ = (mC z d 183 [(0, v1), (0, 0), (0, 23)] μ).bind fun q1 => (bif decide (q1.1 = 0) then (f_M_soldier_49 z d q1.2) else ((mC z d 182 [(0, v2)] q1.2).bind fun q2 => (bif decide (q2.1 = 0) then (f_M_soldier_49 z d q2.2) else ((mC z d 183 [(0, v3), (0, 0), (0, 15)] q2.2).bind fun q3 => (bif decide (q3.1 = 0) then (f_M_soldier_49 z d q3.2) else ((mC z d 183 [(0, v4), (0, 0), (0, 15)] q3.2).bind fun q4 => (bif decide (q4.1 = 0) then (f_M_soldier_49 z d q4.2) else ((mC z d 183 [(0, v5), (0, 1), (0, 9)] q4.2).bind fun q5 => (bif !decide (q5.1 = 0) then (f_M_soldier_51 z d v1 v2 v3 v4 v5 q5.2) else (f_M_soldier_49 z d q5.2)))))))))) := by
  rw [mC_succ q_M_soldier rfl rfl rfl]
  rw [mE_bk (M := q_M_soldier) k_M_soldier.1 k_M_soldier.2 [49, 51] 400]
  have key : ∀ (C : Nat → List zv → Mu → mR) (E : Nat → List zv → List zv → Mu → mR), mbk C E q_M_soldier.1 q_M_soldier.2.1 z q_M_soldier.2.2.2 [49, 51] 400 (zfind q_M_soldier.2.2.2 0) (zentry q_M_soldier.2.2.1 [(2, 86), (0, v1), (0, v2), (0, v3), (0, v4), (0, v5)]) [] μ = (C 183 [(0, v1), (0, 0), (0, 23)] μ).bind fun q1 => (bif decide (q1.1 = 0) then (g_M_soldier_49 E q1.2) else ((C 182 [(0, v2)] q1.2).bind fun q2 => (bif decide (q2.1 = 0) then (g_M_soldier_49 E q2.2) else ((C 183 [(0, v3), (0, 0), (0, 15)] q2.2).bind fun q3 => (bif decide (q3.1 = 0) then (g_M_soldier_49 E q3.2) else ((C 183 [(0, v4), (0, 0), (0, 15)] q3.2).bind fun q4 => (bif decide (q4.1 = 0) then (g_M_soldier_49 E q4.2) else ((C 183 [(0, v5), (0, 1), (0, 9)] q4.2).bind fun q5 => (bif !decide (q5.1 = 0) then (g_M_soldier_51 E v1 v2 v3 v4 v5 q5.2) else (g_M_soldier_49 E q5.2)))))))))) := by
    intro C E
    rfl
  exact key _ _
set_option maxRecDepth 100000 in
theorem e_M_soldier_49 (z : zZ) (d : Nat) (μ : Mu) : f_M_soldier_49 z d μ = some (0, μ) := by
  show mE z d q_M_soldier 49 [(9, 0), (9, 0), (9, 0), (9, 0), (9, 0), (9, 0)] [] μ = _
  rw [mE_bk (M := q_M_soldier) k_M_soldier.1 k_M_soldier.2 [49, 51] 400]
  have key : ∀ (C : Nat → List zv → Mu → mR) (E : Nat → List zv → List zv → Mu → mR), mbk C E q_M_soldier.1 q_M_soldier.2.1 z q_M_soldier.2.2.2 [49, 51] 400 (zfind q_M_soldier.2.2.2 49) [(9, 0), (9, 0), (9, 0), (9, 0), (9, 0), (9, 0)] [] μ = some (0, μ) := by
    intro C E
    rfl
  exact key _ _
set_option maxRecDepth 100000 in
theorem e_M_soldier_51 (z : zZ) (d : Nat) (v1 : Int) (v2 : Int) (v3 : Int) (v4 : Int) (v5 : Int) (μ : Mu) : f_M_soldier_51 z d v1 v2 v3 v4 v5 μ = gI v1 24 (gI v1 24 (gI v1 24 (gI v1 24 (some (1, zup (zup (zup (zup μ 132 v1.toNat v2) 133 v1.toNat v3) 134 v1.toNat v4) 135 v1.toNat v5))))) := by
  show mE z d q_M_soldier 51 [(2, 86), (0, v1), (0, v2), (0, v3), (0, v4), (0, v5)] [] μ = _
  rw [mE_bk (M := q_M_soldier) k_M_soldier.1 k_M_soldier.2 [49, 51] 400]
  have key : ∀ (C : Nat → List zv → Mu → mR) (E : Nat → List zv → List zv → Mu → mR), mbk C E q_M_soldier.1 q_M_soldier.2.1 z q_M_soldier.2.2.2 [49, 51] 400 (zfind q_M_soldier.2.2.2 51) [(2, 86), (0, v1), (0, v2), (0, v3), (0, v4), (0, v5)] [] μ = gI v1 24 (gI v1 24 (gI v1 24 (gI v1 24 (some (1, zup (zup (zup (zup μ 132 v1.toNat v2) 133 v1.toNat v3) 134 v1.toNat v4) 135 v1.toNat v5))))) := by
    intro C E
    rfl
  exact key _ _
