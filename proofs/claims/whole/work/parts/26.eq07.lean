def g_M_comesTo_16 (E : Nat → List zv → List zv → Mu → mR) (v2 : Int) (v3 : Int) (v4 : Int) (v5 : Int) (μ : Mu) : mR := E 16 [(2, 86), (9, 0), (0, v2), (0, v3), (0, v4), (0, v5), (9, 0), (9, 0)] [] μ
noncomputable def f_M_comesTo_16 (z : zZ) (d : Nat) (v2 : Int) (v3 : Int) (v4 : Int) (v5 : Int) (μ : Mu) : mR := g_M_comesTo_16 (fun pc ls st μ => mE z d q_M_comesTo pc ls st μ) v2 v3 v4 v5 μ
def g_M_comesTo_65 (E : Nat → List zv → List zv → Mu → mR) (v2 : Int) (v3 : Int) (v4 : Int) (v5 : Int) (v6 : Int) (v7 : Int) (μ : Mu) : mR := E 65 [(2, 86), (9, 0), (0, v2), (0, v3), (0, v4), (0, v5), (0, v6), (0, v7)] [] μ
noncomputable def f_M_comesTo_65 (z : zZ) (d : Nat) (v2 : Int) (v3 : Int) (v4 : Int) (v5 : Int) (v6 : Int) (v7 : Int) (μ : Mu) : mR := g_M_comesTo_65 (fun pc ls st μ => mE z d q_M_comesTo pc ls st μ) v2 v3 v4 v5 v6 v7 μ
def g_M_comesTo_87 (E : Nat → List zv → List zv → Mu → mR) (v2 : Int) (v3 : Int) (v4 : Int) (v5 : Int) (v101 : Int) (v102 : Int) (μ : Mu) : mR := E 87 [(2, 86), (9, 0), (0, v2), (0, v3), (0, v4), (0, v5), (9, 0), (9, 0)] [(0, v102), (0, v101), (2, 109)] μ
noncomputable def f_M_comesTo_87 (z : zZ) (d : Nat) (v2 : Int) (v3 : Int) (v4 : Int) (v5 : Int) (v101 : Int) (v102 : Int) (μ : Mu) : mR := g_M_comesTo_87 (fun pc ls st μ => mE z d q_M_comesTo pc ls st μ) v2 v3 v4 v5 v101 v102 μ
def g_M_comesTo_95 (E : Nat → List zv → List zv → Mu → mR) (v2 : Int) (v3 : Int) (v4 : Int) (v5 : Int) (v6 : Int) (v7 : Int) (μ : Mu) : mR := E 95 [(2, 86), (9, 0), (0, v2), (0, v3), (0, v4), (0, v5), (0, v6), (0, v7)] [] μ
noncomputable def f_M_comesTo_95 (z : zZ) (d : Nat) (v2 : Int) (v3 : Int) (v4 : Int) (v5 : Int) (v6 : Int) (v7 : Int) (μ : Mu) : mR := g_M_comesTo_95 (fun pc ls st μ => mE z d q_M_comesTo pc ls st μ) v2 v3 v4 v5 v6 v7 μ
def g_M_comesTo_137 (E : Nat → List zv → List zv → Mu → mR) (v2 : Int) (v3 : Int) (v4 : Int) (v5 : Int) (v6 : Int) (v7 : Int) (μ : Mu) : mR := E 137 [(2, 86), (9, 0), (0, v2), (0, v3), (0, v4), (0, v5), (0, v6), (0, v7)] [] μ
noncomputable def f_M_comesTo_137 (z : zZ) (d : Nat) (v2 : Int) (v3 : Int) (v4 : Int) (v5 : Int) (v6 : Int) (v7 : Int) (μ : Mu) : mR := g_M_comesTo_137 (fun pc ls st μ => mE z d q_M_comesTo pc ls st μ) v2 v3 v4 v5 v6 v7 μ
def g_M_comesTo_157 (E : Nat → List zv → List zv → Mu → mR) (v2 : Int) (v3 : Int) (v4 : Int) (v5 : Int) (v7 : Int) (v100 : Int) (v101 : Int) (μ : Mu) : mR := E 157 [(2, 86), (9, 0), (0, v2), (0, v3), (0, v4), (0, v5), (9, 0), (0, v7)] [(0, v101), (0, v100)] μ
noncomputable def f_M_comesTo_157 (z : zZ) (d : Nat) (v2 : Int) (v3 : Int) (v4 : Int) (v5 : Int) (v7 : Int) (v100 : Int) (v101 : Int) (μ : Mu) : mR := g_M_comesTo_157 (fun pc ls st μ => mE z d q_M_comesTo pc ls st μ) v2 v3 v4 v5 v7 v100 v101 μ
def g_M_comesTo_194 (E : Nat → List zv → List zv → Mu → mR) (v2 : Int) (v3 : Int) (v4 : Int) (v5 : Int) (v6 : Int) (μ : Mu) : mR := E 194 [(2, 86), (9, 0), (0, v2), (0, v3), (0, v4), (0, v5), (0, v6), (9, 0)] [] μ
noncomputable def f_M_comesTo_194 (z : zZ) (d : Nat) (v2 : Int) (v3 : Int) (v4 : Int) (v5 : Int) (v6 : Int) (μ : Mu) : mR := g_M_comesTo_194 (fun pc ls st μ => mE z d q_M_comesTo pc ls st μ) v2 v3 v4 v5 v6 μ
def g_M_comesTo_205 (E : Nat → List zv → List zv → Mu → mR) (v2 : Int) (v3 : Int) (v4 : Int) (v5 : Int) (v6 : Int) (μ : Mu) : mR := E 205 [(2, 86), (9, 0), (0, v2), (0, v3), (0, v4), (0, v5), (0, v6), (9, 0)] [] μ
noncomputable def f_M_comesTo_205 (z : zZ) (d : Nat) (v2 : Int) (v3 : Int) (v4 : Int) (v5 : Int) (v6 : Int) (μ : Mu) : mR := g_M_comesTo_205 (fun pc ls st μ => mE z d q_M_comesTo pc ls st μ) v2 v3 v4 v5 v6 μ
def g_M_comesTo_232 (E : Nat → List zv → List zv → Mu → mR) (v2 : Int) (v3 : Int) (v4 : Int) (v5 : Int) (μ : Mu) : mR := E 232 [(2, 86), (9, 0), (0, v2), (0, v3), (0, v4), (0, v5), (9, 0), (9, 0)] [] μ
noncomputable def f_M_comesTo_232 (z : zZ) (d : Nat) (v2 : Int) (v3 : Int) (v4 : Int) (v5 : Int) (μ : Mu) : mR := g_M_comesTo_232 (fun pc ls st μ => mE z d q_M_comesTo pc ls st μ) v2 v3 v4 v5 μ
theorem k_M_comesTo : zprK q_M_comesTo.2.2.2 = true ∧ zinc q_M_comesTo.2.2.2 = true := by decide +kernel
set_option maxRecDepth 100000 in
theorem c_M_comesTo (z : zZ) (d : Nat) (v1 : Int) (v2 : Int) (μ : Mu) : mC z (d + 1) 249 [(2, 86), (0, v1), (0, v2)] μ = f_M_comesTo_16 z d v2 0 (zw (220 * (z_div v1 220))) v1 μ := by
  rw [mC_succ q_M_comesTo rfl rfl rfl]
  rw [mE_bk (M := q_M_comesTo) k_M_comesTo.1 k_M_comesTo.2 [16, 65, 87, 95, 137, 157, 194, 205, 232] 400]
  have key : ∀ (C : Nat → List zv → Mu → mR) (E : Nat → List zv → List zv → Mu → mR), mbk C E q_M_comesTo.1 q_M_comesTo.2.1 z q_M_comesTo.2.2.2 [16, 65, 87, 95, 137, 157, 194, 205, 232] 400 (zfind q_M_comesTo.2.2.2 0) (zentry q_M_comesTo.2.2.1 [(2, 86), (0, v1), (0, v2)]) [] μ = g_M_comesTo_16 E v2 0 (zw (220 * (z_div v1 220))) v1 μ := by
    intro C E
    rfl
  exact key _ _
set_option maxRecDepth 100000 in
theorem e_M_comesTo_16 (z : zZ) (d : Nat) (v2 : Int) (v3 : Int) (v4 : Int) (v5 : Int) (μ : Mu) : f_M_comesTo_16 z d v2 v3 v4 v5 μ = bif decide (v2 ≤ v5) then (some (μ 109 0, μ)) else (gI v5 220 (gI v5 220 (bif decide (z_div (μ 104 v5.toNat) 1048576 = 0) then (f_M_comesTo_65 z d v2 v3 v4 (zw (v5 + 1)) (z_div (μ 104 v5.toNat) 1048576) (z_rem (μ 104 v5.toNat) 1048576) μ) else (bif !decide (z_div (μ 104 v5.toNat) 1048576 = 1) then (f_M_comesTo_95 z d v2 v3 v4 (zw (v5 + 1)) (z_div (μ 104 v5.toNat) 1048576) (z_rem (μ 104 v5.toNat) 1048576) μ) else (f_M_comesTo_65 z d v2 v3 v4 (zw (v5 + 1)) (z_div (μ 104 v5.toNat) 1048576) (z_rem (μ 104 v5.toNat) 1048576) μ))))) := by
  show mE z d q_M_comesTo 16 [(2, 86), (9, 0), (0, v2), (0, v3), (0, v4), (0, v5), (9, 0), (9, 0)] [] μ = _
  rw [mE_bk (M := q_M_comesTo) k_M_comesTo.1 k_M_comesTo.2 [16, 65, 87, 95, 137, 157, 194, 205, 232] 400]
  have key : ∀ (C : Nat → List zv → Mu → mR) (E : Nat → List zv → List zv → Mu → mR), mbk C E q_M_comesTo.1 q_M_comesTo.2.1 z q_M_comesTo.2.2.2 [16, 65, 87, 95, 137, 157, 194, 205, 232] 400 (zfind q_M_comesTo.2.2.2 16) [(2, 86), (9, 0), (0, v2), (0, v3), (0, v4), (0, v5), (9, 0), (9, 0)] [] μ = bif decide (v2 ≤ v5) then (some (μ 109 0, μ)) else (gI v5 220 (gI v5 220 (bif decide (z_div (μ 104 v5.toNat) 1048576 = 0) then (g_M_comesTo_65 E v2 v3 v4 (zw (v5 + 1)) (z_div (μ 104 v5.toNat) 1048576) (z_rem (μ 104 v5.toNat) 1048576) μ) else (bif !decide (z_div (μ 104 v5.toNat) 1048576 = 1) then (g_M_comesTo_95 E v2 v3 v4 (zw (v5 + 1)) (z_div (μ 104 v5.toNat) 1048576) (z_rem (μ 104 v5.toNat) 1048576) μ) else (g_M_comesTo_65 E v2 v3 v4 (zw (v5 + 1)) (z_div (μ 104 v5.toNat) 1048576) (z_rem (μ 104 v5.toNat) 1048576) μ))))) := by
    intro C E
    rfl
  exact key _ _
set_option maxRecDepth 100000 in
theorem e_M_comesTo_65 (z : zZ) (d : Nat) (v2 : Int) (v3 : Int) (v4 : Int) (v5 : Int) (v6 : Int) (v7 : Int) (μ : Mu) : f_M_comesTo_65 z d v2 v3 v4 v5 v6 v7 μ = bif !decide (v6 = 0) then (gI v7 10 (f_M_comesTo_87 z d v2 v3 v4 v5 v3 (μ 110 v7.toNat) μ)) else (f_M_comesTo_87 z d v2 v3 v4 v5 v3 v7 μ) := by
  show mE z d q_M_comesTo 65 [(2, 86), (9, 0), (0, v2), (0, v3), (0, v4), (0, v5), (0, v6), (0, v7)] [] μ = _
  rw [mE_bk (M := q_M_comesTo) k_M_comesTo.1 k_M_comesTo.2 [16, 65, 87, 95, 137, 157, 194, 205, 232] 400]
  have key : ∀ (C : Nat → List zv → Mu → mR) (E : Nat → List zv → List zv → Mu → mR), mbk C E q_M_comesTo.1 q_M_comesTo.2.1 z q_M_comesTo.2.2.2 [16, 65, 87, 95, 137, 157, 194, 205, 232] 400 (zfind q_M_comesTo.2.2.2 65) [(2, 86), (9, 0), (0, v2), (0, v3), (0, v4), (0, v5), (0, v6), (0, v7)] [] μ = bif !decide (v6 = 0) then (gI v7 10 (g_M_comesTo_87 E v2 v3 v4 v5 v3 (μ 110 v7.toNat) μ)) else (g_M_comesTo_87 E v2 v3 v4 v5 v3 v7 μ) := by
    intro C E
    rfl
  exact key _ _
set_option maxRecDepth 100000 in
theorem e_M_comesTo_95 (z : zZ) (d : Nat) (v2 : Int) (v3 : Int) (v4 : Int) (v5 : Int) (v6 : Int) (v7 : Int) (μ : Mu) : f_M_comesTo_95 z d v2 v3 v4 v5 v6 v7 μ = bif !decide (v6 = 10) then (bif decide (v6 = 11) then (f_M_comesTo_137 z d v2 v3 v4 v5 v6 v7 μ) else (bif !decide (v6 = 12) then (bif decide (v6 = 5) then (f_M_comesTo_194 z d v2 (zw (v3 - 1)) v4 v5 v6 μ) else (bif !decide (v6 = 6) then (f_M_comesTo_205 z d v2 (zw (v3 - 1)) v4 v5 v6 μ) else (f_M_comesTo_194 z d v2 (zw (v3 - 1)) v4 v5 v6 μ))) else (f_M_comesTo_137 z d v2 v3 v4 v5 v6 v7 μ))) else (gI (zw (v3 - 1)) 220 (gI (zw (v3 - 1)) 220 (f_M_comesTo_232 z d v2 v3 v4 v5 (zup μ 109 ((zw (v3 - 1)).toNat) (zw (1 - (μ 109 ((zw (v3 - 1)).toNat)))))))) := by
  show mE z d q_M_comesTo 95 [(2, 86), (9, 0), (0, v2), (0, v3), (0, v4), (0, v5), (0, v6), (0, v7)] [] μ = _
  rw [mE_bk (M := q_M_comesTo) k_M_comesTo.1 k_M_comesTo.2 [16, 65, 87, 95, 137, 157, 194, 205, 232] 400]
  have key : ∀ (C : Nat → List zv → Mu → mR) (E : Nat → List zv → List zv → Mu → mR), mbk C E q_M_comesTo.1 q_M_comesTo.2.1 z q_M_comesTo.2.2.2 [16, 65, 87, 95, 137, 157, 194, 205, 232] 400 (zfind q_M_comesTo.2.2.2 95) [(2, 86), (9, 0), (0, v2), (0, v3), (0, v4), (0, v5), (0, v6), (0, v7)] [] μ = bif !decide (v6 = 10) then (bif decide (v6 = 11) then (g_M_comesTo_137 E v2 v3 v4 v5 v6 v7 μ) else (bif !decide (v6 = 12) then (bif decide (v6 = 5) then (g_M_comesTo_194 E v2 (zw (v3 - 1)) v4 v5 v6 μ) else (bif !decide (v6 = 6) then (g_M_comesTo_205 E v2 (zw (v3 - 1)) v4 v5 v6 μ) else (g_M_comesTo_194 E v2 (zw (v3 - 1)) v4 v5 v6 μ))) else (g_M_comesTo_137 E v2 v3 v4 v5 v6 v7 μ))) else (gI (zw (v3 - 1)) 220 (gI (zw (v3 - 1)) 220 (g_M_comesTo_232 E v2 v3 v4 v5 (zup μ 109 ((zw (v3 - 1)).toNat) (zw (1 - (μ 109 ((zw (v3 - 1)).toNat)))))))) := by
    intro C E
    rfl
  exact key _ _
set_option maxRecDepth 100000 in
theorem e_M_comesTo_87 (z : zZ) (d : Nat) (v2 : Int) (v3 : Int) (v4 : Int) (v5 : Int) (v101 : Int) (v102 : Int) (μ : Mu) : f_M_comesTo_87 z d v2 v3 v4 v5 v101 v102 μ = gI v101 220 (f_M_comesTo_232 z d v2 (zw (v3 + 1)) v4 v5 (zup μ 109 v101.toNat v102)) := by
  show mE z d q_M_comesTo 87 [(2, 86), (9, 0), (0, v2), (0, v3), (0, v4), (0, v5), (9, 0), (9, 0)] [(0, v102), (0, v101), (2, 109)] μ = _
  rw [mE_bk (M := q_M_comesTo) k_M_comesTo.1 k_M_comesTo.2 [16, 65, 87, 95, 137, 157, 194, 205, 232] 400]
  have key : ∀ (C : Nat → List zv → Mu → mR) (E : Nat → List zv → List zv → Mu → mR), mbk C E q_M_comesTo.1 q_M_comesTo.2.1 z q_M_comesTo.2.2.2 [16, 65, 87, 95, 137, 157, 194, 205, 232] 400 (zfind q_M_comesTo.2.2.2 87) [(2, 86), (9, 0), (0, v2), (0, v3), (0, v4), (0, v5), (9, 0), (9, 0)] [(0, v102), (0, v101), (2, 109)] μ = gI v101 220 (g_M_comesTo_232 E v2 (zw (v3 + 1)) v4 v5 (zup μ 109 v101.toNat v102)) := by
    intro C E
    rfl
  exact key _ _
set_option maxRecDepth 100000 in
theorem e_M_comesTo_137 (z : zZ) (d : Nat) (v2 : Int) (v3 : Int) (v4 : Int) (v5 : Int) (v6 : Int) (v7 : Int) (μ : Mu) : f_M_comesTo_137 z d v2 v3 v4 v5 v6 v7 μ = gI (zw (v3 - 1)) 220 (bif !decide (v6 = 12) then (f_M_comesTo_157 z d v2 v3 v4 v5 v7 (μ 109 ((zw (v3 - 1)).toNat)) 0 μ) else (f_M_comesTo_157 z d v2 v3 v4 v5 v7 (μ 109 ((zw (v3 - 1)).toNat)) 1 μ)) := by
  show mE z d q_M_comesTo 137 [(2, 86), (9, 0), (0, v2), (0, v3), (0, v4), (0, v5), (0, v6), (0, v7)] [] μ = _
  rw [mE_bk (M := q_M_comesTo) k_M_comesTo.1 k_M_comesTo.2 [16, 65, 87, 95, 137, 157, 194, 205, 232] 400]
  have key : ∀ (C : Nat → List zv → Mu → mR) (E : Nat → List zv → List zv → Mu → mR), mbk C E q_M_comesTo.1 q_M_comesTo.2.1 z q_M_comesTo.2.2.2 [16, 65, 87, 95, 137, 157, 194, 205, 232] 400 (zfind q_M_comesTo.2.2.2 137) [(2, 86), (9, 0), (0, v2), (0, v3), (0, v4), (0, v5), (0, v6), (0, v7)] [] μ = gI (zw (v3 - 1)) 220 (bif !decide (v6 = 12) then (g_M_comesTo_157 E v2 v3 v4 v5 v7 (μ 109 ((zw (v3 - 1)).toNat)) 0 μ) else (g_M_comesTo_157 E v2 v3 v4 v5 v7 (μ 109 ((zw (v3 - 1)).toNat)) 1 μ)) := by
    intro C E
    rfl
  exact key _ _
set_option maxRecDepth 100000 in
theorem e_M_comesTo_194 (z : zZ) (d : Nat) (v2 : Int) (v3 : Int) (v4 : Int) (v5 : Int) (v6 : Int) (μ : Mu) : f_M_comesTo_194 z d v2 v3 v4 v5 v6 μ = gI v3 220 (bif !decide (μ 109 v3.toNat = 0) then (f_M_comesTo_205 z d v2 v3 v4 v5 v6 μ) else (some (0, μ))) := by
  show mE z d q_M_comesTo 194 [(2, 86), (9, 0), (0, v2), (0, v3), (0, v4), (0, v5), (0, v6), (9, 0)] [] μ = _
  rw [mE_bk (M := q_M_comesTo) k_M_comesTo.1 k_M_comesTo.2 [16, 65, 87, 95, 137, 157, 194, 205, 232] 400]
  have key : ∀ (C : Nat → List zv → Mu → mR) (E : Nat → List zv → List zv → Mu → mR), mbk C E q_M_comesTo.1 q_M_comesTo.2.1 z q_M_comesTo.2.2.2 [16, 65, 87, 95, 137, 157, 194, 205, 232] 400 (zfind q_M_comesTo.2.2.2 194) [(2, 86), (9, 0), (0, v2), (0, v3), (0, v4), (0, v5), (0, v6), (9, 0)] [] μ = gI v3 220 (bif !decide (μ 109 v3.toNat = 0) then (g_M_comesTo_205 E v2 v3 v4 v5 v6 μ) else (some (0, μ))) := by
    intro C E
    rfl
  exact key _ _
set_option maxRecDepth 100000 in
theorem e_M_comesTo_205 (z : zZ) (d : Nat) (v2 : Int) (v3 : Int) (v4 : Int) (v5 : Int) (v6 : Int) (μ : Mu) : f_M_comesTo_205 z d v2 v3 v4 v5 v6 μ = gI (zw (v3 - 1)) 220 (gI v3 220 ((mC z d 250 [(0, v6), (0, μ 109 ((zw (v3 - 1)).toNat)), (0, μ 109 v3.toNat)] μ).bind fun q1 => (gI (zw (v3 - 1)) 220 (f_M_comesTo_232 z d v2 v3 v4 v5 (zup q1.2 109 ((zw (v3 - 1)).toNat) q1.1))))) := by
  show mE z d q_M_comesTo 205 [(2, 86), (9, 0), (0, v2), (0, v3), (0, v4), (0, v5), (0, v6), (9, 0)] [] μ = _
  rw [mE_bk (M := q_M_comesTo) k_M_comesTo.1 k_M_comesTo.2 [16, 65, 87, 95, 137, 157, 194, 205, 232] 400]
  have key : ∀ (C : Nat → List zv → Mu → mR) (E : Nat → List zv → List zv → Mu → mR), mbk C E q_M_comesTo.1 q_M_comesTo.2.1 z q_M_comesTo.2.2.2 [16, 65, 87, 95, 137, 157, 194, 205, 232] 400 (zfind q_M_comesTo.2.2.2 205) [(2, 86), (9, 0), (0, v2), (0, v3), (0, v4), (0, v5), (0, v6), (9, 0)] [] μ = gI (zw (v3 - 1)) 220 (gI v3 220 ((C 250 [(0, v6), (0, μ 109 ((zw (v3 - 1)).toNat)), (0, μ 109 v3.toNat)] μ).bind fun q1 => (gI (zw (v3 - 1)) 220 (g_M_comesTo_232 E v2 v3 v4 v5 (zup q1.2 109 ((zw (v3 - 1)).toNat) q1.1))))) := by
    intro C E
    rfl
  exact key _ _
set_option maxRecDepth 100000 in
theorem e_M_comesTo_232 (z : zZ) (d : Nat) (v2 : Int) (v3 : Int) (v4 : Int) (v5 : Int) (μ : Mu) : f_M_comesTo_232 z d v2 v3 v4 v5 μ = f_M_comesTo_16 z d v2 v3 v4 v5 μ := by
  show mE z d q_M_comesTo 232 [(2, 86), (9, 0), (0, v2), (0, v3), (0, v4), (0, v5), (9, 0), (9, 0)] [] μ = _
  rw [mE_bk (M := q_M_comesTo) k_M_comesTo.1 k_M_comesTo.2 [16, 65, 87, 95, 137, 157, 194, 205, 232] 400]
  have key : ∀ (C : Nat → List zv → Mu → mR) (E : Nat → List zv → List zv → Mu → mR), mbk C E q_M_comesTo.1 q_M_comesTo.2.1 z q_M_comesTo.2.2.2 [16, 65, 87, 95, 137, 157, 194, 205, 232] 400 (zfind q_M_comesTo.2.2.2 232) [(2, 86), (9, 0), (0, v2), (0, v3), (0, v4), (0, v5), (9, 0), (9, 0)] [] μ = g_M_comesTo_16 E v2 v3 v4 v5 μ := by
    intro C E
    rfl
  exact key _ _
set_option maxRecDepth 100000 in
theorem e_M_comesTo_157 (z : zZ) (d : Nat) (v2 : Int) (v3 : Int) (v4 : Int) (v5 : Int) (v7 : Int) (v100 : Int) (v101 : Int) (μ : Mu) : f_M_comesTo_157 z d v2 v3 v4 v5 v7 v100 v101 μ = bif !decide (v100 = v101) then (f_M_comesTo_232 z d v2 (zw (v3 - 1)) v4 v5 μ) else (f_M_comesTo_232 z d v2 v3 v4 (zw (v4 + v7)) μ) := by
  show mE z d q_M_comesTo 157 [(2, 86), (9, 0), (0, v2), (0, v3), (0, v4), (0, v5), (9, 0), (0, v7)] [(0, v101), (0, v100)] μ = _
  rw [mE_bk (M := q_M_comesTo) k_M_comesTo.1 k_M_comesTo.2 [16, 65, 87, 95, 137, 157, 194, 205, 232] 400]
  have key : ∀ (C : Nat → List zv → Mu → mR) (E : Nat → List zv → List zv → Mu → mR), mbk C E q_M_comesTo.1 q_M_comesTo.2.1 z q_M_comesTo.2.2.2 [16, 65, 87, 95, 137, 157, 194, 205, 232] 400 (zfind q_M_comesTo.2.2.2 157) [(2, 86), (9, 0), (0, v2), (0, v3), (0, v4), (0, v5), (9, 0), (0, v7)] [(0, v101), (0, v100)] μ = bif !decide (v100 = v101) then (g_M_comesTo_232 E v2 (zw (v3 - 1)) v4 v5 μ) else (g_M_comesTo_232 E v2 v3 v4 (zw (v4 + v7)) μ) := by
    intro C E
    rfl
  exact key _ _
def g_M_reckon_44 (E : Nat → List zv → List zv → Mu → mR) (v1 : Int) (v2 : Int) (μ : Mu) : mR := E 44 [(9, 0), (0, v1), (0, v2)] [] μ
noncomputable def f_M_reckon_44 (z : zZ) (d : Nat) (v1 : Int) (v2 : Int) (μ : Mu) : mR := g_M_reckon_44 (fun pc ls st μ => mE z d q_M_reckon pc ls st μ) v1 v2 μ
def g_M_reckon_48 (E : Nat → List zv → List zv → Mu → mR) (v1 : Int) (v2 : Int) (μ : Mu) : mR := E 48 [(9, 0), (0, v1), (0, v2)] [] μ
noncomputable def f_M_reckon_48 (z : zZ) (d : Nat) (v1 : Int) (v2 : Int) (μ : Mu) : mR := g_M_reckon_48 (fun pc ls st μ => mE z d q_M_reckon pc ls st μ) v1 v2 μ
def g_M_reckon_52 (E : Nat → List zv → List zv → Mu → mR) (v1 : Int) (v2 : Int) (μ : Mu) : mR := E 52 [(9, 0), (0, v1), (0, v2)] [] μ
noncomputable def f_M_reckon_52 (z : zZ) (d : Nat) (v1 : Int) (v2 : Int) (μ : Mu) : mR := g_M_reckon_52 (fun pc ls st μ => mE z d q_M_reckon pc ls st μ) v1 v2 μ
def g_M_reckon_56 (E : Nat → List zv → List zv → Mu → mR) (v1 : Int) (v2 : Int) (μ : Mu) : mR := E 56 [(9, 0), (0, v1), (0, v2)] [] μ
noncomputable def f_M_reckon_56 (z : zZ) (d : Nat) (v1 : Int) (v2 : Int) (μ : Mu) : mR := g_M_reckon_56 (fun pc ls st μ => mE z d q_M_reckon pc ls st μ) v1 v2 μ
def g_M_reckon_60 (E : Nat → List zv → List zv → Mu → mR) (v1 : Int) (v2 : Int) (μ : Mu) : mR := E 60 [(9, 0), (0, v1), (0, v2)] [] μ
noncomputable def f_M_reckon_60 (z : zZ) (d : Nat) (v1 : Int) (v2 : Int) (μ : Mu) : mR := g_M_reckon_60 (fun pc ls st μ => mE z d q_M_reckon pc ls st μ) v1 v2 μ
def g_M_reckon_64 (E : Nat → List zv → List zv → Mu → mR) (v1 : Int) (v2 : Int) (μ : Mu) : mR := E 64 [(9, 0), (0, v1), (0, v2)] [] μ
noncomputable def f_M_reckon_64 (z : zZ) (d : Nat) (v1 : Int) (v2 : Int) (μ : Mu) : mR := g_M_reckon_64 (fun pc ls st μ => mE z d q_M_reckon pc ls st μ) v1 v2 μ
def g_M_reckon_74 (E : Nat → List zv → List zv → Mu → mR) (v100 : Int) (μ : Mu) : mR := E 74 [(9, 0), (9, 0), (9, 0)] [(0, v100)] μ
noncomputable def f_M_reckon_74 (z : zZ) (d : Nat) (v100 : Int) (μ : Mu) : mR := g_M_reckon_74 (fun pc ls st μ => mE z d q_M_reckon pc ls st μ) v100 μ
def g_M_reckon_75 (E : Nat → List zv → List zv → Mu → mR) (v1 : Int) (v2 : Int) (μ : Mu) : mR := E 75 [(9, 0), (0, v1), (0, v2)] [] μ
noncomputable def f_M_reckon_75 (z : zZ) (d : Nat) (v1 : Int) (v2 : Int) (μ : Mu) : mR := g_M_reckon_75 (fun pc ls st μ => mE z d q_M_reckon pc ls st μ) v1 v2 μ
def g_M_reckon_85 (E : Nat → List zv → List zv → Mu → mR) (v100 : Int) (μ : Mu) : mR := E 85 [(9, 0), (9, 0), (9, 0)] [(0, v100)] μ
noncomputable def f_M_reckon_85 (z : zZ) (d : Nat) (v100 : Int) (μ : Mu) : mR := g_M_reckon_85 (fun pc ls st μ => mE z d q_M_reckon pc ls st μ) v100 μ
def g_M_reckon_86 (E : Nat → List zv → List zv → Mu → mR) (v1 : Int) (v2 : Int) (μ : Mu) : mR := E 86 [(9, 0), (0, v1), (0, v2)] [] μ
noncomputable def f_M_reckon_86 (z : zZ) (d : Nat) (v1 : Int) (v2 : Int) (μ : Mu) : mR := g_M_reckon_86 (fun pc ls st μ => mE z d q_M_reckon pc ls st μ) v1 v2 μ
def g_M_reckon_96 (E : Nat → List zv → List zv → Mu → mR) (v100 : Int) (μ : Mu) : mR := E 96 [(9, 0), (9, 0), (9, 0)] [(0, v100)] μ
noncomputable def f_M_reckon_96 (z : zZ) (d : Nat) (v100 : Int) (μ : Mu) : mR := g_M_reckon_96 (fun pc ls st μ => mE z d q_M_reckon pc ls st μ) v100 μ
theorem k_M_reckon : zprK q_M_reckon.2.2.2 = true ∧ zinc q_M_reckon.2.2.2 = true := by decide +kernel
set_option maxRecDepth 100000 in
theorem c_M_reckon (z : zZ) (d : Nat) (v0 : Int) (v1 : Int) (v2 : Int) (μ : Mu) : mC z (d + 1) 250 [(0, v0), (0, v1), (0, v2)] μ = bif decide (v0 = 2) then (f_M_reckon_44 z d v1 v2 μ) else bif decide (v0 = 3) then (f_M_reckon_48 z d v1 v2 μ) else bif decide (v0 = 4) then (f_M_reckon_52 z d v1 v2 μ) else bif decide (v0 = 5) then (f_M_reckon_56 z d v1 v2 μ) else bif decide (v0 = 6) then (f_M_reckon_60 z d v1 v2 μ) else bif decide (v0 = 7) then (f_M_reckon_64 z d v1 v2 μ) else bif decide (v0 = 8) then (f_M_reckon_75 z d v1 v2 μ) else (f_M_reckon_86 z d v1 v2 μ) := by
  rw [mC_succ q_M_reckon rfl rfl rfl]
  rw [mE_bk (M := q_M_reckon) k_M_reckon.1 k_M_reckon.2 [44, 48, 52, 56, 60, 64, 74, 75, 85, 86, 96] 400]
  have key : ∀ (C : Nat → List zv → Mu → mR) (E : Nat → List zv → List zv → Mu → mR), mbk C E q_M_reckon.1 q_M_reckon.2.1 z q_M_reckon.2.2.2 [44, 48, 52, 56, 60, 64, 74, 75, 85, 86, 96] 400 (zfind q_M_reckon.2.2.2 0) (zentry q_M_reckon.2.2.1 [(0, v0), (0, v1), (0, v2)]) [] μ = bif decide (v0 = 2) then (g_M_reckon_44 E v1 v2 μ) else bif decide (v0 = 3) then (g_M_reckon_48 E v1 v2 μ) else bif decide (v0 = 4) then (g_M_reckon_52 E v1 v2 μ) else bif decide (v0 = 5) then (g_M_reckon_56 E v1 v2 μ) else bif decide (v0 = 6) then (g_M_reckon_60 E v1 v2 μ) else bif decide (v0 = 7) then (g_M_reckon_64 E v1 v2 μ) else bif decide (v0 = 8) then (g_M_reckon_75 E v1 v2 μ) else (g_M_reckon_86 E v1 v2 μ) := by
    intro C E
    rfl
  exact key _ _
set_option maxRecDepth 100000 in
theorem e_M_reckon_44 (z : zZ) (d : Nat) (v1 : Int) (v2 : Int) (μ : Mu) : f_M_reckon_44 z d v1 v2 μ = some (zw (v1 + v2), μ) := by
  show mE z d q_M_reckon 44 [(9, 0), (0, v1), (0, v2)] [] μ = _
  rw [mE_bk (M := q_M_reckon) k_M_reckon.1 k_M_reckon.2 [44, 48, 52, 56, 60, 64, 74, 75, 85, 86, 96] 400]
  have key : ∀ (C : Nat → List zv → Mu → mR) (E : Nat → List zv → List zv → Mu → mR), mbk C E q_M_reckon.1 q_M_reckon.2.1 z q_M_reckon.2.2.2 [44, 48, 52, 56, 60, 64, 74, 75, 85, 86, 96] 400 (zfind q_M_reckon.2.2.2 44) [(9, 0), (0, v1), (0, v2)] [] μ = some (zw (v1 + v2), μ) := by
    intro C E
    rfl
  exact key _ _
set_option maxRecDepth 100000 in
theorem e_M_reckon_48 (z : zZ) (d : Nat) (v1 : Int) (v2 : Int) (μ : Mu) : f_M_reckon_48 z d v1 v2 μ = some (zw (v1 - v2), μ) := by
  show mE z d q_M_reckon 48 [(9, 0), (0, v1), (0, v2)] [] μ = _
  rw [mE_bk (M := q_M_reckon) k_M_reckon.1 k_M_reckon.2 [44, 48, 52, 56, 60, 64, 74, 75, 85, 86, 96] 400]
  have key : ∀ (C : Nat → List zv → Mu → mR) (E : Nat → List zv → List zv → Mu → mR), mbk C E q_M_reckon.1 q_M_reckon.2.1 z q_M_reckon.2.2.2 [44, 48, 52, 56, 60, 64, 74, 75, 85, 86, 96] 400 (zfind q_M_reckon.2.2.2 48) [(9, 0), (0, v1), (0, v2)] [] μ = some (zw (v1 - v2), μ) := by
    intro C E
    rfl
  exact key _ _
set_option maxRecDepth 100000 in
theorem e_M_reckon_52 (z : zZ) (d : Nat) (v1 : Int) (v2 : Int) (μ : Mu) : f_M_reckon_52 z d v1 v2 μ = some (zw (v1 * v2), μ) := by
  show mE z d q_M_reckon 52 [(9, 0), (0, v1), (0, v2)] [] μ = _
  rw [mE_bk (M := q_M_reckon) k_M_reckon.1 k_M_reckon.2 [44, 48, 52, 56, 60, 64, 74, 75, 85, 86, 96] 400]
  have key : ∀ (C : Nat → List zv → Mu → mR) (E : Nat → List zv → List zv → Mu → mR), mbk C E q_M_reckon.1 q_M_reckon.2.1 z q_M_reckon.2.2.2 [44, 48, 52, 56, 60, 64, 74, 75, 85, 86, 96] 400 (zfind q_M_reckon.2.2.2 52) [(9, 0), (0, v1), (0, v2)] [] μ = some (zw (v1 * v2), μ) := by
    intro C E
    rfl
  exact key _ _
set_option maxRecDepth 100000 in
theorem e_M_reckon_56 (z : zZ) (d : Nat) (v1 : Int) (v2 : Int) (μ : Mu) : f_M_reckon_56 z d v1 v2 μ = gN v2 (some (z_div v1 v2, μ)) := by
  show mE z d q_M_reckon 56 [(9, 0), (0, v1), (0, v2)] [] μ = _
  rw [mE_bk (M := q_M_reckon) k_M_reckon.1 k_M_reckon.2 [44, 48, 52, 56, 60, 64, 74, 75, 85, 86, 96] 400]
  have key : ∀ (C : Nat → List zv → Mu → mR) (E : Nat → List zv → List zv → Mu → mR), mbk C E q_M_reckon.1 q_M_reckon.2.1 z q_M_reckon.2.2.2 [44, 48, 52, 56, 60, 64, 74, 75, 85, 86, 96] 400 (zfind q_M_reckon.2.2.2 56) [(9, 0), (0, v1), (0, v2)] [] μ = gN v2 (some (z_div v1 v2, μ)) := by
    intro C E
    rfl
  exact key _ _
set_option maxRecDepth 100000 in
theorem e_M_reckon_60 (z : zZ) (d : Nat) (v1 : Int) (v2 : Int) (μ : Mu) : f_M_reckon_60 z d v1 v2 μ = gN v2 (some (z_rem v1 v2, μ)) := by
  show mE z d q_M_reckon 60 [(9, 0), (0, v1), (0, v2)] [] μ = _
  rw [mE_bk (M := q_M_reckon) k_M_reckon.1 k_M_reckon.2 [44, 48, 52, 56, 60, 64, 74, 75, 85, 86, 96] 400]
  have key : ∀ (C : Nat → List zv → Mu → mR) (E : Nat → List zv → List zv → Mu → mR), mbk C E q_M_reckon.1 q_M_reckon.2.1 z q_M_reckon.2.2.2 [44, 48, 52, 56, 60, 64, 74, 75, 85, 86, 96] 400 (zfind q_M_reckon.2.2.2 60) [(9, 0), (0, v1), (0, v2)] [] μ = gN v2 (some (z_rem v1 v2, μ)) := by
    intro C E
    rfl
  exact key _ _
set_option maxRecDepth 100000 in
theorem e_M_reckon_64 (z : zZ) (d : Nat) (v1 : Int) (v2 : Int) (μ : Mu) : f_M_reckon_64 z d v1 v2 μ = bif decide (v2 ≤ v1) then (f_M_reckon_74 z d 0 μ) else (f_M_reckon_74 z d 1 μ) := by
  show mE z d q_M_reckon 64 [(9, 0), (0, v1), (0, v2)] [] μ = _
  rw [mE_bk (M := q_M_reckon) k_M_reckon.1 k_M_reckon.2 [44, 48, 52, 56, 60, 64, 74, 75, 85, 86, 96] 400]
  have key : ∀ (C : Nat → List zv → Mu → mR) (E : Nat → List zv → List zv → Mu → mR), mbk C E q_M_reckon.1 q_M_reckon.2.1 z q_M_reckon.2.2.2 [44, 48, 52, 56, 60, 64, 74, 75, 85, 86, 96] 400 (zfind q_M_reckon.2.2.2 64) [(9, 0), (0, v1), (0, v2)] [] μ = bif decide (v2 ≤ v1) then (g_M_reckon_74 E 0 μ) else (g_M_reckon_74 E 1 μ) := by
    intro C E
    rfl
  exact key _ _
set_option maxRecDepth 100000 in
theorem e_M_reckon_75 (z : zZ) (d : Nat) (v1 : Int) (v2 : Int) (μ : Mu) : f_M_reckon_75 z d v1 v2 μ = bif decide (v1 ≤ v2) then (f_M_reckon_85 z d 0 μ) else (f_M_reckon_85 z d 1 μ) := by
  show mE z d q_M_reckon 75 [(9, 0), (0, v1), (0, v2)] [] μ = _
  rw [mE_bk (M := q_M_reckon) k_M_reckon.1 k_M_reckon.2 [44, 48, 52, 56, 60, 64, 74, 75, 85, 86, 96] 400]
  have key : ∀ (C : Nat → List zv → Mu → mR) (E : Nat → List zv → List zv → Mu → mR), mbk C E q_M_reckon.1 q_M_reckon.2.1 z q_M_reckon.2.2.2 [44, 48, 52, 56, 60, 64, 74, 75, 85, 86, 96] 400 (zfind q_M_reckon.2.2.2 75) [(9, 0), (0, v1), (0, v2)] [] μ = bif decide (v1 ≤ v2) then (g_M_reckon_85 E 0 μ) else (g_M_reckon_85 E 1 μ) := by
    intro C E
    rfl
  exact key _ _
set_option maxRecDepth 100000 in
theorem e_M_reckon_86 (z : zZ) (d : Nat) (v1 : Int) (v2 : Int) (μ : Mu) : f_M_reckon_86 z d v1 v2 μ = bif !decide (v1 = v2) then (f_M_reckon_96 z d 0 μ) else (f_M_reckon_96 z d 1 μ) := by
  show mE z d q_M_reckon 86 [(9, 0), (0, v1), (0, v2)] [] μ = _
  rw [mE_bk (M := q_M_reckon) k_M_reckon.1 k_M_reckon.2 [44, 48, 52, 56, 60, 64, 74, 75, 85, 86, 96] 400]
  have key : ∀ (C : Nat → List zv → Mu → mR) (E : Nat → List zv → List zv → Mu → mR), mbk C E q_M_reckon.1 q_M_reckon.2.1 z q_M_reckon.2.2.2 [44, 48, 52, 56, 60, 64, 74, 75, 85, 86, 96] 400 (zfind q_M_reckon.2.2.2 86) [(9, 0), (0, v1), (0, v2)] [] μ = bif !decide (v1 = v2) then (g_M_reckon_96 E 0 μ) else (g_M_reckon_96 E 1 μ) := by
    intro C E
    rfl
  exact key _ _
set_option maxRecDepth 100000 in
theorem e_M_reckon_74 (z : zZ) (d : Nat) (v100 : Int) (μ : Mu) : f_M_reckon_74 z d v100 μ = some (v100, μ) := by
  show mE z d q_M_reckon 74 [(9, 0), (9, 0), (9, 0)] [(0, v100)] μ = _
  rw [mE_bk (M := q_M_reckon) k_M_reckon.1 k_M_reckon.2 [44, 48, 52, 56, 60, 64, 74, 75, 85, 86, 96] 400]
  have key : ∀ (C : Nat → List zv → Mu → mR) (E : Nat → List zv → List zv → Mu → mR), mbk C E q_M_reckon.1 q_M_reckon.2.1 z q_M_reckon.2.2.2 [44, 48, 52, 56, 60, 64, 74, 75, 85, 86, 96] 400 (zfind q_M_reckon.2.2.2 74) [(9, 0), (9, 0), (9, 0)] [(0, v100)] μ = some (v100, μ) := by
    intro C E
    rfl
  exact key _ _
set_option maxRecDepth 100000 in
theorem e_M_reckon_85 (z : zZ) (d : Nat) (v100 : Int) (μ : Mu) : f_M_reckon_85 z d v100 μ = some (v100, μ) := by
  show mE z d q_M_reckon 85 [(9, 0), (9, 0), (9, 0)] [(0, v100)] μ = _
  rw [mE_bk (M := q_M_reckon) k_M_reckon.1 k_M_reckon.2 [44, 48, 52, 56, 60, 64, 74, 75, 85, 86, 96] 400]
  have key : ∀ (C : Nat → List zv → Mu → mR) (E : Nat → List zv → List zv → Mu → mR), mbk C E q_M_reckon.1 q_M_reckon.2.1 z q_M_reckon.2.2.2 [44, 48, 52, 56, 60, 64, 74, 75, 85, 86, 96] 400 (zfind q_M_reckon.2.2.2 85) [(9, 0), (9, 0), (9, 0)] [(0, v100)] μ = some (v100, μ) := by
    intro C E
    rfl
  exact key _ _
set_option maxRecDepth 100000 in
theorem e_M_reckon_96 (z : zZ) (d : Nat) (v100 : Int) (μ : Mu) : f_M_reckon_96 z d v100 μ = some (v100, μ) := by
  show mE z d q_M_reckon 96 [(9, 0), (9, 0), (9, 0)] [(0, v100)] μ = _
  rw [mE_bk (M := q_M_reckon) k_M_reckon.1 k_M_reckon.2 [44, 48, 52, 56, 60, 64, 74, 75, 85, 86, 96] 400]
  have key : ∀ (C : Nat → List zv → Mu → mR) (E : Nat → List zv → List zv → Mu → mR), mbk C E q_M_reckon.1 q_M_reckon.2.1 z q_M_reckon.2.2.2 [44, 48, 52, 56, 60, 64, 74, 75, 85, 86, 96] 400 (zfind q_M_reckon.2.2.2 96) [(9, 0), (9, 0), (9, 0)] [(0, v100)] μ = some (v100, μ) := by
    intro C E
    rfl
  exact key _ _
def g_M_judged_26 (E : Nat → List zv → List zv → Mu → mR) (μ : Mu) : mR := E 26 [(9, 0), (9, 0), (9, 0), (9, 0)] [] μ
noncomputable def f_M_judged_26 (z : zZ) (d : Nat) (μ : Mu) : mR := g_M_judged_26 (fun pc ls st μ => mE z d q_M_judged pc ls st μ) μ
def g_M_judged_47 (E : Nat → List zv → List zv → Mu → mR) (v1 : Int) (v3 : Int) (μ : Mu) : mR := E 47 [(2, 86), (0, v1), (9, 0), (0, v3)] [] μ
noncomputable def f_M_judged_47 (z : zZ) (d : Nat) (v1 : Int) (v3 : Int) (μ : Mu) : mR := g_M_judged_47 (fun pc ls st μ => mE z d q_M_judged pc ls st μ) v1 v3 μ
def g_M_judged_71 (E : Nat → List zv → List zv → Mu → mR) (v3 : Int) (μ : Mu) : mR := E 71 [(2, 86), (9, 0), (9, 0), (0, v3)] [] μ
noncomputable def f_M_judged_71 (z : zZ) (d : Nat) (v3 : Int) (μ : Mu) : mR := g_M_judged_71 (fun pc ls st μ => mE z d q_M_judged pc ls st μ) v3 μ
theorem k_M_judged : zprK q_M_judged.2.2.2 = true ∧ zinc q_M_judged.2.2.2 = true := by decide +kernel
set_option maxRecDepth 100000 in
theorem c_M_judged (z : zZ) (d : Nat) (v1 : Int) (v2 : Int) (μ : Mu) : mC z (d + 1) 251 [(2, 86), (0, v1), (0, v2)] μ = (mC z d 185 [(0, v1)] μ).bind fun q1 => (bif decide (q1.1 = 0) then (f_M_judged_26 z d q1.2) else ((mC z d 183 [(0, v2), (0, 1), (0, 160)] q1.2).bind fun q2 => (bif decide (q2.1 = 0) then (f_M_judged_26 z d q2.2) else (bif decide (v2 ≤ q2.2 86 9) then ((mC z d 228 [(2, 86), (0, v2)] q2.2).bind fun q3 => (bif !decide (q3.1 = 0) then ((mC z d 252 [(2, 86)] q3.2).bind fun q4 => (f_M_judged_47 z d v1 0 q4.2)) else (some (q3.2 86 12, q3.2)))) else (f_M_judged_26 z d q2.2))))) := by
  rw [mC_succ q_M_judged rfl rfl rfl]
  rw [mE_bk (M := q_M_judged) k_M_judged.1 k_M_judged.2 [26, 47, 71] 400]
  have key : ∀ (C : Nat → List zv → Mu → mR) (E : Nat → List zv → List zv → Mu → mR), mbk C E q_M_judged.1 q_M_judged.2.1 z q_M_judged.2.2.2 [26, 47, 71] 400 (zfind q_M_judged.2.2.2 0) (zentry q_M_judged.2.2.1 [(2, 86), (0, v1), (0, v2)]) [] μ = (C 185 [(0, v1)] μ).bind fun q1 => (bif decide (q1.1 = 0) then (g_M_judged_26 E q1.2) else ((C 183 [(0, v2), (0, 1), (0, 160)] q1.2).bind fun q2 => (bif decide (q2.1 = 0) then (g_M_judged_26 E q2.2) else (bif decide (v2 ≤ q2.2 86 9) then ((C 228 [(2, 86), (0, v2)] q2.2).bind fun q3 => (bif !decide (q3.1 = 0) then ((C 252 [(2, 86)] q3.2).bind fun q4 => (g_M_judged_47 E v1 0 q4.2)) else (some (q3.2 86 12, q3.2)))) else (g_M_judged_26 E q2.2))))) := by
    intro C E
    rfl
  exact key _ _
set_option maxRecDepth 100000 in
theorem e_M_judged_26 (z : zZ) (d : Nat) (μ : Mu) : f_M_judged_26 z d μ = some ((-1), μ) := by
  show mE z d q_M_judged 26 [(9, 0), (9, 0), (9, 0), (9, 0)] [] μ = _
  rw [mE_bk (M := q_M_judged) k_M_judged.1 k_M_judged.2 [26, 47, 71] 400]
  have key : ∀ (C : Nat → List zv → Mu → mR) (E : Nat → List zv → List zv → Mu → mR), mbk C E q_M_judged.1 q_M_judged.2.1 z q_M_judged.2.2.2 [26, 47, 71] 400 (zfind q_M_judged.2.2.2 26) [(9, 0), (9, 0), (9, 0), (9, 0)] [] μ = some ((-1), μ) := by
    intro C E
    rfl
  exact key _ _
set_option maxRecDepth 100000 in
theorem e_M_judged_47 (z : zZ) (d : Nat) (v1 : Int) (v3 : Int) (μ : Mu) : f_M_judged_47 z d v1 v3 μ = bif decide (μ 86 48 ≤ v3) then (f_M_judged_71 z d v3 μ) else ((mC z d 233 [(2, 86), (0, v1), (0, v3)] μ).bind fun q1 => (bif decide (q1.1 = 0) then (f_M_judged_71 z d v3 q1.2) else (f_M_judged_47 z d v1 (zw (v3 + 1)) q1.2))) := by
  show mE z d q_M_judged 47 [(2, 86), (0, v1), (9, 0), (0, v3)] [] μ = _
  rw [mE_bk (M := q_M_judged) k_M_judged.1 k_M_judged.2 [26, 47, 71] 400]
  have key : ∀ (C : Nat → List zv → Mu → mR) (E : Nat → List zv → List zv → Mu → mR), mbk C E q_M_judged.1 q_M_judged.2.1 z q_M_judged.2.2.2 [26, 47, 71] 400 (zfind q_M_judged.2.2.2 47) [(2, 86), (0, v1), (9, 0), (0, v3)] [] μ = bif decide (μ 86 48 ≤ v3) then (g_M_judged_71 E v3 μ) else ((C 233 [(2, 86), (0, v1), (0, v3)] μ).bind fun q1 => (bif decide (q1.1 = 0) then (g_M_judged_71 E v3 q1.2) else (g_M_judged_47 E v1 (zw (v3 + 1)) q1.2))) := by
    intro C E
    rfl
  exact key _ _
set_option maxRecDepth 100000 in
theorem e_M_judged_71 (z : zZ) (d : Nat) (v3 : Int) (μ : Mu) : f_M_judged_71 z d v3 μ = (mC z d 254 [(2, 86)] μ).bind fun q1 => (some (v3, q1.2)) := by
  show mE z d q_M_judged 71 [(2, 86), (9, 0), (9, 0), (0, v3)] [] μ = _
  rw [mE_bk (M := q_M_judged) k_M_judged.1 k_M_judged.2 [26, 47, 71] 400]
  have key : ∀ (C : Nat → List zv → Mu → mR) (E : Nat → List zv → List zv → Mu → mR), mbk C E q_M_judged.1 q_M_judged.2.1 z q_M_judged.2.2.2 [26, 47, 71] 400 (zfind q_M_judged.2.2.2 71) [(2, 86), (9, 0), (9, 0), (0, v3)] [] μ = (C 254 [(2, 86)] μ).bind fun q1 => (some (v3, q1.2)) := by
    intro C E
    rfl
  exact key _ _
theorem k_M_begins : zprK q_M_begins.2.2.2 = true ∧ zinc q_M_begins.2.2.2 = true := by decide +kernel
set_option maxRecDepth 100000 in
theorem c_M_begins (z : zZ) (d : Nat) (μ : Mu) : mC z (d + 1) 252 [(2, 86)] μ = (mC z d 253 [(2, 90), (2, 119), (0, 24)] (zup (zup (zup μ 86 53 (μ 86 0)) 86 54 (μ 86 16)) 86 55 (μ 86 17))).bind fun q1 => ((mC z d 253 [(2, 91), (2, 120), (0, 24)] q1.2).bind fun q2 => ((mC z d 253 [(2, 92), (2, 121), (0, 24)] q2.2).bind fun q3 => (some (0, q3.2)))) := by
  rw [mC_succ q_M_begins rfl rfl rfl]
  rw [mE_bk (M := q_M_begins) k_M_begins.1 k_M_begins.2 [] 400]
  have key : ∀ (C : Nat → List zv → Mu → mR) (E : Nat → List zv → List zv → Mu → mR), mbk C E q_M_begins.1 q_M_begins.2.1 z q_M_begins.2.2.2 [] 400 (zfind q_M_begins.2.2.2 0) (zentry q_M_begins.2.2.1 [(2, 86)]) [] μ = (C 253 [(2, 90), (2, 119), (0, 24)] (zup (zup (zup μ 86 53 (μ 86 0)) 86 54 (μ 86 16)) 86 55 (μ 86 17))).bind fun q1 => ((C 253 [(2, 91), (2, 120), (0, 24)] q1.2).bind fun q2 => ((C 253 [(2, 92), (2, 121), (0, 24)] q2.2).bind fun q3 => (some (0, q3.2)))) := by
    intro C E
    rfl
  exact key _ _
def g_M_copies_2 (E : Nat → List zv → List zv → Mu → mR) (v0 : Int) (v1 : Int) (v2 : Int) (v3 : Int) (μ : Mu) : mR := E 2 [(2, v0), (2, v1), (0, v2), (0, v3)] [] μ
noncomputable def f_M_copies_2 (z : zZ) (d : Nat) (v0 : Int) (v1 : Int) (v2 : Int) (v3 : Int) (μ : Mu) : mR := g_M_copies_2 (fun pc ls st μ => mE z d q_M_copies pc ls st μ) v0 v1 v2 v3 μ
theorem k_M_copies : zprK q_M_copies.2.2.2 = true ∧ zinc q_M_copies.2.2.2 = true := by decide +kernel
set_option maxRecDepth 100000 in
theorem c_M_copies (z : zZ) (d : Nat) (v0 : Int) (v1 : Int) (v2 : Int) (μ : Mu) : mC z (d + 1) 253 [(2, v0), (2, v1), (0, v2)] μ = f_M_copies_2 z d v0 v1 v2 0 μ := by
  rw [mC_succ q_M_copies rfl rfl rfl]
  rw [mE_bk (M := q_M_copies) k_M_copies.1 k_M_copies.2 [2] 400]
  have key : ∀ (C : Nat → List zv → Mu → mR) (E : Nat → List zv → List zv → Mu → mR), mbk C E q_M_copies.1 q_M_copies.2.1 z q_M_copies.2.2.2 [2] 400 (zfind q_M_copies.2.2.2 0) (zentry q_M_copies.2.2.1 [(2, v0), (2, v1), (0, v2)]) [] μ = g_M_copies_2 E v0 v1 v2 0 μ := by
    intro C E
    rfl
  exact key _ _
set_option maxRecDepth 100000 in
theorem e_M_copies_2 (z : zZ) (d : Nat) (v0 : Int) (v1 : Int) (v2 : Int) (v3 : Int) (μ : Mu) : f_M_copies_2 z d v0 v1 v2 v3 μ = bif decide (v2 ≤ v3) then (some (0, μ)) else (gA v0 v3 (gA v1 v3 (f_M_copies_2 z d v0 v1 v2 (zw (v3 + 1)) (zup μ v1.toNat v3.toNat (μ v0.toNat v3.toNat))))) := by
  show mE z d q_M_copies 2 [(2, v0), (2, v1), (0, v2), (0, v3)] [] μ = _
  rw [mE_bk (M := q_M_copies) k_M_copies.1 k_M_copies.2 [2] 400]
  have key : ∀ (C : Nat → List zv → Mu → mR) (E : Nat → List zv → List zv → Mu → mR), mbk C E q_M_copies.1 q_M_copies.2.1 z q_M_copies.2.2.2 [2] 400 (zfind q_M_copies.2.2.2 2) [(2, v0), (2, v1), (0, v2), (0, v3)] [] μ = bif decide (v2 ≤ v3) then (some (0, μ)) else (gA v0 v3 (gA v1 v3 (g_M_copies_2 E v0 v1 v2 (zw (v3 + 1)) (zup μ v1.toNat v3.toNat (μ v0.toNat v3.toNat))))) := by
    intro C E
    rfl
  exact key _ _
theorem k_M_again : zprK q_M_again.2.2.2 = true ∧ zinc q_M_again.2.2.2 = true := by decide +kernel
set_option maxRecDepth 100000 in
theorem c_M_again (z : zZ) (d : Nat) (μ : Mu) : mC z (d + 1) 254 [(2, 86)] μ = (mC z d 253 [(2, 119), (2, 90), (0, 24)] (zup (zup (zup μ 86 0 (μ 86 53)) 86 16 (μ 86 54)) 86 17 (μ 86 55))).bind fun q1 => ((mC z d 253 [(2, 120), (2, 91), (0, 24)] q1.2).bind fun q2 => ((mC z d 253 [(2, 121), (2, 92), (0, 24)] q2.2).bind fun q3 => (some (0, q3.2)))) := by
  rw [mC_succ q_M_again rfl rfl rfl]
  rw [mE_bk (M := q_M_again) k_M_again.1 k_M_again.2 [] 400]
  have key : ∀ (C : Nat → List zv → Mu → mR) (E : Nat → List zv → List zv → Mu → mR), mbk C E q_M_again.1 q_M_again.2.1 z q_M_again.2.2.2 [] 400 (zfind q_M_again.2.2.2 0) (zentry q_M_again.2.2.1 [(2, 86)]) [] μ = (C 253 [(2, 119), (2, 90), (0, 24)] (zup (zup (zup μ 86 0 (μ 86 53)) 86 16 (μ 86 54)) 86 17 (μ 86 55))).bind fun q1 => ((C 253 [(2, 120), (2, 91), (0, 24)] q1.2).bind fun q2 => ((C 253 [(2, 121), (2, 92), (0, 24)] q2.2).bind fun q3 => (some (0, q3.2)))) := by
    intro C E
    rfl
  exact key _ _
