def g_Fig_addRows_5 (E : Nat → List zv → List zv → Mu → mR) (v1 : Int) (v2 : Int) (v3 : Int) (v5 : Int) (μ : Mu) : mR := E 5 [(2, 58), (0, v1), (0, v2), (1, v3), (9, 0), (0, v5)] [] μ
noncomputable def f_Fig_addRows_5 (z : zZ) (d : Nat) (v1 : Int) (v2 : Int) (v3 : Int) (v5 : Int) (μ : Mu) : mR := g_Fig_addRows_5 (fun pc ls st μ => mE z d q_Fig_addRows pc ls st μ) v1 v2 v3 v5 μ
def g_Fig_addRows_37 (E : Nat → List zv → List zv → Mu → mR) (v1 : Int) (v2 : Int) (v3 : Int) (v5 : Int) (μ : Mu) : mR := E 37 [(2, 58), (0, v1), (0, v2), (1, v3), (9, 0), (0, v5)] [] μ
noncomputable def f_Fig_addRows_37 (z : zZ) (d : Nat) (v1 : Int) (v2 : Int) (v3 : Int) (v5 : Int) (μ : Mu) : mR := g_Fig_addRows_37 (fun pc ls st μ => mE z d q_Fig_addRows pc ls st μ) v1 v2 v3 v5 μ
theorem k_Fig_addRows : zprK q_Fig_addRows.2.2.2 = true ∧ zinc q_Fig_addRows.2.2.2 = true := by decide +kernel
set_option maxRecDepth 100000 in
theorem c_Fig_addRows (z : zZ) (d : Nat) (v1 : Int) (v2 : Int) (v3 : Int) (μ : Mu) : mC z (d + 1) 150 [(2, 58), (0, v1), (0, v2), (1, v3)] μ = f_Fig_addRows_5 z d v1 v2 v3 (zw (v2 + 1)) μ := by
  rw [mC_succ q_Fig_addRows rfl rfl rfl]
  rw [mE_bk (M := q_Fig_addRows) k_Fig_addRows.1 k_Fig_addRows.2 [5, 37] 400]
  have key : ∀ (C : Nat → List zv → Mu → mR) (E : Nat → List zv → List zv → Mu → mR), mbk C E q_Fig_addRows.1 q_Fig_addRows.2.1 z q_Fig_addRows.2.2.2 [5, 37] 400 (zfind q_Fig_addRows.2.2.2 0) (zentry q_Fig_addRows.2.2.1 [(2, 58), (0, v1), (0, v2), (1, v3)]) [] μ = g_Fig_addRows_5 E v1 v2 v3 (zw (v2 + 1)) μ := by
    intro C E
    rfl
  exact key _ _
set_option maxRecDepth 100000 in
theorem e_Fig_addRows_5 (z : zZ) (d : Nat) (v1 : Int) (v2 : Int) (v3 : Int) (v5 : Int) (μ : Mu) : f_Fig_addRows_5 z d v1 v2 v3 v5 μ = bif decide (12 ≤ v5) then (some (0, μ)) else (bif !decide (z_and (z_shr v1 v5) 1 = 0) then (f_Fig_addRows_37 z d v1 v2 v3 v5 μ) else (gI (zw ((zw (v2 * 12)) + v5)) 144 (gI (zw ((zw (v2 * 12)) + v5)) 144 (f_Fig_addRows_37 z d v1 v2 v3 v5 (zup μ 64 ((zw ((zw (v2 * 12)) + v5)).toNat) (zwl ((μ 64 ((zw ((zw (v2 * 12)) + v5)).toNat)) + v3))))))) := by
  show mE z d q_Fig_addRows 5 [(2, 58), (0, v1), (0, v2), (1, v3), (9, 0), (0, v5)] [] μ = _
  rw [mE_bk (M := q_Fig_addRows) k_Fig_addRows.1 k_Fig_addRows.2 [5, 37] 400]
  have key : ∀ (C : Nat → List zv → Mu → mR) (E : Nat → List zv → List zv → Mu → mR), mbk C E q_Fig_addRows.1 q_Fig_addRows.2.1 z q_Fig_addRows.2.2.2 [5, 37] 400 (zfind q_Fig_addRows.2.2.2 5) [(2, 58), (0, v1), (0, v2), (1, v3), (9, 0), (0, v5)] [] μ = bif decide (12 ≤ v5) then (some (0, μ)) else (bif !decide (z_and (z_shr v1 v5) 1 = 0) then (g_Fig_addRows_37 E v1 v2 v3 v5 μ) else (gI (zw ((zw (v2 * 12)) + v5)) 144 (gI (zw ((zw (v2 * 12)) + v5)) 144 (g_Fig_addRows_37 E v1 v2 v3 v5 (zup μ 64 ((zw ((zw (v2 * 12)) + v5)).toNat) (zwl ((μ 64 ((zw ((zw (v2 * 12)) + v5)).toNat)) + v3))))))) := by
    intro C E
    rfl
  exact key _ _
set_option maxRecDepth 100000 in
theorem e_Fig_addRows_37 (z : zZ) (d : Nat) (v1 : Int) (v2 : Int) (v3 : Int) (v5 : Int) (μ : Mu) : f_Fig_addRows_37 z d v1 v2 v3 v5 μ = f_Fig_addRows_5 z d v1 v2 v3 (zw (v5 + 1)) μ := by
  show mE z d q_Fig_addRows 37 [(2, 58), (0, v1), (0, v2), (1, v3), (9, 0), (0, v5)] [] μ = _
  rw [mE_bk (M := q_Fig_addRows) k_Fig_addRows.1 k_Fig_addRows.2 [5, 37] 400]
  have key : ∀ (C : Nat → List zv → Mu → mR) (E : Nat → List zv → List zv → Mu → mR), mbk C E q_Fig_addRows.1 q_Fig_addRows.2.1 z q_Fig_addRows.2.2.2 [5, 37] 400 (zfind q_Fig_addRows.2.2.2 37) [(2, 58), (0, v1), (0, v2), (1, v3), (9, 0), (0, v5)] [] μ = g_Fig_addRows_5 E v1 v2 v3 (zw (v5 + 1)) μ := by
    intro C E
    rfl
  exact key _ _
def g_W_skirmish_9 (E : Nat → List zv → List zv → Mu → mR) (μ : Mu) : mR := E 9 [(9, 0), (9, 0), (9, 0), (9, 0), (9, 0), (9, 0), (9, 0), (9, 0), (9, 0)] [] μ
noncomputable def f_W_skirmish_9 (z : zZ) (d : Nat) (μ : Mu) : mR := g_W_skirmish_9 (fun pc ls st μ => mE z d q_W_skirmish pc ls st μ) μ
def g_W_skirmish_21 (E : Nat → List zv → List zv → Mu → mR) (v1 : Int) (v2 : Int) (v4 : Int) (v5 : Int) (μ : Mu) : mR := E 21 [(2, 0), (0, v1), (1, v2), (9, 0), (0, v4), (0, v5), (9, 0), (9, 0), (9, 0)] [] μ
noncomputable def f_W_skirmish_21 (z : zZ) (d : Nat) (v1 : Int) (v2 : Int) (v4 : Int) (v5 : Int) (μ : Mu) : mR := g_W_skirmish_21 (fun pc ls st μ => mE z d q_W_skirmish pc ls st μ) v1 v2 v4 v5 μ
def g_W_skirmish_34 (E : Nat → List zv → List zv → Mu → mR) (v1 : Int) (v2 : Int) (v4 : Int) (v5 : Int) (v6 : Int) (μ : Mu) : mR := E 34 [(2, 0), (0, v1), (1, v2), (9, 0), (0, v4), (0, v5), (0, v6), (9, 0), (9, 0)] [] μ
noncomputable def f_W_skirmish_34 (z : zZ) (d : Nat) (v1 : Int) (v2 : Int) (v4 : Int) (v5 : Int) (v6 : Int) (μ : Mu) : mR := g_W_skirmish_34 (fun pc ls st μ => mE z d q_W_skirmish pc ls st μ) v1 v2 v4 v5 v6 μ
def g_W_skirmish_88 (E : Nat → List zv → List zv → Mu → mR) (v1 : Int) (v2 : Int) (v4 : Int) (v5 : Int) (v6 : Int) (μ : Mu) : mR := E 88 [(2, 0), (0, v1), (1, v2), (9, 0), (0, v4), (0, v5), (0, v6), (9, 0), (9, 0)] [] μ
noncomputable def f_W_skirmish_88 (z : zZ) (d : Nat) (v1 : Int) (v2 : Int) (v4 : Int) (v5 : Int) (v6 : Int) (μ : Mu) : mR := g_W_skirmish_88 (fun pc ls st μ => mE z d q_W_skirmish pc ls st μ) v1 v2 v4 v5 v6 μ
def g_W_skirmish_110 (E : Nat → List zv → List zv → Mu → mR) (v1 : Int) (v2 : Int) (v4 : Int) (μ : Mu) : mR := E 110 [(9, 0), (0, v1), (1, v2), (9, 0), (0, v4), (9, 0), (9, 0), (9, 0), (9, 0)] [] μ
noncomputable def f_W_skirmish_110 (z : zZ) (d : Nat) (v1 : Int) (v2 : Int) (v4 : Int) (μ : Mu) : mR := g_W_skirmish_110 (fun pc ls st μ => mE z d q_W_skirmish pc ls st μ) v1 v2 v4 μ
def g_W_skirmish_130 (E : Nat → List zv → List zv → Mu → mR) (v4 : Int) (μ : Mu) : mR := E 130 [(9, 0), (9, 0), (9, 0), (9, 0), (0, v4), (9, 0), (9, 0), (9, 0), (9, 0)] [] μ
noncomputable def f_W_skirmish_130 (z : zZ) (d : Nat) (v4 : Int) (μ : Mu) : mR := g_W_skirmish_130 (fun pc ls st μ => mE z d q_W_skirmish pc ls st μ) v4 μ
def g_W_skirmish_136 (E : Nat → List zv → List zv → Mu → mR) (v100 : Int) (μ : Mu) : mR := E 136 [(9, 0), (9, 0), (9, 0), (9, 0), (9, 0), (9, 0), (9, 0), (9, 0), (9, 0)] [(1, v100)] μ
noncomputable def f_W_skirmish_136 (z : zZ) (d : Nat) (v100 : Int) (μ : Mu) : mR := g_W_skirmish_136 (fun pc ls st μ => mE z d q_W_skirmish pc ls st μ) v100 μ
theorem k_W_skirmish : zprK q_W_skirmish.2.2.2 = true ∧ zinc q_W_skirmish.2.2.2 = true := by decide +kernel
set_option maxRecDepth 100000 in
theorem c_W_skirmish (z : zZ) (d : Nat) (v1 : Int) (μ : Mu) : mC z (d + 1) 151 [(2, 0), (0, v1)] μ = bif decide (v1 < 0) then (f_W_skirmish_9 z d μ) else (bif decide (v1 ≤ 2) then (f_W_skirmish_21 z d v1 0 0 0 μ) else (f_W_skirmish_9 z d μ)) := by
  rw [mC_succ q_W_skirmish rfl rfl rfl]
  rw [mE_bk (M := q_W_skirmish) k_W_skirmish.1 k_W_skirmish.2 [9, 21, 34, 88, 110, 130, 136] 400]
  have key : ∀ (C : Nat → List zv → Mu → mR) (E : Nat → List zv → List zv → Mu → mR), mbk C E q_W_skirmish.1 q_W_skirmish.2.1 z q_W_skirmish.2.2.2 [9, 21, 34, 88, 110, 130, 136] 400 (zfind q_W_skirmish.2.2.2 0) (zentry q_W_skirmish.2.2.1 [(2, 0), (0, v1)]) [] μ = bif decide (v1 < 0) then (g_W_skirmish_9 E μ) else (bif decide (v1 ≤ 2) then (g_W_skirmish_21 E v1 0 0 0 μ) else (g_W_skirmish_9 E μ)) := by
    intro C E
    rfl
  exact key _ _
set_option maxRecDepth 100000 in
theorem e_W_skirmish_9 (z : zZ) (d : Nat) (μ : Mu) : f_W_skirmish_9 z d μ = some ((-1), μ) := by
  show mE z d q_W_skirmish 9 [(9, 0), (9, 0), (9, 0), (9, 0), (9, 0), (9, 0), (9, 0), (9, 0), (9, 0)] [] μ = _
  rw [mE_bk (M := q_W_skirmish) k_W_skirmish.1 k_W_skirmish.2 [9, 21, 34, 88, 110, 130, 136] 400]
  have key : ∀ (C : Nat → List zv → Mu → mR) (E : Nat → List zv → List zv → Mu → mR), mbk C E q_W_skirmish.1 q_W_skirmish.2.1 z q_W_skirmish.2.2.2 [9, 21, 34, 88, 110, 130, 136] 400 (zfind q_W_skirmish.2.2.2 9) [(9, 0), (9, 0), (9, 0), (9, 0), (9, 0), (9, 0), (9, 0), (9, 0), (9, 0)] [] μ = some ((-1), μ) := by
    intro C E
    rfl
  exact key _ _
set_option maxRecDepth 100000 in
theorem e_W_skirmish_21 (z : zZ) (d : Nat) (v1 : Int) (v2 : Int) (v4 : Int) (v5 : Int) (μ : Mu) : f_W_skirmish_21 z d v1 v2 v4 v5 μ = bif decide (12 ≤ v5) then (bif !decide (z_lcmp v2 0 = 0) then (f_W_skirmish_110 z d v1 v2 v4 μ) else (some ((-2), μ))) else (f_W_skirmish_34 z d v1 v2 v4 v5 (zw (v5 + 1)) μ) := by
  show mE z d q_W_skirmish 21 [(2, 0), (0, v1), (1, v2), (9, 0), (0, v4), (0, v5), (9, 0), (9, 0), (9, 0)] [] μ = _
  rw [mE_bk (M := q_W_skirmish) k_W_skirmish.1 k_W_skirmish.2 [9, 21, 34, 88, 110, 130, 136] 400]
  have key : ∀ (C : Nat → List zv → Mu → mR) (E : Nat → List zv → List zv → Mu → mR), mbk C E q_W_skirmish.1 q_W_skirmish.2.1 z q_W_skirmish.2.2.2 [9, 21, 34, 88, 110, 130, 136] 400 (zfind q_W_skirmish.2.2.2 21) [(2, 0), (0, v1), (1, v2), (9, 0), (0, v4), (0, v5), (9, 0), (9, 0), (9, 0)] [] μ = bif decide (12 ≤ v5) then (bif !decide (z_lcmp v2 0 = 0) then (g_W_skirmish_110 E v1 v2 v4 μ) else (some ((-2), μ))) else (g_W_skirmish_34 E v1 v2 v4 v5 (zw (v5 + 1)) μ) := by
    intro C E
    rfl
  exact key _ _
set_option maxRecDepth 100000 in
theorem e_W_skirmish_110 (z : zZ) (d : Nat) (v1 : Int) (v2 : Int) (v4 : Int) (μ : Mu) : f_W_skirmish_110 z d v1 v2 v4 μ = bif !decide (v1 = 2) then (bif !decide (v1 = 0) then (f_W_skirmish_130 z d v4 μ) else (f_W_skirmish_136 z d (z_div v4 12) μ)) else (some (v2, μ)) := by
  show mE z d q_W_skirmish 110 [(9, 0), (0, v1), (1, v2), (9, 0), (0, v4), (9, 0), (9, 0), (9, 0), (9, 0)] [] μ = _
  rw [mE_bk (M := q_W_skirmish) k_W_skirmish.1 k_W_skirmish.2 [9, 21, 34, 88, 110, 130, 136] 400]
  have key : ∀ (C : Nat → List zv → Mu → mR) (E : Nat → List zv → List zv → Mu → mR), mbk C E q_W_skirmish.1 q_W_skirmish.2.1 z q_W_skirmish.2.2.2 [9, 21, 34, 88, 110, 130, 136] 400 (zfind q_W_skirmish.2.2.2 110) [(9, 0), (0, v1), (1, v2), (9, 0), (0, v4), (9, 0), (9, 0), (9, 0), (9, 0)] [] μ = bif !decide (v1 = 2) then (bif !decide (v1 = 0) then (g_W_skirmish_130 E v4 μ) else (g_W_skirmish_136 E (z_div v4 12) μ)) else (some (v2, μ)) := by
    intro C E
    rfl
  exact key _ _
set_option maxRecDepth 100000 in
theorem e_W_skirmish_34 (z : zZ) (d : Nat) (v1 : Int) (v2 : Int) (v4 : Int) (v5 : Int) (v6 : Int) (μ : Mu) : f_W_skirmish_34 z d v1 v2 v4 v5 v6 μ = bif decide (12 ≤ v6) then (f_W_skirmish_21 z d v1 v2 v4 (zw (v5 + 1)) μ) else ((mC z d 146 [(2, 58), (0, v5), (0, v6)] μ).bind fun q1 => ((mC z d 146 [(2, 58), (0, v6), (0, v5)] q1.2).bind fun q2 => (bif decide (z_lcmp (if q2.1 < q1.1 then q2.1 else q1.1) v2 ≤ 0) then (f_W_skirmish_88 z d v1 v2 v4 v5 v6 q2.2) else (f_W_skirmish_88 z d v1 (if q2.1 < q1.1 then q2.1 else q1.1) (zw ((zw (v5 * 12)) + v6)) v5 v6 q2.2)))) := by
  show mE z d q_W_skirmish 34 [(2, 0), (0, v1), (1, v2), (9, 0), (0, v4), (0, v5), (0, v6), (9, 0), (9, 0)] [] μ = _
  rw [mE_bk (M := q_W_skirmish) k_W_skirmish.1 k_W_skirmish.2 [9, 21, 34, 88, 110, 130, 136] 400]
  have key : ∀ (C : Nat → List zv → Mu → mR) (E : Nat → List zv → List zv → Mu → mR), mbk C E q_W_skirmish.1 q_W_skirmish.2.1 z q_W_skirmish.2.2.2 [9, 21, 34, 88, 110, 130, 136] 400 (zfind q_W_skirmish.2.2.2 34) [(2, 0), (0, v1), (1, v2), (9, 0), (0, v4), (0, v5), (0, v6), (9, 0), (9, 0)] [] μ = bif decide (12 ≤ v6) then (g_W_skirmish_21 E v1 v2 v4 (zw (v5 + 1)) μ) else ((C 146 [(2, 58), (0, v5), (0, v6)] μ).bind fun q1 => ((C 146 [(2, 58), (0, v6), (0, v5)] q1.2).bind fun q2 => (bif decide (z_lcmp (if q2.1 < q1.1 then q2.1 else q1.1) v2 ≤ 0) then (g_W_skirmish_88 E v1 v2 v4 v5 v6 q2.2) else (g_W_skirmish_88 E v1 (if q2.1 < q1.1 then q2.1 else q1.1) (zw ((zw (v5 * 12)) + v6)) v5 v6 q2.2)))) := by
    intro C E
    rfl
  exact key _ _
set_option maxRecDepth 100000 in
theorem e_W_skirmish_130 (z : zZ) (d : Nat) (v4 : Int) (μ : Mu) : f_W_skirmish_130 z d v4 μ = f_W_skirmish_136 z d (z_rem v4 12) μ := by
  show mE z d q_W_skirmish 130 [(9, 0), (9, 0), (9, 0), (9, 0), (0, v4), (9, 0), (9, 0), (9, 0), (9, 0)] [] μ = _
  rw [mE_bk (M := q_W_skirmish) k_W_skirmish.1 k_W_skirmish.2 [9, 21, 34, 88, 110, 130, 136] 400]
  have key : ∀ (C : Nat → List zv → Mu → mR) (E : Nat → List zv → List zv → Mu → mR), mbk C E q_W_skirmish.1 q_W_skirmish.2.1 z q_W_skirmish.2.2.2 [9, 21, 34, 88, 110, 130, 136] 400 (zfind q_W_skirmish.2.2.2 130) [(9, 0), (9, 0), (9, 0), (9, 0), (0, v4), (9, 0), (9, 0), (9, 0), (9, 0)] [] μ = g_W_skirmish_136 E (z_rem v4 12) μ := by
    intro C E
    rfl
  exact key _ _
set_option maxRecDepth 100000 in
theorem e_W_skirmish_136 (z : zZ) (d : Nat) (v100 : Int) (μ : Mu) : f_W_skirmish_136 z d v100 μ = some (v100, μ) := by
  show mE z d q_W_skirmish 136 [(9, 0), (9, 0), (9, 0), (9, 0), (9, 0), (9, 0), (9, 0), (9, 0), (9, 0)] [(1, v100)] μ = _
  rw [mE_bk (M := q_W_skirmish) k_W_skirmish.1 k_W_skirmish.2 [9, 21, 34, 88, 110, 130, 136] 400]
  have key : ∀ (C : Nat → List zv → Mu → mR) (E : Nat → List zv → List zv → Mu → mR), mbk C E q_W_skirmish.1 q_W_skirmish.2.1 z q_W_skirmish.2.2.2 [9, 21, 34, 88, 110, 130, 136] 400 (zfind q_W_skirmish.2.2.2 136) [(9, 0), (9, 0), (9, 0), (9, 0), (9, 0), (9, 0), (9, 0), (9, 0), (9, 0)] [(1, v100)] μ = some (v100, μ) := by
    intro C E
    rfl
  exact key _ _
set_option maxRecDepth 100000 in
theorem e_W_skirmish_88 (z : zZ) (d : Nat) (v1 : Int) (v2 : Int) (v4 : Int) (v5 : Int) (v6 : Int) (μ : Mu) : f_W_skirmish_88 z d v1 v2 v4 v5 v6 μ = f_W_skirmish_34 z d v1 v2 v4 v5 (zw (v6 + 1)) μ := by
  show mE z d q_W_skirmish 88 [(2, 0), (0, v1), (1, v2), (9, 0), (0, v4), (0, v5), (0, v6), (9, 0), (9, 0)] [] μ = _
  rw [mE_bk (M := q_W_skirmish) k_W_skirmish.1 k_W_skirmish.2 [9, 21, 34, 88, 110, 130, 136] 400]
  have key : ∀ (C : Nat → List zv → Mu → mR) (E : Nat → List zv → List zv → Mu → mR), mbk C E q_W_skirmish.1 q_W_skirmish.2.1 z q_W_skirmish.2.2.2 [9, 21, 34, 88, 110, 130, 136] 400 (zfind q_W_skirmish.2.2.2 88) [(2, 0), (0, v1), (1, v2), (9, 0), (0, v4), (0, v5), (0, v6), (9, 0), (9, 0)] [] μ = g_W_skirmish_34 E v1 v2 v4 v5 (zw (v6 + 1)) μ := by
    intro C E
    rfl
  exact key _ _
theorem k_W_forget : zprK q_W_forget.2.2.2 = true ∧ zinc q_W_forget.2.2.2 = true := by decide +kernel
set_option maxRecDepth 100000 in
theorem c_W_forget (z : zZ) (d : Nat) (μ : Mu) : mC z (d + 1) 152 [(2, 0)] μ = (mC z d 153 [(2, 58)] μ).bind fun q1 => (some (q1.1, q1.2)) := by
  rw [mC_succ q_W_forget rfl rfl rfl]
  rw [mE_bk (M := q_W_forget) k_W_forget.1 k_W_forget.2 [] 400]
  have key : ∀ (C : Nat → List zv → Mu → mR) (E : Nat → List zv → List zv → Mu → mR), mbk C E q_W_forget.1 q_W_forget.2.1 z q_W_forget.2.2.2 [] 400 (zfind q_W_forget.2.2.2 0) (zentry q_W_forget.2.2.1 [(2, 0)]) [] μ = (C 153 [(2, 58)] μ).bind fun q1 => (some (q1.1, q1.2)) := by
    intro C E
    rfl
  exact key _ _
theorem k_Fig_drop : zprK q_Fig_drop.2.2.2 = true ∧ zinc q_Fig_drop.2.2.2 = true := by decide +kernel
set_option maxRecDepth 100000 in
theorem c_Fig_drop (z : zZ) (d : Nat) (μ : Mu) : mC z (d + 1) 153 [(2, 58)] μ = (mC z d 139 [(2, 58)] (zup μ 58 0 0)).bind fun q1 => (some (μ 58 0, q1.2)) := by
  rw [mC_succ q_Fig_drop rfl rfl rfl]
  rw [mE_bk (M := q_Fig_drop) k_Fig_drop.1 k_Fig_drop.2 [] 400]
  have key : ∀ (C : Nat → List zv → Mu → mR) (E : Nat → List zv → List zv → Mu → mR), mbk C E q_Fig_drop.1 q_Fig_drop.2.1 z q_Fig_drop.2.2.2 [] 400 (zfind q_Fig_drop.2.2.2 0) (zentry q_Fig_drop.2.2.1 [(2, 58)]) [] μ = (C 139 [(2, 58)] (zup μ 58 0 0)).bind fun q1 => (some (μ 58 0, q1.2)) := by
    intro C E
    rfl
  exact key _ _
def g_W_soldier_32 (E : Nat → List zv → List zv → Mu → mR) (μ : Mu) : mR := E 32 [(9, 0), (9, 0), (9, 0), (9, 0), (9, 0), (9, 0)] [] μ
noncomputable def f_W_soldier_32 (z : zZ) (d : Nat) (μ : Mu) : mR := g_W_soldier_32 (fun pc ls st μ => mE z d q_W_soldier pc ls st μ) μ
def g_W_soldier_47 (E : Nat → List zv → List zv → Mu → mR) (μ : Mu) : mR := E 47 [(9, 0), (9, 0), (9, 0), (9, 0), (9, 0), (9, 0)] [] μ
noncomputable def f_W_soldier_47 (z : zZ) (d : Nat) (μ : Mu) : mR := g_W_soldier_47 (fun pc ls st μ => mE z d q_W_soldier pc ls st μ) μ
def g_W_soldier_49 (E : Nat → List zv → List zv → Mu → mR) (v1 : Int) (v2 : Int) (v3 : Int) (v4 : Int) (v5 : Int) (μ : Mu) : mR := E 49 [(2, 0), (0, v1), (0, v2), (0, v3), (0, v4), (0, v5)] [] μ
noncomputable def f_W_soldier_49 (z : zZ) (d : Nat) (v1 : Int) (v2 : Int) (v3 : Int) (v4 : Int) (v5 : Int) (μ : Mu) : mR := g_W_soldier_49 (fun pc ls st μ => mE z d q_W_soldier pc ls st μ) v1 v2 v3 v4 v5 μ
theorem k_W_soldier : zprK q_W_soldier.2.2.2 = true ∧ zinc q_W_soldier.2.2.2 = true := by decide +kernel
set_option maxRecDepth 100000 in
theorem c_W_soldier (z : zZ) (d : Nat) (v1 : Int) (v2 : Int) (v3 : Int) (v4 : Int) (v5 : Int) (μ : Mu) : mC z (d + 1) 154 [(2, 0), (0, v1), (0, v2), (0, v3), (0, v4), (0, v5)] μ = bif decide (v1 < 0) then (f_W_soldier_32 z d μ) else (bif decide (24 ≤ v1) then (f_W_soldier_32 z d μ) else ((mC z d 13 [(0, v2)] μ).bind fun q1 => (bif decide (q1.1 = 0) then (f_W_soldier_32 z d q1.2) else ((mC z d 155 [(0, v3)] q1.2).bind fun q2 => (bif decide (q2.1 = 0) then (f_W_soldier_32 z d q2.2) else ((mC z d 155 [(0, v4)] q2.2).bind fun q3 => (bif !decide (q3.1 = 0) then (bif decide (v5 < 1) then (f_W_soldier_47 z d q3.2) else (bif decide (v5 ≤ 9) then (f_W_soldier_49 z d v1 v2 v3 v4 v5 q3.2) else (f_W_soldier_47 z d q3.2))) else (f_W_soldier_32 z d q3.2)))))))) := by
  rw [mC_succ q_W_soldier rfl rfl rfl]
  rw [mE_bk (M := q_W_soldier) k_W_soldier.1 k_W_soldier.2 [32, 47, 49] 400]
  have key : ∀ (C : Nat → List zv → Mu → mR) (E : Nat → List zv → List zv → Mu → mR), mbk C E q_W_soldier.1 q_W_soldier.2.1 z q_W_soldier.2.2.2 [32, 47, 49] 400 (zfind q_W_soldier.2.2.2 0) (zentry q_W_soldier.2.2.1 [(2, 0), (0, v1), (0, v2), (0, v3), (0, v4), (0, v5)]) [] μ = bif decide (v1 < 0) then (g_W_soldier_32 E μ) else (bif decide (24 ≤ v1) then (g_W_soldier_32 E μ) else ((C 13 [(0, v2)] μ).bind fun q1 => (bif decide (q1.1 = 0) then (g_W_soldier_32 E q1.2) else ((C 155 [(0, v3)] q1.2).bind fun q2 => (bif decide (q2.1 = 0) then (g_W_soldier_32 E q2.2) else ((C 155 [(0, v4)] q2.2).bind fun q3 => (bif !decide (q3.1 = 0) then (bif decide (v5 < 1) then (g_W_soldier_47 E q3.2) else (bif decide (v5 ≤ 9) then (g_W_soldier_49 E v1 v2 v3 v4 v5 q3.2) else (g_W_soldier_47 E q3.2))) else (g_W_soldier_32 E q3.2)))))))) := by
    intro C E
    rfl
  exact key _ _
set_option maxRecDepth 100000 in
theorem e_W_soldier_32 (z : zZ) (d : Nat) (μ : Mu) : f_W_soldier_32 z d μ = some (0, μ) := by
  show mE z d q_W_soldier 32 [(9, 0), (9, 0), (9, 0), (9, 0), (9, 0), (9, 0)] [] μ = _
  rw [mE_bk (M := q_W_soldier) k_W_soldier.1 k_W_soldier.2 [32, 47, 49] 400]
  have key : ∀ (C : Nat → List zv → Mu → mR) (E : Nat → List zv → List zv → Mu → mR), mbk C E q_W_soldier.1 q_W_soldier.2.1 z q_W_soldier.2.2.2 [32, 47, 49] 400 (zfind q_W_soldier.2.2.2 32) [(9, 0), (9, 0), (9, 0), (9, 0), (9, 0), (9, 0)] [] μ = some (0, μ) := by
    intro C E
    rfl
  exact key _ _
set_option maxRecDepth 100000 in
theorem e_W_soldier_47 (z : zZ) (d : Nat) (μ : Mu) : f_W_soldier_47 z d μ = some (0, μ) := by
  show mE z d q_W_soldier 47 [(9, 0), (9, 0), (9, 0), (9, 0), (9, 0), (9, 0)] [] μ = _
  rw [mE_bk (M := q_W_soldier) k_W_soldier.1 k_W_soldier.2 [32, 47, 49] 400]
  have key : ∀ (C : Nat → List zv → Mu → mR) (E : Nat → List zv → List zv → Mu → mR), mbk C E q_W_soldier.1 q_W_soldier.2.1 z q_W_soldier.2.2.2 [32, 47, 49] 400 (zfind q_W_soldier.2.2.2 47) [(9, 0), (9, 0), (9, 0), (9, 0), (9, 0), (9, 0)] [] μ = some (0, μ) := by
    intro C E
    rfl
  exact key _ _
set_option maxRecDepth 100000 in
theorem e_W_soldier_49 (z : zZ) (d : Nat) (v1 : Int) (v2 : Int) (v3 : Int) (v4 : Int) (v5 : Int) (μ : Mu) : f_W_soldier_49 z d v1 v2 v3 v4 v5 μ = (mC z d 156 [(2, 65), (0, v1), (0, v2), (0, v3), (0, v4), (0, v5)] μ).bind fun q1 => (some (1, q1.2)) := by
  show mE z d q_W_soldier 49 [(2, 0), (0, v1), (0, v2), (0, v3), (0, v4), (0, v5)] [] μ = _
  rw [mE_bk (M := q_W_soldier) k_W_soldier.1 k_W_soldier.2 [32, 47, 49] 400]
  have key : ∀ (C : Nat → List zv → Mu → mR) (E : Nat → List zv → List zv → Mu → mR), mbk C E q_W_soldier.1 q_W_soldier.2.1 z q_W_soldier.2.2.2 [32, 47, 49] 400 (zfind q_W_soldier.2.2.2 49) [(2, 0), (0, v1), (0, v2), (0, v3), (0, v4), (0, v5)] [] μ = (C 156 [(2, 65), (0, v1), (0, v2), (0, v3), (0, v4), (0, v5)] μ).bind fun q1 => (some (1, q1.2)) := by
    intro C E
    rfl
  exact key _ _
def g_W_isOnNet_14 (E : Nat → List zv → List zv → Mu → mR) (μ : Mu) : mR := E 14 [(9, 0)] [] μ
noncomputable def f_W_isOnNet_14 (z : zZ) (d : Nat) (μ : Mu) : mR := g_W_isOnNet_14 (fun pc ls st μ => mE z d q_W_isOnNet pc ls st μ) μ
def g_W_isOnNet_15 (E : Nat → List zv → List zv → Mu → mR) (v100 : Int) (μ : Mu) : mR := E 15 [(9, 0)] [(0, v100)] μ
noncomputable def f_W_isOnNet_15 (z : zZ) (d : Nat) (v100 : Int) (μ : Mu) : mR := g_W_isOnNet_15 (fun pc ls st μ => mE z d q_W_isOnNet pc ls st μ) v100 μ
theorem k_W_isOnNet : zprK q_W_isOnNet.2.2.2 = true ∧ zinc q_W_isOnNet.2.2.2 = true := by decide +kernel
set_option maxRecDepth 100000 in
theorem c_W_isOnNet (z : zZ) (d : Nat) (v0 : Int) (μ : Mu) : mC z (d + 1) 155 [(0, v0)] μ = bif decide (v0 < 0) then (f_W_isOnNet_14 z d μ) else (bif decide (16 ≤ v0) then (f_W_isOnNet_14 z d μ) else (f_W_isOnNet_15 z d 1 μ)) := by
  rw [mC_succ q_W_isOnNet rfl rfl rfl]
  rw [mE_bk (M := q_W_isOnNet) k_W_isOnNet.1 k_W_isOnNet.2 [14, 15] 400]
  have key : ∀ (C : Nat → List zv → Mu → mR) (E : Nat → List zv → List zv → Mu → mR), mbk C E q_W_isOnNet.1 q_W_isOnNet.2.1 z q_W_isOnNet.2.2.2 [14, 15] 400 (zfind q_W_isOnNet.2.2.2 0) (zentry q_W_isOnNet.2.2.1 [(0, v0)]) [] μ = bif decide (v0 < 0) then (g_W_isOnNet_14 E μ) else (bif decide (16 ≤ v0) then (g_W_isOnNet_14 E μ) else (g_W_isOnNet_15 E 1 μ)) := by
    intro C E
    rfl
  exact key _ _
set_option maxRecDepth 100000 in
theorem e_W_isOnNet_14 (z : zZ) (d : Nat) (μ : Mu) : f_W_isOnNet_14 z d μ = f_W_isOnNet_15 z d 0 μ := by
  show mE z d q_W_isOnNet 14 [(9, 0)] [] μ = _
  rw [mE_bk (M := q_W_isOnNet) k_W_isOnNet.1 k_W_isOnNet.2 [14, 15] 400]
  have key : ∀ (C : Nat → List zv → Mu → mR) (E : Nat → List zv → List zv → Mu → mR), mbk C E q_W_isOnNet.1 q_W_isOnNet.2.1 z q_W_isOnNet.2.2.2 [14, 15] 400 (zfind q_W_isOnNet.2.2.2 14) [(9, 0)] [] μ = g_W_isOnNet_15 E 0 μ := by
    intro C E
    rfl
  exact key _ _
set_option maxRecDepth 100000 in
theorem e_W_isOnNet_15 (z : zZ) (d : Nat) (v100 : Int) (μ : Mu) : f_W_isOnNet_15 z d v100 μ = g01 v100 (some (v100, μ)) := by
  show mE z d q_W_isOnNet 15 [(9, 0)] [(0, v100)] μ = _
  rw [mE_bk (M := q_W_isOnNet) k_W_isOnNet.1 k_W_isOnNet.2 [14, 15] 400]
  have key : ∀ (C : Nat → List zv → Mu → mR) (E : Nat → List zv → List zv → Mu → mR), mbk C E q_W_isOnNet.1 q_W_isOnNet.2.1 z q_W_isOnNet.2.2.2 [14, 15] 400 (zfind q_W_isOnNet.2.2.2 15) [(9, 0)] [(0, v100)] μ = g01 v100 (some (v100, μ)) := by
    intro C E
    rfl
  exact key _ _
def g_Sol_enlist_54 (E : Nat → List zv → List zv → Mu → mR) (μ : Mu) : mR := E 54 [(9, 0), (9, 0), (9, 0), (9, 0), (9, 0), (9, 0)] [] μ
noncomputable def f_Sol_enlist_54 (z : zZ) (d : Nat) (μ : Mu) : mR := g_Sol_enlist_54 (fun pc ls st μ => mE z d q_Sol_enlist pc ls st μ) μ
theorem k_Sol_enlist : zprK q_Sol_enlist.2.2.2 = true ∧ zinc q_Sol_enlist.2.2.2 = true := by decide +kernel
set_option maxRecDepth 100000 in
theorem c_Sol_enlist (z : zZ) (d : Nat) (v1 : Int) (v2 : Int) (v3 : Int) (v4 : Int) (v5 : Int) (μ : Mu) : mC z (d + 1) 156 [(2, 65), (0, v1), (0, v2), (0, v3), (0, v4), (0, v5)] μ = bif decide (v1 < 0) then (f_Sol_enlist_54 z d μ) else (bif decide (24 ≤ v1) then (f_Sol_enlist_54 z d μ) else (gI (zw (4 * v1)) 96 (gI (zw ((zw (4 * v1)) + 1)) 96 (gI (zw ((zw (4 * v1)) + 2)) 96 (gI (zw ((zw (4 * v1)) + 3)) 96 (f_Sol_enlist_54 z d (zup (zup (zup (zup μ 67 ((zw (4 * v1)).toNat) v2) 67 ((zw ((zw (4 * v1)) + 1)).toNat) v3) 67 ((zw ((zw (4 * v1)) + 2)).toNat) v4) 67 ((zw ((zw (4 * v1)) + 3)).toNat) v5))))))) := by
  rw [mC_succ q_Sol_enlist rfl rfl rfl]
  rw [mE_bk (M := q_Sol_enlist) k_Sol_enlist.1 k_Sol_enlist.2 [54] 400]
  have key : ∀ (C : Nat → List zv → Mu → mR) (E : Nat → List zv → List zv → Mu → mR), mbk C E q_Sol_enlist.1 q_Sol_enlist.2.1 z q_Sol_enlist.2.2.2 [54] 400 (zfind q_Sol_enlist.2.2.2 0) (zentry q_Sol_enlist.2.2.1 [(2, 65), (0, v1), (0, v2), (0, v3), (0, v4), (0, v5)]) [] μ = bif decide (v1 < 0) then (g_Sol_enlist_54 E μ) else (bif decide (24 ≤ v1) then (g_Sol_enlist_54 E μ) else (gI (zw (4 * v1)) 96 (gI (zw ((zw (4 * v1)) + 1)) 96 (gI (zw ((zw (4 * v1)) + 2)) 96 (gI (zw ((zw (4 * v1)) + 3)) 96 (g_Sol_enlist_54 E (zup (zup (zup (zup μ 67 ((zw (4 * v1)).toNat) v2) 67 ((zw ((zw (4 * v1)) + 1)).toNat) v3) 67 ((zw ((zw (4 * v1)) + 2)).toNat) v4) 67 ((zw ((zw (4 * v1)) + 3)).toNat) v5))))))) := by
    intro C E
    rfl
  exact key _ _
set_option maxRecDepth 100000 in
theorem e_Sol_enlist_54 (z : zZ) (d : Nat) (μ : Mu) : f_Sol_enlist_54 z d μ = some (0, μ) := by
  show mE z d q_Sol_enlist 54 [(9, 0), (9, 0), (9, 0), (9, 0), (9, 0), (9, 0)] [] μ = _
  rw [mE_bk (M := q_Sol_enlist) k_Sol_enlist.1 k_Sol_enlist.2 [54] 400]
  have key : ∀ (C : Nat → List zv → Mu → mR) (E : Nat → List zv → List zv → Mu → mR), mbk C E q_Sol_enlist.1 q_Sol_enlist.2.1 z q_Sol_enlist.2.2.2 [54] 400 (zfind q_Sol_enlist.2.2.2 54) [(9, 0), (9, 0), (9, 0), (9, 0), (9, 0), (9, 0)] [] μ = some (0, μ) := by
    intro C E
    rfl
  exact key _ _
def g_W_march_7 (E : Nat → List zv → List zv → Mu → mR) (v1 : Int) (v2 : Int) (v3 : Int) (v4 : Int) (v5 : Int) (μ : Mu) : mR := E 7 [(2, 0), (0, v1), (0, v2), (0, v3), (0, v4), (0, v5), (9, 0), (9, 0)] [] μ
noncomputable def f_W_march_7 (z : zZ) (d : Nat) (v1 : Int) (v2 : Int) (v3 : Int) (v4 : Int) (v5 : Int) (μ : Mu) : mR := g_W_march_7 (fun pc ls st μ => mE z d q_W_march pc ls st μ) v1 v2 v3 v4 v5 μ
def g_W_march_35 (E : Nat → List zv → List zv → Mu → mR) (μ : Mu) : mR := E 35 [(9, 0), (9, 0), (9, 0), (9, 0), (9, 0), (9, 0), (9, 0), (9, 0)] [] μ
noncomputable def f_W_march_35 (z : zZ) (d : Nat) (μ : Mu) : mR := g_W_march_35 (fun pc ls st μ => mE z d q_W_march pc ls st μ) μ
def g_W_march_38 (E : Nat → List zv → List zv → Mu → mR) (v1 : Int) (v2 : Int) (v3 : Int) (v4 : Int) (v5 : Int) (μ : Mu) : mR := E 38 [(2, 0), (0, v1), (0, v2), (0, v3), (0, v4), (0, v5), (9, 0), (9, 0)] [] μ
noncomputable def f_W_march_38 (z : zZ) (d : Nat) (v1 : Int) (v2 : Int) (v3 : Int) (v4 : Int) (v5 : Int) (μ : Mu) : mR := g_W_march_38 (fun pc ls st μ => mE z d q_W_march pc ls st μ) v1 v2 v3 v4 v5 μ
def g_W_march_83 (E : Nat → List zv → List zv → Mu → mR) (μ : Mu) : mR := E 83 [(9, 0), (9, 0), (9, 0), (9, 0), (9, 0), (9, 0), (9, 0), (9, 0)] [] μ
noncomputable def f_W_march_83 (z : zZ) (d : Nat) (μ : Mu) : mR := g_W_march_83 (fun pc ls st μ => mE z d q_W_march pc ls st μ) μ
def g_W_march_86 (E : Nat → List zv → List zv → Mu → mR) (v3 : Int) (v4 : Int) (v5 : Int) (v6 : Int) (μ : Mu) : mR := E 86 [(2, 0), (9, 0), (9, 0), (0, v3), (0, v4), (0, v5), (0, v6), (9, 0)] [] μ
noncomputable def f_W_march_86 (z : zZ) (d : Nat) (v3 : Int) (v4 : Int) (v5 : Int) (v6 : Int) (μ : Mu) : mR := g_W_march_86 (fun pc ls st μ => mE z d q_W_march pc ls st μ) v3 v4 v5 v6 μ
def g_W_march_120 (E : Nat → List zv → List zv → Mu → mR) (v5 : Int) (μ : Mu) : mR := E 120 [(2, 0), (9, 0), (9, 0), (9, 0), (9, 0), (0, v5), (9, 0), (9, 0)] [] μ
noncomputable def f_W_march_120 (z : zZ) (d : Nat) (v5 : Int) (μ : Mu) : mR := g_W_march_120 (fun pc ls st μ => mE z d q_W_march pc ls st μ) v5 μ
def g_W_march_130 (E : Nat → List zv → List zv → Mu → mR) (v100 : Int) (μ : Mu) : mR := E 130 [(9, 0), (9, 0), (9, 0), (9, 0), (9, 0), (9, 0), (9, 0), (9, 0)] [(0, v100)] μ
noncomputable def f_W_march_130 (z : zZ) (d : Nat) (v100 : Int) (μ : Mu) : mR := g_W_march_130 (fun pc ls st μ => mE z d q_W_march pc ls st μ) v100 μ
theorem k_W_march : zprK q_W_march.2.2.2 = true ∧ zinc q_W_march.2.2.2 = true := by decide +kernel
set_option maxRecDepth 100000 in
theorem c_W_march (z : zZ) (d : Nat) (v1 : Int) (v2 : Int) (v3 : Int) (v4 : Int) (v5 : Int) (μ : Mu) : mC z (d + 1) 157 [(2, 0), (0, v1), (0, v2), (0, v3), (0, v4), (0, v5)] μ = (mC z d 15 [(0, v1)] μ).bind fun q1 => (bif decide (q1.1 = 0) then (f_W_march_35 z d q1.2) else (f_W_march_7 z d v1 v2 v3 v4 v5 q1.2)) := by
  rw [mC_succ q_W_march rfl rfl rfl]
  rw [mE_bk (M := q_W_march) k_W_march.1 k_W_march.2 [7, 35, 38, 83, 86, 120, 130] 400]
  have key : ∀ (C : Nat → List zv → Mu → mR) (E : Nat → List zv → List zv → Mu → mR), mbk C E q_W_march.1 q_W_march.2.1 z q_W_march.2.2.2 [7, 35, 38, 83, 86, 120, 130] 400 (zfind q_W_march.2.2.2 0) (zentry q_W_march.2.2.1 [(2, 0), (0, v1), (0, v2), (0, v3), (0, v4), (0, v5)]) [] μ = (C 15 [(0, v1)] μ).bind fun q1 => (bif decide (q1.1 = 0) then (g_W_march_35 E q1.2) else (g_W_march_7 E v1 v2 v3 v4 v5 q1.2)) := by
    intro C E
    rfl
  exact key _ _
set_option maxRecDepth 100000 in
theorem e_W_march_35 (z : zZ) (d : Nat) (μ : Mu) : f_W_march_35 z d μ = some ((-3), μ) := by
  show mE z d q_W_march 35 [(9, 0), (9, 0), (9, 0), (9, 0), (9, 0), (9, 0), (9, 0), (9, 0)] [] μ = _
  rw [mE_bk (M := q_W_march) k_W_march.1 k_W_march.2 [7, 35, 38, 83, 86, 120, 130] 400]
  have key : ∀ (C : Nat → List zv → Mu → mR) (E : Nat → List zv → List zv → Mu → mR), mbk C E q_W_march.1 q_W_march.2.1 z q_W_march.2.2.2 [7, 35, 38, 83, 86, 120, 130] 400 (zfind q_W_march.2.2.2 35) [(9, 0), (9, 0), (9, 0), (9, 0), (9, 0), (9, 0), (9, 0), (9, 0)] [] μ = some ((-3), μ) := by
    intro C E
    rfl
  exact key _ _
set_option maxRecDepth 100000 in
theorem e_W_march_7 (z : zZ) (d : Nat) (v1 : Int) (v2 : Int) (v3 : Int) (v4 : Int) (v5 : Int) (μ : Mu) (hv1 : v1 = 0 ∨ v1 = 1) : f_W_march_7 z d v1 v2 v3 v4 v5 μ = (mC z d 37 [(2, (((4 + 9 * v1.toNat) : Nat) : Int)), (0, v2)] μ).bind fun q1 => (bif decide (q1.1 = 0) then (f_W_march_35 z d q1.2) else ((mC z d 155 [(0, v3)] q1.2).bind fun q2 => (bif decide (q2.1 = 0) then (f_W_march_35 z d q2.2) else ((mC z d 155 [(0, v4)] q2.2).bind fun q3 => (bif !decide (q3.1 = 0) then (f_W_march_38 z d v1 v2 v3 v4 v5 q3.2) else (f_W_march_35 z d q3.2)))))) := by
  show mE z d q_W_march 7 [(2, 0), (0, v1), (0, v2), (0, v3), (0, v4), (0, v5), (9, 0), (9, 0)] [] μ = _
  rw [mE_bk (M := q_W_march) k_W_march.1 k_W_march.2 [7, 35, 38, 83, 86, 120, 130] 400]
  have key : ∀ (C : Nat → List zv → Mu → mR) (E : Nat → List zv → List zv → Mu → mR), mbk C E q_W_march.1 q_W_march.2.1 z q_W_march.2.2.2 [7, 35, 38, 83, 86, 120, 130] 400 (zfind q_W_march.2.2.2 7) [(2, 0), (0, v1), (0, v2), (0, v3), (0, v4), (0, v5), (9, 0), (9, 0)] [] μ = (C 37 [(2, (((4 + 9 * v1.toNat) : Nat) : Int)), (0, v2)] μ).bind fun q1 => (bif decide (q1.1 = 0) then (g_W_march_35 E q1.2) else ((C 155 [(0, v3)] q1.2).bind fun q2 => (bif decide (q2.1 = 0) then (g_W_march_35 E q2.2) else ((C 155 [(0, v4)] q2.2).bind fun q3 => (bif !decide (q3.1 = 0) then (g_W_march_38 E v1 v2 v3 v4 v5 q3.2) else (g_W_march_35 E q3.2)))))) := by
    intro C E
    rcases hv1 with rfl | rfl <;> (rfl)
  exact key _ _
set_option maxRecDepth 100000 in
theorem e_W_march_38 (z : zZ) (d : Nat) (v1 : Int) (v2 : Int) (v3 : Int) (v4 : Int) (v5 : Int) (μ : Mu) (hv1 : v1 = 0 ∨ v1 = 1) : f_W_march_38 z d v1 v2 v3 v4 v5 μ = gI v2 12 ((mC z d 68 [(0, μ ((4 + 9 * v1.toNat) + 4) v2.toNat)] μ).bind fun q1 => ((mC z d 155 [(0, zw ((zw (v3 + q1.1)) - 1))] q1.2).bind fun q2 => (bif decide (q2.1 = 0) then (f_W_march_83 z d q2.2) else (bif decide (v5 < (-1)) then (f_W_march_83 z d q2.2) else (bif decide (v5 < q1.1) then (f_W_march_86 z d v3 v4 v5 (μ ((4 + 9 * v1.toNat) + 4) v2.toNat) q2.2) else (f_W_march_83 z d q2.2)))))) := by
  show mE z d q_W_march 38 [(2, 0), (0, v1), (0, v2), (0, v3), (0, v4), (0, v5), (9, 0), (9, 0)] [] μ = _
  rw [mE_bk (M := q_W_march) k_W_march.1 k_W_march.2 [7, 35, 38, 83, 86, 120, 130] 400]
  have key : ∀ (C : Nat → List zv → Mu → mR) (E : Nat → List zv → List zv → Mu → mR), mbk C E q_W_march.1 q_W_march.2.1 z q_W_march.2.2.2 [7, 35, 38, 83, 86, 120, 130] 400 (zfind q_W_march.2.2.2 38) [(2, 0), (0, v1), (0, v2), (0, v3), (0, v4), (0, v5), (9, 0), (9, 0)] [] μ = gI v2 12 ((C 68 [(0, μ ((4 + 9 * v1.toNat) + 4) v2.toNat)] μ).bind fun q1 => ((C 155 [(0, zw ((zw (v3 + q1.1)) - 1))] q1.2).bind fun q2 => (bif decide (q2.1 = 0) then (g_W_march_83 E q2.2) else (bif decide (v5 < (-1)) then (g_W_march_83 E q2.2) else (bif decide (v5 < q1.1) then (g_W_march_86 E v3 v4 v5 (μ ((4 + 9 * v1.toNat) + 4) v2.toNat) q2.2) else (g_W_march_83 E q2.2)))))) := by
    intro C E
    rcases hv1 with rfl | rfl <;> (rfl)
  exact key _ _
set_option maxRecDepth 100000 in
theorem e_W_march_83 (z : zZ) (d : Nat) (μ : Mu) : f_W_march_83 z d μ = some ((-3), μ) := by
  show mE z d q_W_march 83 [(9, 0), (9, 0), (9, 0), (9, 0), (9, 0), (9, 0), (9, 0), (9, 0)] [] μ = _
  rw [mE_bk (M := q_W_march) k_W_march.1 k_W_march.2 [7, 35, 38, 83, 86, 120, 130] 400]
  have key : ∀ (C : Nat → List zv → Mu → mR) (E : Nat → List zv → List zv → Mu → mR), mbk C E q_W_march.1 q_W_march.2.1 z q_W_march.2.2.2 [7, 35, 38, 83, 86, 120, 130] 400 (zfind q_W_march.2.2.2 83) [(9, 0), (9, 0), (9, 0), (9, 0), (9, 0), (9, 0), (9, 0), (9, 0)] [] μ = some ((-3), μ) := by
    intro C E
    rfl
  exact key _ _
set_option maxRecDepth 100000 in
theorem e_W_march_86 (z : zZ) (d : Nat) (v3 : Int) (v4 : Int) (v5 : Int) (v6 : Int) (μ : Mu) : f_W_march_86 z d v3 v4 v5 v6 μ = (mC z d 158 [(2, 65), (0, v6), (0, v3), (0, v4)] μ).bind fun q1 => (bif !decide (q1.1 = 0) then (bif !decide (v5 = (-1)) then (f_W_march_120 z d v5 q1.2) else (f_W_march_130 z d (q1.2 65 0) q1.2)) else (some ((-2), q1.2))) := by
  show mE z d q_W_march 86 [(2, 0), (9, 0), (9, 0), (0, v3), (0, v4), (0, v5), (0, v6), (9, 0)] [] μ = _
  rw [mE_bk (M := q_W_march) k_W_march.1 k_W_march.2 [7, 35, 38, 83, 86, 120, 130] 400]
  have key : ∀ (C : Nat → List zv → Mu → mR) (E : Nat → List zv → List zv → Mu → mR), mbk C E q_W_march.1 q_W_march.2.1 z q_W_march.2.2.2 [7, 35, 38, 83, 86, 120, 130] 400 (zfind q_W_march.2.2.2 86) [(2, 0), (9, 0), (9, 0), (0, v3), (0, v4), (0, v5), (0, v6), (9, 0)] [] μ = (C 158 [(2, 65), (0, v6), (0, v3), (0, v4)] μ).bind fun q1 => (bif !decide (q1.1 = 0) then (bif !decide (v5 = (-1)) then (g_W_march_120 E v5 q1.2) else (g_W_march_130 E (q1.2 65 0) q1.2)) else (some ((-2), q1.2))) := by
    intro C E
    rfl
  exact key _ _
set_option maxRecDepth 100000 in
theorem e_W_march_120 (z : zZ) (d : Nat) (v5 : Int) (μ : Mu) : f_W_march_120 z d v5 μ = gI v5 8 (f_W_march_130 z d (μ 66 v5.toNat) μ) := by
  show mE z d q_W_march 120 [(2, 0), (9, 0), (9, 0), (9, 0), (9, 0), (0, v5), (9, 0), (9, 0)] [] μ = _
  rw [mE_bk (M := q_W_march) k_W_march.1 k_W_march.2 [7, 35, 38, 83, 86, 120, 130] 400]
  have key : ∀ (C : Nat → List zv → Mu → mR) (E : Nat → List zv → List zv → Mu → mR), mbk C E q_W_march.1 q_W_march.2.1 z q_W_march.2.2.2 [7, 35, 38, 83, 86, 120, 130] 400 (zfind q_W_march.2.2.2 120) [(2, 0), (9, 0), (9, 0), (9, 0), (9, 0), (0, v5), (9, 0), (9, 0)] [] μ = gI v5 8 (g_W_march_130 E (μ 66 v5.toNat) μ) := by
    intro C E
    rfl
  exact key _ _
set_option maxRecDepth 100000 in
theorem e_W_march_130 (z : zZ) (d : Nat) (v100 : Int) (μ : Mu) : f_W_march_130 z d v100 μ = some (v100, μ) := by
  show mE z d q_W_march 130 [(9, 0), (9, 0), (9, 0), (9, 0), (9, 0), (9, 0), (9, 0), (9, 0)] [(0, v100)] μ = _
  rw [mE_bk (M := q_W_march) k_W_march.1 k_W_march.2 [7, 35, 38, 83, 86, 120, 130] 400]
  have key : ∀ (C : Nat → List zv → Mu → mR) (E : Nat → List zv → List zv → Mu → mR), mbk C E q_W_march.1 q_W_march.2.1 z q_W_march.2.2.2 [7, 35, 38, 83, 86, 120, 130] 400 (zfind q_W_march.2.2.2 130) [(9, 0), (9, 0), (9, 0), (9, 0), (9, 0), (9, 0), (9, 0), (9, 0)] [(0, v100)] μ = some (v100, μ) := by
    intro C E
    rfl
  exact key _ _
