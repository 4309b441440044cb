def g_Army_mostAlike_4 (E : Nat → List zv → List zv → Mu → mR) (o0 : Nat) (v1 : Int) (v2 : Int) (v3 : Int) (μ : Mu) : mR := E 4 [(2, ((o0 : Nat) : Int)), (0, v1), (0, v2), (0, v3)] [] μ
noncomputable def f_Army_mostAlike_4 (z : zZ) (d : Nat) (o0 : Nat) (v1 : Int) (v2 : Int) (v3 : Int) (μ : Mu) : mR := g_Army_mostAlike_4 (fun pc ls st μ => mE z d q_Army_mostAlike pc ls st μ) o0 v1 v2 v3 μ
theorem k_Army_mostAlike : zprK q_Army_mostAlike.2.2.2 = true ∧ zinc q_Army_mostAlike.2.2.2 = true := by decide +kernel
set_option maxRecDepth 100000 in
theorem c_Army_mostAlike (z : zZ) (d : Nat) (o0 : Nat) (v1 : Int) (μ : Mu) (ho0 : o0 = 4 ∨ o0 = 13) : mC z (d + 1) 166 [(2, ((o0 : Nat) : Int)), (0, v1)] μ = f_Army_mostAlike_4 z d o0 v1 0 0 μ := by
  rw [mC_succ q_Army_mostAlike rfl rfl rfl]
  rw [mE_bk (M := q_Army_mostAlike) k_Army_mostAlike.1 k_Army_mostAlike.2 [4] 400]
  have key : ∀ (C : Nat → List zv → Mu → mR) (E : Nat → List zv → List zv → Mu → mR), mbk C E q_Army_mostAlike.1 q_Army_mostAlike.2.1 z q_Army_mostAlike.2.2.2 [4] 400 (zfind q_Army_mostAlike.2.2.2 0) (zentry q_Army_mostAlike.2.2.1 [(2, ((o0 : Nat) : Int)), (0, v1)]) [] μ = g_Army_mostAlike_4 E o0 v1 0 0 μ := by
    intro C E
    rcases ho0 with rfl | rfl <;> (rfl)
  exact key _ _
set_option maxRecDepth 100000 in
theorem e_Army_mostAlike_4 (z : zZ) (d : Nat) (o0 : Nat) (v1 : Int) (v2 : Int) (v3 : Int) (μ : Mu) (ho0 : o0 = 4 ∨ o0 = 13) : f_Army_mostAlike_4 z d o0 v1 v2 v3 μ = bif decide (12 ≤ v3) then (some (v2, μ)) else (gI (zw (v1 + v3)) 36 (f_Army_mostAlike_4 z d o0 v1 (if v2 < μ (o0 + 3) ((zw (v1 + v3)).toNat) then μ (o0 + 3) ((zw (v1 + v3)).toNat) else v2) (zw (v3 + 1)) μ)) := by
  show mE z d q_Army_mostAlike 4 [(2, ((o0 : Nat) : Int)), (0, v1), (0, v2), (0, v3)] [] μ = _
  rw [mE_bk (M := q_Army_mostAlike) k_Army_mostAlike.1 k_Army_mostAlike.2 [4] 400]
  have key : ∀ (C : Nat → List zv → Mu → mR) (E : Nat → List zv → List zv → Mu → mR), mbk C E q_Army_mostAlike.1 q_Army_mostAlike.2.1 z q_Army_mostAlike.2.2.2 [4] 400 (zfind q_Army_mostAlike.2.2.2 4) [(2, ((o0 : Nat) : Int)), (0, v1), (0, v2), (0, v3)] [] μ = bif decide (12 ≤ v3) then (some (v2, μ)) else (gI (zw (v1 + v3)) 36 (g_Army_mostAlike_4 E o0 v1 (if v2 < μ (o0 + 3) ((zw (v1 + v3)).toNat) then μ (o0 + 3) ((zw (v1 + v3)).toNat) else v2) (zw (v3 + 1)) μ)) := by
    intro C E
    rcases ho0 with rfl | rfl <;> (rfl)
  exact key _ _
def g_Army_letterInLine_5 (E : Nat → List zv → List zv → Mu → mR) (o0 : Nat) (v1 : Int) (v2 : Int) (v3 : Int) (v4 : Int) (μ : Mu) : mR := E 5 [(2, ((o0 : Nat) : Int)), (0, v1), (0, v2), (0, v3), (0, v4)] [] μ
noncomputable def f_Army_letterInLine_5 (z : zZ) (d : Nat) (o0 : Nat) (v1 : Int) (v2 : Int) (v3 : Int) (v4 : Int) (μ : Mu) : mR := g_Army_letterInLine_5 (fun pc ls st μ => mE z d q_Army_letterInLine pc ls st μ) o0 v1 v2 v3 v4 μ
def g_Army_letterInLine_42 (E : Nat → List zv → List zv → Mu → mR) (o0 : Nat) (v1 : Int) (v2 : Int) (v3 : Int) (v4 : Int) (μ : Mu) : mR := E 42 [(2, ((o0 : Nat) : Int)), (0, v1), (0, v2), (0, v3), (0, v4)] [] μ
noncomputable def f_Army_letterInLine_42 (z : zZ) (d : Nat) (o0 : Nat) (v1 : Int) (v2 : Int) (v3 : Int) (v4 : Int) (μ : Mu) : mR := g_Army_letterInLine_42 (fun pc ls st μ => mE z d q_Army_letterInLine pc ls st μ) o0 v1 v2 v3 v4 μ
theorem k_Army_letterInLine : zprK q_Army_letterInLine.2.2.2 = true ∧ zinc q_Army_letterInLine.2.2.2 = true := by decide +kernel
set_option maxRecDepth 100000 in
theorem c_Army_letterInLine (z : zZ) (d : Nat) (o0 : Nat) (v1 : Int) (v2 : Int) (μ : Mu) (ho0 : o0 = 4 ∨ o0 = 13) : mC z (d + 1) 167 [(2, ((o0 : Nat) : Int)), (0, v1), (0, v2)] μ = f_Army_letterInLine_5 z d o0 v1 v2 0 0 μ := by
  rw [mC_succ q_Army_letterInLine rfl rfl rfl]
  rw [mE_bk (M := q_Army_letterInLine) k_Army_letterInLine.1 k_Army_letterInLine.2 [5, 42] 400]
  have key : ∀ (C : Nat → List zv → Mu → mR) (E : Nat → List zv → List zv → Mu → mR), mbk C E q_Army_letterInLine.1 q_Army_letterInLine.2.1 z q_Army_letterInLine.2.2.2 [5, 42] 400 (zfind q_Army_letterInLine.2.2.2 0) (zentry q_Army_letterInLine.2.2.1 [(2, ((o0 : Nat) : Int)), (0, v1), (0, v2)]) [] μ = g_Army_letterInLine_5 E o0 v1 v2 0 0 μ := by
    intro C E
    rcases ho0 with rfl | rfl <;> (rfl)
  exact key _ _
set_option maxRecDepth 100000 in
theorem e_Army_letterInLine_5 (z : zZ) (d : Nat) (o0 : Nat) (v1 : Int) (v2 : Int) (v3 : Int) (v4 : Int) (μ : Mu) (ho0 : o0 = 4 ∨ o0 = 13) : f_Army_letterInLine_5 z d o0 v1 v2 v3 v4 μ = bif decide (12 ≤ v4) then (some ((-1), μ)) else (gI v4 12 (gI (zw (v1 + (μ (o0 + 1) v4.toNat))) 36 (bif decide (zw (v3 + (μ (o0 + 3) ((zw (v1 + (μ (o0 + 1) v4.toNat))).toNat))) ≤ v2) then (f_Army_letterInLine_42 z d o0 v1 v2 (zw (v3 + (μ (o0 + 3) ((zw (v1 + (μ (o0 + 1) v4.toNat))).toNat)))) v4 μ) else (gI v4 12 (some (μ (o0 + 1) v4.toNat, μ)))))) := by
  show mE z d q_Army_letterInLine 5 [(2, ((o0 : Nat) : Int)), (0, v1), (0, v2), (0, v3), (0, v4)] [] μ = _
  rw [mE_bk (M := q_Army_letterInLine) k_Army_letterInLine.1 k_Army_letterInLine.2 [5, 42] 400]
  have key : ∀ (C : Nat → List zv → Mu → mR) (E : Nat → List zv → List zv → Mu → mR), mbk C E q_Army_letterInLine.1 q_Army_letterInLine.2.1 z q_Army_letterInLine.2.2.2 [5, 42] 400 (zfind q_Army_letterInLine.2.2.2 5) [(2, ((o0 : Nat) : Int)), (0, v1), (0, v2), (0, v3), (0, v4)] [] μ = bif decide (12 ≤ v4) then (some ((-1), μ)) else (gI v4 12 (gI (zw (v1 + (μ (o0 + 1) v4.toNat))) 36 (bif decide (zw (v3 + (μ (o0 + 3) ((zw (v1 + (μ (o0 + 1) v4.toNat))).toNat))) ≤ v2) then (g_Army_letterInLine_42 E o0 v1 v2 (zw (v3 + (μ (o0 + 3) ((zw (v1 + (μ (o0 + 1) v4.toNat))).toNat)))) v4 μ) else (gI v4 12 (some (μ (o0 + 1) v4.toNat, μ)))))) := by
    intro C E
    rcases ho0 with rfl | rfl <;> (rfl)
  exact key _ _
set_option maxRecDepth 100000 in
theorem e_Army_letterInLine_42 (z : zZ) (d : Nat) (o0 : Nat) (v1 : Int) (v2 : Int) (v3 : Int) (v4 : Int) (μ : Mu) (ho0 : o0 = 4 ∨ o0 = 13) : f_Army_letterInLine_42 z d o0 v1 v2 v3 v4 μ = f_Army_letterInLine_5 z d o0 v1 v2 v3 (zw (v4 + 1)) μ := by
  show mE z d q_Army_letterInLine 42 [(2, ((o0 : Nat) : Int)), (0, v1), (0, v2), (0, v3), (0, v4)] [] μ = _
  rw [mE_bk (M := q_Army_letterInLine) k_Army_letterInLine.1 k_Army_letterInLine.2 [5, 42] 400]
  have key : ∀ (C : Nat → List zv → Mu → mR) (E : Nat → List zv → List zv → Mu → mR), mbk C E q_Army_letterInLine.1 q_Army_letterInLine.2.1 z q_Army_letterInLine.2.2.2 [5, 42] 400 (zfind q_Army_letterInLine.2.2.2 42) [(2, ((o0 : Nat) : Int)), (0, v1), (0, v2), (0, v3), (0, v4)] [] μ = g_Army_letterInLine_5 E o0 v1 v2 v3 (zw (v4 + 1)) μ := by
    intro C E
    rcases ho0 with rfl | rfl <;> (rfl)
  exact key _ _
def g_W_keep_75 (E : Nat → List zv → List zv → Mu → mR) (v100 : Int) (μ : Mu) : mR := E 75 [(2, 0)] [(0, v100)] μ
noncomputable def f_W_keep_75 (z : zZ) (d : Nat) (v100 : Int) (μ : Mu) : mR := g_W_keep_75 (fun pc ls st μ => mE z d q_W_keep pc ls st μ) v100 μ
theorem k_W_keep : zprK q_W_keep.2.2.2 = true ∧ zinc q_W_keep.2.2.2 = true := by decide +kernel
set_option maxRecDepth 100000 in
theorem c_W_keep (z : zZ) (d : Nat) (μ : Mu) : mC z (d + 1) 168 [(2, 0)] μ = (mC z d 35 [(2, 4), (2, 73)] μ).bind fun q1 => ((mC z d 35 [(2, 13), (2, 76)] q1.2).bind fun q2 => ((mC z d 169 [(2, 58)] q2.2).bind fun q3 => ((mC z d 170 [(2, 65)] q3.2).bind fun q4 => ((mC z d 165 [(2, 4), (0, 0)] (zup (zup (zup q4.2 0 16 (q4.2 0 18)) 0 17 (q4.2 0 19)) 0 15 1)).bind fun q5 => (f_W_keep_75 z d q5.1 q5.2))))) := by
  rw [mC_succ q_W_keep rfl rfl rfl]
  rw [mE_bk (M := q_W_keep) k_W_keep.1 k_W_keep.2 [75] 400]
  have key : ∀ (C : Nat → List zv → Mu → mR) (E : Nat → List zv → List zv → Mu → mR), mbk C E q_W_keep.1 q_W_keep.2.1 z q_W_keep.2.2.2 [75] 400 (zfind q_W_keep.2.2.2 0) (zentry q_W_keep.2.2.1 [(2, 0)]) [] μ = (C 35 [(2, 4), (2, 73)] μ).bind fun q1 => ((C 35 [(2, 13), (2, 76)] q1.2).bind fun q2 => ((C 169 [(2, 58)] q2.2).bind fun q3 => ((C 170 [(2, 65)] q3.2).bind fun q4 => ((C 165 [(2, 4), (0, 0)] (zup (zup (zup q4.2 0 16 (q4.2 0 18)) 0 17 (q4.2 0 19)) 0 15 1)).bind fun q5 => (g_W_keep_75 E q5.1 q5.2))))) := by
    intro C E
    rfl
  exact key _ _
set_option maxRecDepth 100000 in
theorem e_W_keep_75 (z : zZ) (d : Nat) (v100 : Int) (μ : Mu) : f_W_keep_75 z d v100 μ = (mC z d 165 [(2, 13), (0, 0)] μ).bind fun q1 => (some (zw (v100 + q1.1), q1.2)) := by
  show mE z d q_W_keep 75 [(2, 0)] [(0, v100)] μ = _
  rw [mE_bk (M := q_W_keep) k_W_keep.1 k_W_keep.2 [75] 400]
  have key : ∀ (C : Nat → List zv → Mu → mR) (E : Nat → List zv → List zv → Mu → mR), mbk C E q_W_keep.1 q_W_keep.2.1 z q_W_keep.2.2.2 [75] 400 (zfind q_W_keep.2.2.2 75) [(2, 0)] [(0, v100)] μ = (C 165 [(2, 13), (0, 0)] μ).bind fun q1 => (some (zw (v100 + q1.1), q1.2)) := by
    intro C E
    rfl
  exact key _ _
theorem k_Fig_save : zprK q_Fig_save.2.2.2 = true ∧ zinc q_Fig_save.2.2.2 = true := by decide +kernel
set_option maxRecDepth 100000 in
theorem c_Fig_save (z : zZ) (d : Nat) (μ : Mu) : mC z (d + 1) 169 [(2, 58)] μ = some (0, zup (zcpy μ 59 0 60 0 24) 58 1 (μ 58 0)) := by
  rw [mC_succ q_Fig_save rfl rfl rfl]
  rw [mE_bk (M := q_Fig_save) k_Fig_save.1 k_Fig_save.2 [] 400]
  have key : ∀ (C : Nat → List zv → Mu → mR) (E : Nat → List zv → List zv → Mu → mR), mbk C E q_Fig_save.1 q_Fig_save.2.1 z q_Fig_save.2.2.2 [] 400 (zfind q_Fig_save.2.2.2 0) (zentry q_Fig_save.2.2.1 [(2, 58)]) [] μ = some (0, zup (zcpy μ 59 0 60 0 24) 58 1 (μ 58 0)) := by
    intro C E
    rfl
  exact key _ _
theorem k_Sol_save : zprK q_Sol_save.2.2.2 = true ∧ zinc q_Sol_save.2.2.2 = true := by decide +kernel
set_option maxRecDepth 100000 in
theorem c_Sol_save (z : zZ) (d : Nat) (μ : Mu) : mC z (d + 1) 170 [(2, 65)] μ = some (0, zcpy μ 67 0 68 0 96) := by
  rw [mC_succ q_Sol_save rfl rfl rfl]
  rw [mE_bk (M := q_Sol_save) k_Sol_save.1 k_Sol_save.2 [] 400]
  have key : ∀ (C : Nat → List zv → Mu → mR) (E : Nat → List zv → List zv → Mu → mR), mbk C E q_Sol_save.1 q_Sol_save.2.1 z q_Sol_save.2.2.2 [] 400 (zfind q_Sol_save.2.2.2 0) (zentry q_Sol_save.2.2.1 [(2, 65)]) [] μ = some (0, zcpy μ 67 0 68 0 96) := by
    intro C E
    rfl
  exact key _ _
theorem k_W_undo : zprK q_W_undo.2.2.2 = true ∧ zinc q_W_undo.2.2.2 = true := by decide +kernel
set_option maxRecDepth 100000 in
theorem c_W_undo (z : zZ) (d : Nat) (μ : Mu) : mC z (d + 1) 171 [(2, 0)] μ = bif !decide (μ 0 15 = 0) then ((mC z d 38 [(2, 4), (2, 73)] μ).bind fun q1 => ((mC z d 38 [(2, 13), (2, 76)] q1.2).bind fun q2 => ((mC z d 172 [(2, 58)] q2.2).bind fun q3 => ((mC z d 173 [(2, 65)] q3.2).bind fun q4 => (some (1, zup (zup q4.2 0 18 (q4.2 0 16)) 0 19 (q4.2 0 17))))))) else (some (0, μ)) := by
  rw [mC_succ q_W_undo rfl rfl rfl]
  rw [mE_bk (M := q_W_undo) k_W_undo.1 k_W_undo.2 [] 400]
  have key : ∀ (C : Nat → List zv → Mu → mR) (E : Nat → List zv → List zv → Mu → mR), mbk C E q_W_undo.1 q_W_undo.2.1 z q_W_undo.2.2.2 [] 400 (zfind q_W_undo.2.2.2 0) (zentry q_W_undo.2.2.1 [(2, 0)]) [] μ = bif !decide (μ 0 15 = 0) then ((C 38 [(2, 4), (2, 73)] μ).bind fun q1 => ((C 38 [(2, 13), (2, 76)] q1.2).bind fun q2 => ((C 172 [(2, 58)] q2.2).bind fun q3 => ((C 173 [(2, 65)] q3.2).bind fun q4 => (some (1, zup (zup q4.2 0 18 (q4.2 0 16)) 0 19 (q4.2 0 17))))))) else (some (0, μ)) := by
    intro C E
    rfl
  exact key _ _
theorem k_Fig_load : zprK q_Fig_load.2.2.2 = true ∧ zinc q_Fig_load.2.2.2 = true := by decide +kernel
set_option maxRecDepth 100000 in
theorem c_Fig_load (z : zZ) (d : Nat) (μ : Mu) : mC z (d + 1) 172 [(2, 58)] μ = (mC z d 139 [(2, 58)] (zup (zcpy μ 60 0 59 0 24) 58 0 (μ 58 1))).bind fun q1 => (some (0, q1.2)) := by
  rw [mC_succ q_Fig_load rfl rfl rfl]
  rw [mE_bk (M := q_Fig_load) k_Fig_load.1 k_Fig_load.2 [] 400]
  have key : ∀ (C : Nat → List zv → Mu → mR) (E : Nat → List zv → List zv → Mu → mR), mbk C E q_Fig_load.1 q_Fig_load.2.1 z q_Fig_load.2.2.2 [] 400 (zfind q_Fig_load.2.2.2 0) (zentry q_Fig_load.2.2.1 [(2, 58)]) [] μ = (C 139 [(2, 58)] (zup (zcpy μ 60 0 59 0 24) 58 0 (μ 58 1))).bind fun q1 => (some (0, q1.2)) := by
    intro C E
    rfl
  exact key _ _
theorem k_Sol_load : zprK q_Sol_load.2.2.2 = true ∧ zinc q_Sol_load.2.2.2 = true := by decide +kernel
set_option maxRecDepth 100000 in
theorem c_Sol_load (z : zZ) (d : Nat) (μ : Mu) : mC z (d + 1) 173 [(2, 65)] μ = some (0, zcpy μ 68 0 67 0 96) := by
  rw [mC_succ q_Sol_load rfl rfl rfl]
  rw [mE_bk (M := q_Sol_load) k_Sol_load.1 k_Sol_load.2 [] 400]
  have key : ∀ (C : Nat → List zv → Mu → mR) (E : Nat → List zv → List zv → Mu → mR), mbk C E q_Sol_load.1 q_Sol_load.2.1 z q_Sol_load.2.2.2 [] 400 (zfind q_Sol_load.2.2.2 0) (zentry q_Sol_load.2.2.1 [(2, 65)]) [] μ = some (0, zcpy μ 68 0 67 0 96) := by
    intro C E
    rfl
  exact key _ _
def g_W_check_30 (E : Nat → List zv → List zv → Mu → mR) (μ : Mu) : mR := E 30 [(9, 0), (9, 0), (9, 0), (9, 0)] [] μ
noncomputable def f_W_check_30 (z : zZ) (d : Nat) (μ : Mu) : mR := g_W_check_30 (fun pc ls st μ => mE z d q_W_check pc ls st μ) μ
def g_W_check_33 (E : Nat → List zv → List zv → Mu → mR) (v1 : Int) (v2 : Int) (μ : Mu) : mR := E 33 [(2, 0), (0, v1), (0, v2), (9, 0)] [] μ
noncomputable def f_W_check_33 (z : zZ) (d : Nat) (v1 : Int) (v2 : Int) (μ : Mu) : mR := g_W_check_33 (fun pc ls st μ => mE z d q_W_check pc ls st μ) v1 v2 μ
def g_W_check_45 (E : Nat → List zv → List zv → Mu → mR) (v1 : Int) (v2 : Int) (v3 : Int) (μ : Mu) : mR := E 45 [(2, 0), (0, v1), (0, v2), (0, v3)] [] μ
noncomputable def f_W_check_45 (z : zZ) (d : Nat) (v1 : Int) (v2 : Int) (v3 : Int) (μ : Mu) : mR := g_W_check_45 (fun pc ls st μ => mE z d q_W_check pc ls st μ) v1 v2 v3 μ
def g_W_check_50 (E : Nat → List zv → List zv → Mu → mR) (v1 : Int) (v2 : Int) (v3 : Int) (μ : Mu) : mR := E 50 [(2, 0), (0, v1), (0, v2), (0, v3)] [] μ
noncomputable def f_W_check_50 (z : zZ) (d : Nat) (v1 : Int) (v2 : Int) (v3 : Int) (μ : Mu) : mR := g_W_check_50 (fun pc ls st μ => mE z d q_W_check pc ls st μ) v1 v2 v3 μ
theorem k_W_check : zprK q_W_check.2.2.2 = true ∧ zinc q_W_check.2.2.2 = true := by decide +kernel
set_option maxRecDepth 100000 in
theorem c_W_check (z : zZ) (d : Nat) (v1 : Int) (v2 : Int) (μ : Mu) : mC z (d + 1) 174 [(2, 0), (0, v1), (0, v2)] μ = (mC z d 15 [(0, v1)] μ).bind fun q1 => (bif decide (q1.1 = 0) then (f_W_check_30 z d q1.2) else (bif decide (v2 < 0) then (f_W_check_30 z d q1.2) else (bif decide (12 < v2) then (f_W_check_30 z d q1.2) else (bif decide (zw (4 * v2) ≤ q1.2 1 1) then (f_W_check_33 z d v1 v2 q1.2) else (f_W_check_30 z d q1.2))))) := by
  rw [mC_succ q_W_check rfl rfl rfl]
  rw [mE_bk (M := q_W_check) k_W_check.1 k_W_check.2 [30, 33, 45, 50] 400]
  have key : ∀ (C : Nat → List zv → Mu → mR) (E : Nat → List zv → List zv → Mu → mR), mbk C E q_W_check.1 q_W_check.2.1 z q_W_check.2.2.2 [30, 33, 45, 50] 400 (zfind q_W_check.2.2.2 0) (zentry q_W_check.2.2.1 [(2, 0), (0, v1), (0, v2)]) [] μ = (C 15 [(0, v1)] μ).bind fun q1 => (bif decide (q1.1 = 0) then (g_W_check_30 E q1.2) else (bif decide (v2 < 0) then (g_W_check_30 E q1.2) else (bif decide (12 < v2) then (g_W_check_30 E q1.2) else (bif decide (zw (4 * v2) ≤ q1.2 1 1) then (g_W_check_33 E v1 v2 q1.2) else (g_W_check_30 E q1.2))))) := by
    intro C E
    rfl
  exact key _ _
set_option maxRecDepth 100000 in
theorem e_W_check_30 (z : zZ) (d : Nat) (μ : Mu) : f_W_check_30 z d μ = some ((-2), μ) := by
  show mE z d q_W_check 30 [(9, 0), (9, 0), (9, 0), (9, 0)] [] μ = _
  rw [mE_bk (M := q_W_check) k_W_check.1 k_W_check.2 [30, 33, 45, 50] 400]
  have key : ∀ (C : Nat → List zv → Mu → mR) (E : Nat → List zv → List zv → Mu → mR), mbk C E q_W_check.1 q_W_check.2.1 z q_W_check.2.2.2 [30, 33, 45, 50] 400 (zfind q_W_check.2.2.2 30) [(9, 0), (9, 0), (9, 0), (9, 0)] [] μ = some ((-2), μ) := by
    intro C E
    rfl
  exact key _ _
set_option maxRecDepth 100000 in
theorem e_W_check_33 (z : zZ) (d : Nat) (v1 : Int) (v2 : Int) (μ : Mu) : f_W_check_33 z d v1 v2 μ = (mC z d 19 [(2, 1), (0, zw (4 * v2))] μ).bind fun q1 => (f_W_check_45 z d v1 v2 0 q1.2) := by
  show mE z d q_W_check 33 [(2, 0), (0, v1), (0, v2), (9, 0)] [] μ = _
  rw [mE_bk (M := q_W_check) k_W_check.1 k_W_check.2 [30, 33, 45, 50] 400]
  have key : ∀ (C : Nat → List zv → Mu → mR) (E : Nat → List zv → List zv → Mu → mR), mbk C E q_W_check.1 q_W_check.2.1 z q_W_check.2.2.2 [30, 33, 45, 50] 400 (zfind q_W_check.2.2.2 33) [(2, 0), (0, v1), (0, v2), (9, 0)] [] μ = (C 19 [(2, 1), (0, zw (4 * v2))] μ).bind fun q1 => (g_W_check_45 E v1 v2 0 q1.2) := by
    intro C E
    rfl
  exact key _ _
set_option maxRecDepth 100000 in
theorem e_W_check_45 (z : zZ) (d : Nat) (v1 : Int) (v2 : Int) (v3 : Int) (μ : Mu) : f_W_check_45 z d v1 v2 v3 μ = bif decide (v2 ≤ v3) then (some ((-1), μ)) else (f_W_check_50 z d v1 v2 v3 μ) := by
  show mE z d q_W_check 45 [(2, 0), (0, v1), (0, v2), (0, v3)] [] μ = _
  rw [mE_bk (M := q_W_check) k_W_check.1 k_W_check.2 [30, 33, 45, 50] 400]
  have key : ∀ (C : Nat → List zv → Mu → mR) (E : Nat → List zv → List zv → Mu → mR), mbk C E q_W_check.1 q_W_check.2.1 z q_W_check.2.2.2 [30, 33, 45, 50] 400 (zfind q_W_check.2.2.2 45) [(2, 0), (0, v1), (0, v2), (0, v3)] [] μ = bif decide (v2 ≤ v3) then (some ((-1), μ)) else (g_W_check_50 E v1 v2 v3 μ) := by
    intro C E
    rfl
  exact key _ _
set_option maxRecDepth 100000 in
theorem e_W_check_50 (z : zZ) (d : Nat) (v1 : Int) (v2 : Int) (v3 : Int) (μ : Mu) (hv1 : v1 = 0 ∨ v1 = 1) : f_W_check_50 z d v1 v2 v3 μ = (mC z d 175 [(2, 1)] μ).bind fun q1 => (gI (zw (0 + v3)) 36 (bif decide (q1.1 = q1.2 ((4 + 9 * v1.toNat) + 3) ((zw (0 + v3)).toNat)) then (f_W_check_45 z d v1 v2 (zw (v3 + 1)) q1.2) else (some (v3, q1.2)))) := by
  show mE z d q_W_check 50 [(2, 0), (0, v1), (0, v2), (0, v3)] [] μ = _
  rw [mE_bk (M := q_W_check) k_W_check.1 k_W_check.2 [30, 33, 45, 50] 400]
  have key : ∀ (C : Nat → List zv → Mu → mR) (E : Nat → List zv → List zv → Mu → mR), mbk C E q_W_check.1 q_W_check.2.1 z q_W_check.2.2.2 [30, 33, 45, 50] 400 (zfind q_W_check.2.2.2 50) [(2, 0), (0, v1), (0, v2), (0, v3)] [] μ = (C 175 [(2, 1)] μ).bind fun q1 => (gI (zw (0 + v3)) 36 (bif decide (q1.1 = q1.2 ((4 + 9 * v1.toNat) + 3) ((zw (0 + v3)).toNat)) then (g_W_check_45 E v1 v2 (zw (v3 + 1)) q1.2) else (some (v3, q1.2)))) := by
    intro C E
    rcases hv1 with rfl | rfl <;> (rfl)
  exact key _ _
def g_Tape_takeNumber_4 (E : Nat → List zv → List zv → Mu → mR) (v1 : Int) (v2 : Int) (μ : Mu) : mR := E 4 [(2, 1), (0, v1), (0, v2)] [] μ
noncomputable def f_Tape_takeNumber_4 (z : zZ) (d : Nat) (v1 : Int) (v2 : Int) (μ : Mu) : mR := g_Tape_takeNumber_4 (fun pc ls st μ => mE z d q_Tape_takeNumber pc ls st μ) v1 v2 μ
theorem k_Tape_takeNumber : zprK q_Tape_takeNumber.2.2.2 = true ∧ zinc q_Tape_takeNumber.2.2.2 = true := by decide +kernel
set_option maxRecDepth 100000 in
theorem c_Tape_takeNumber (z : zZ) (d : Nat) (μ : Mu) : mC z (d + 1) 175 [(2, 1)] μ = f_Tape_takeNumber_4 z d 0 0 μ := by
  rw [mC_succ q_Tape_takeNumber rfl rfl rfl]
  rw [mE_bk (M := q_Tape_takeNumber) k_Tape_takeNumber.1 k_Tape_takeNumber.2 [4] 400]
  have key : ∀ (C : Nat → List zv → Mu → mR) (E : Nat → List zv → List zv → Mu → mR), mbk C E q_Tape_takeNumber.1 q_Tape_takeNumber.2.1 z q_Tape_takeNumber.2.2.2 [4] 400 (zfind q_Tape_takeNumber.2.2.2 0) (zentry q_Tape_takeNumber.2.2.1 [(2, 1)]) [] μ = g_Tape_takeNumber_4 E 0 0 μ := by
    intro C E
    rfl
  exact key _ _
set_option maxRecDepth 100000 in
theorem e_Tape_takeNumber_4 (z : zZ) (d : Nat) (v1 : Int) (v2 : Int) (μ : Mu) : f_Tape_takeNumber_4 z d v1 v2 μ = bif decide (4 ≤ v2) then (some (v1, μ)) else ((mC z d 21 [(2, 1)] μ).bind fun q1 => (f_Tape_takeNumber_4 z d (z_or (z_shl v1 8) (z_and q1.1 255)) (zw (v2 + 1)) q1.2)) := by
  show mE z d q_Tape_takeNumber 4 [(2, 1), (0, v1), (0, v2)] [] μ = _
  rw [mE_bk (M := q_Tape_takeNumber) k_Tape_takeNumber.1 k_Tape_takeNumber.2 [4] 400]
  have key : ∀ (C : Nat → List zv → Mu → mR) (E : Nat → List zv → List zv → Mu → mR), mbk C E q_Tape_takeNumber.1 q_Tape_takeNumber.2.1 z q_Tape_takeNumber.2.2.2 [4] 400 (zfind q_Tape_takeNumber.2.2.2 4) [(2, 1), (0, v1), (0, v2)] [] μ = bif decide (4 ≤ v2) then (some (v1, μ)) else ((C 21 [(2, 1)] μ).bind fun q1 => (g_Tape_takeNumber_4 E (z_or (z_shl v1 8) (z_and q1.1 255)) (zw (v2 + 1)) q1.2)) := by
    intro C E
    rfl
  exact key _ _
def g_W_count_25 (E : Nat → List zv → List zv → Mu → mR) (v1 : Int) (μ : Mu) : mR := E 25 [(2, 0), (0, v1)] [] μ
noncomputable def f_W_count_25 (z : zZ) (d : Nat) (v1 : Int) (μ : Mu) : mR := g_W_count_25 (fun pc ls st μ => mE z d q_W_count pc ls st μ) v1 μ
def g_W_count_51 (E : Nat → List zv → List zv → Mu → mR) (v1 : Int) (v101 : Int) (μ : Mu) : mR := E 51 [(2, 0), (0, v1)] [(0, v101), (2, 3)] μ
noncomputable def f_W_count_51 (z : zZ) (d : Nat) (v1 : Int) (v101 : Int) (μ : Mu) : mR := g_W_count_51 (fun pc ls st μ => mE z d q_W_count pc ls st μ) v1 v101 μ
def g_W_count_65 (E : Nat → List zv → List zv → Mu → mR) (v1 : Int) (μ : Mu) : mR := E 65 [(2, 0), (0, v1)] [] μ
noncomputable def f_W_count_65 (z : zZ) (d : Nat) (v1 : Int) (μ : Mu) : mR := g_W_count_65 (fun pc ls st μ => mE z d q_W_count pc ls st μ) v1 μ
def g_W_count_172 (E : Nat → List zv → List zv → Mu → mR) (μ : Mu) : mR := E 172 [(2, 0), (9, 0)] [] μ
noncomputable def f_W_count_172 (z : zZ) (d : Nat) (μ : Mu) : mR := g_W_count_172 (fun pc ls st μ => mE z d q_W_count pc ls st μ) μ
def g_W_count_177 (E : Nat → List zv → List zv → Mu → mR) (μ : Mu) : mR := E 177 [(2, 0), (9, 0)] [] μ
noncomputable def f_W_count_177 (z : zZ) (d : Nat) (μ : Mu) : mR := g_W_count_177 (fun pc ls st μ => mE z d q_W_count pc ls st μ) μ
def g_W_count_185 (E : Nat → List zv → List zv → Mu → mR) (μ : Mu) : mR := E 185 [(2, 0), (9, 0)] [] μ
noncomputable def f_W_count_185 (z : zZ) (d : Nat) (μ : Mu) : mR := g_W_count_185 (fun pc ls st μ => mE z d q_W_count pc ls st μ) μ
def g_W_count_193 (E : Nat → List zv → List zv → Mu → mR) (μ : Mu) : mR := E 193 [(2, 0), (9, 0)] [] μ
noncomputable def f_W_count_193 (z : zZ) (d : Nat) (μ : Mu) : mR := g_W_count_193 (fun pc ls st μ => mE z d q_W_count pc ls st μ) μ
def g_W_count_198 (E : Nat → List zv → List zv → Mu → mR) (μ : Mu) : mR := E 198 [(2, 0), (9, 0)] [] μ
noncomputable def f_W_count_198 (z : zZ) (d : Nat) (μ : Mu) : mR := g_W_count_198 (fun pc ls st μ => mE z d q_W_count pc ls st μ) μ
def g_W_count_206 (E : Nat → List zv → List zv → Mu → mR) (μ : Mu) : mR := E 206 [(2, 0), (9, 0)] [] μ
noncomputable def f_W_count_206 (z : zZ) (d : Nat) (μ : Mu) : mR := g_W_count_206 (fun pc ls st μ => mE z d q_W_count pc ls st μ) μ
def g_W_count_214 (E : Nat → List zv → List zv → Mu → mR) (μ : Mu) : mR := E 214 [(9, 0), (9, 0)] [] μ
noncomputable def f_W_count_214 (z : zZ) (d : Nat) (μ : Mu) : mR := g_W_count_214 (fun pc ls st μ => mE z d q_W_count pc ls st μ) μ
theorem k_W_count : zprK q_W_count.2.2.2 = true ∧ zinc q_W_count.2.2.2 = true := by decide +kernel
set_option maxRecDepth 100000 in
theorem c_W_count (z : zZ) (d : Nat) (v1 : Int) (μ : Mu) : mC z (d + 1) 176 [(2, 0), (0, v1)] μ = bif decide (v1 < 220) then (f_W_count_25 z d v1 μ) else (bif decide (232 ≤ v1) then (f_W_count_25 z d v1 μ) else (gI (zw (v1 - 220)) 12 (some (μ 35 ((zw (v1 - 220)).toNat), μ)))) := by
  rw [mC_succ q_W_count rfl rfl rfl]
  rw [mE_bk (M := q_W_count) k_W_count.1 k_W_count.2 [25, 51, 65, 172, 177, 185, 193, 198, 206, 214] 400]
  have key : ∀ (C : Nat → List zv → Mu → mR) (E : Nat → List zv → List zv → Mu → mR), mbk C E q_W_count.1 q_W_count.2.1 z q_W_count.2.2.2 [25, 51, 65, 172, 177, 185, 193, 198, 206, 214] 400 (zfind q_W_count.2.2.2 0) (zentry q_W_count.2.2.1 [(2, 0), (0, v1)]) [] μ = bif decide (v1 < 220) then (g_W_count_25 E v1 μ) else (bif decide (232 ≤ v1) then (g_W_count_25 E v1 μ) else (gI (zw (v1 - 220)) 12 (some (μ 35 ((zw (v1 - 220)).toNat), μ)))) := by
    intro C E
    rfl
  exact key _ _
set_option maxRecDepth 100000 in
theorem e_W_count_25 (z : zZ) (d : Nat) (v1 : Int) (μ : Mu) : f_W_count_25 z d v1 μ = bif decide (v1 < 190) then (f_W_count_65 z d v1 μ) else (bif decide (214 ≤ v1) then (f_W_count_65 z d v1 μ) else (f_W_count_51 z d v1 (z_div (zw (v1 - 190)) 12) μ)) := by
  show mE z d q_W_count 25 [(2, 0), (0, v1)] [] μ = _
  rw [mE_bk (M := q_W_count) k_W_count.1 k_W_count.2 [25, 51, 65, 172, 177, 185, 193, 198, 206, 214] 400]
  have key : ∀ (C : Nat → List zv → Mu → mR) (E : Nat → List zv → List zv → Mu → mR), mbk C E q_W_count.1 q_W_count.2.1 z q_W_count.2.2.2 [25, 51, 65, 172, 177, 185, 193, 198, 206, 214] 400 (zfind q_W_count.2.2.2 25) [(2, 0), (0, v1)] [] μ = bif decide (v1 < 190) then (g_W_count_65 E v1 μ) else (bif decide (214 ≤ v1) then (g_W_count_65 E v1 μ) else (g_W_count_51 E v1 (z_div (zw (v1 - 190)) 12) μ)) := by
    intro C E
    rfl
  exact key _ _
set_option maxRecDepth 100000 in
theorem e_W_count_65 (z : zZ) (d : Nat) (v1 : Int) (μ : Mu) : f_W_count_65 z d v1 μ = bif decide (v1 < 160) then (bif decide (v1 < 130) then (bif decide (v1 < 100) then (bif decide (v1 < 10) then (bif decide (v1 = 0) then (f_W_count_172 z d μ) else bif decide (v1 = 1) then (f_W_count_177 z d μ) else bif decide (v1 = 2) then (f_W_count_185 z d μ) else bif decide (v1 = 3) then (f_W_count_193 z d μ) else bif decide (v1 = 4) then (f_W_count_198 z d μ) else bif decide (v1 = 5) then (f_W_count_206 z d μ) else (f_W_count_214 z d μ)) else ((mC z d 178 [(2, 0), (0, v1)] μ).bind fun q1 => (some (q1.1, q1.2)))) else ((mC z d 177 [(2, 0), (0, 0), (0, zw (v1 - 100))] μ).bind fun q2 => (some (q2.1, q2.2)))) else ((mC z d 177 [(2, 0), (0, 12), (0, zw (v1 - 130))] μ).bind fun q3 => (some (q3.1, q3.2)))) else ((mC z d 177 [(2, 0), (0, 24), (0, zw (v1 - 160))] μ).bind fun q4 => (some (q4.1, q4.2))) := by
  show mE z d q_W_count 65 [(2, 0), (0, v1)] [] μ = _
  rw [mE_bk (M := q_W_count) k_W_count.1 k_W_count.2 [25, 51, 65, 172, 177, 185, 193, 198, 206, 214] 400]
  have key : ∀ (C : Nat → List zv → Mu → mR) (E : Nat → List zv → List zv → Mu → mR), mbk C E q_W_count.1 q_W_count.2.1 z q_W_count.2.2.2 [25, 51, 65, 172, 177, 185, 193, 198, 206, 214] 400 (zfind q_W_count.2.2.2 65) [(2, 0), (0, v1)] [] μ = bif decide (v1 < 160) then (bif decide (v1 < 130) then (bif decide (v1 < 100) then (bif decide (v1 < 10) then (bif decide (v1 = 0) then (g_W_count_172 E μ) else bif decide (v1 = 1) then (g_W_count_177 E μ) else bif decide (v1 = 2) then (g_W_count_185 E μ) else bif decide (v1 = 3) then (g_W_count_193 E μ) else bif decide (v1 = 4) then (g_W_count_198 E μ) else bif decide (v1 = 5) then (g_W_count_206 E μ) else (g_W_count_214 E μ)) else ((C 178 [(2, 0), (0, v1)] μ).bind fun q1 => (some (q1.1, q1.2)))) else ((C 177 [(2, 0), (0, 0), (0, zw (v1 - 100))] μ).bind fun q2 => (some (q2.1, q2.2)))) else ((C 177 [(2, 0), (0, 12), (0, zw (v1 - 130))] μ).bind fun q3 => (some (q3.1, q3.2)))) else ((C 177 [(2, 0), (0, 24), (0, zw (v1 - 160))] μ).bind fun q4 => (some (q4.1, q4.2))) := by
    intro C E
    rfl
  exact key _ _
set_option maxRecDepth 100000 in
theorem e_W_count_51 (z : zZ) (d : Nat) (v1 : Int) (v101 : Int) (μ : Mu) (hv101 : v101 = 0 ∨ v101 = 1) : f_W_count_51 z d v1 v101 μ = gI (z_rem (zw (v1 - 190)) 12) 12 (some (μ ((4 + 9 * v101.toNat) + 1) ((z_rem (zw (v1 - 190)) 12).toNat), μ)) := by
  show mE z d q_W_count 51 [(2, 0), (0, v1)] [(0, v101), (2, 3)] μ = _
  rw [mE_bk (M := q_W_count) k_W_count.1 k_W_count.2 [25, 51, 65, 172, 177, 185, 193, 198, 206, 214] 400]
  have key : ∀ (C : Nat → List zv → Mu → mR) (E : Nat → List zv → List zv → Mu → mR), mbk C E q_W_count.1 q_W_count.2.1 z q_W_count.2.2.2 [25, 51, 65, 172, 177, 185, 193, 198, 206, 214] 400 (zfind q_W_count.2.2.2 51) [(2, 0), (0, v1)] [(0, v101), (2, 3)] μ = gI (z_rem (zw (v1 - 190)) 12) 12 (some (μ ((4 + 9 * v101.toNat) + 1) ((z_rem (zw (v1 - 190)) 12).toNat), μ)) := by
    intro C E
    rcases hv101 with rfl | rfl <;> (rfl)
  exact key _ _
set_option maxRecDepth 100000 in
theorem e_W_count_172 (z : zZ) (d : Nat) (μ : Mu) : f_W_count_172 z d μ = some (μ 0 18, μ) := by
  show mE z d q_W_count 172 [(2, 0), (9, 0)] [] μ = _
  rw [mE_bk (M := q_W_count) k_W_count.1 k_W_count.2 [25, 51, 65, 172, 177, 185, 193, 198, 206, 214] 400]
  have key : ∀ (C : Nat → List zv → Mu → mR) (E : Nat → List zv → List zv → Mu → mR), mbk C E q_W_count.1 q_W_count.2.1 z q_W_count.2.2.2 [25, 51, 65, 172, 177, 185, 193, 198, 206, 214] 400 (zfind q_W_count.2.2.2 172) [(2, 0), (9, 0)] [] μ = some (μ 0 18, μ) := by
    intro C E
    rfl
  exact key _ _
set_option maxRecDepth 100000 in
theorem e_W_count_177 (z : zZ) (d : Nat) (μ : Mu) (m0_6 : Nat) (hcm0_6 : m0_6 = 41 ∨ m0_6 = 47) (hm0_6 : μ 0 6 = ((m0_6 : Nat) : Int) + 1) : f_W_count_177 z d μ = some (μ m0_6 3, μ) := by
  show mE z d q_W_count 177 [(2, 0), (9, 0)] [] μ = _
  rw [mE_bk (M := q_W_count) k_W_count.1 k_W_count.2 [25, 51, 65, 172, 177, 185, 193, 198, 206, 214] 400]
  have key : ∀ (C : Nat → List zv → Mu → mR) (E : Nat → List zv → List zv → Mu → mR), mbk C E q_W_count.1 q_W_count.2.1 z q_W_count.2.2.2 [25, 51, 65, 172, 177, 185, 193, 198, 206, 214] 400 (zfind q_W_count.2.2.2 177) [(2, 0), (9, 0)] [] μ = some (μ m0_6 3, μ) := by
    intro C E
    rcases hcm0_6 with rfl | rfl <;> (rw [← zup_self hm0_6]; rfl)
  exact key _ _
set_option maxRecDepth 100000 in
theorem e_W_count_185 (z : zZ) (d : Nat) (μ : Mu) : f_W_count_185 z d μ = some (μ 1 1, μ) := by
  show mE z d q_W_count 185 [(2, 0), (9, 0)] [] μ = _
  rw [mE_bk (M := q_W_count) k_W_count.1 k_W_count.2 [25, 51, 65, 172, 177, 185, 193, 198, 206, 214] 400]
  have key : ∀ (C : Nat → List zv → Mu → mR) (E : Nat → List zv → List zv → Mu → mR), mbk C E q_W_count.1 q_W_count.2.1 z q_W_count.2.2.2 [25, 51, 65, 172, 177, 185, 193, 198, 206, 214] 400 (zfind q_W_count.2.2.2 185) [(2, 0), (9, 0)] [] μ = some (μ 1 1, μ) := by
    intro C E
    rfl
  exact key _ _
set_option maxRecDepth 100000 in
theorem e_W_count_193 (z : zZ) (d : Nat) (μ : Mu) : f_W_count_193 z d μ = some (μ 0 19, μ) := by
  show mE z d q_W_count 193 [(2, 0), (9, 0)] [] μ = _
  rw [mE_bk (M := q_W_count) k_W_count.1 k_W_count.2 [25, 51, 65, 172, 177, 185, 193, 198, 206, 214] 400]
  have key : ∀ (C : Nat → List zv → Mu → mR) (E : Nat → List zv → List zv → Mu → mR), mbk C E q_W_count.1 q_W_count.2.1 z q_W_count.2.2.2 [25, 51, 65, 172, 177, 185, 193, 198, 206, 214] 400 (zfind q_W_count.2.2.2 193) [(2, 0), (9, 0)] [] μ = some (μ 0 19, μ) := by
    intro C E
    rfl
  exact key _ _
set_option maxRecDepth 100000 in
theorem e_W_count_198 (z : zZ) (d : Nat) (μ : Mu) : f_W_count_198 z d μ = some (μ 58 0, μ) := by
  show mE z d q_W_count 198 [(2, 0), (9, 0)] [] μ = _
  rw [mE_bk (M := q_W_count) k_W_count.1 k_W_count.2 [25, 51, 65, 172, 177, 185, 193, 198, 206, 214] 400]
  have key : ∀ (C : Nat → List zv → Mu → mR) (E : Nat → List zv → List zv → Mu → mR), mbk C E q_W_count.1 q_W_count.2.1 z q_W_count.2.2.2 [25, 51, 65, 172, 177, 185, 193, 198, 206, 214] 400 (zfind q_W_count.2.2.2 198) [(2, 0), (9, 0)] [] μ = some (μ 58 0, μ) := by
    intro C E
    rfl
  exact key _ _
set_option maxRecDepth 100000 in
theorem e_W_count_206 (z : zZ) (d : Nat) (μ : Mu) : f_W_count_206 z d μ = (mC z d 179 [(2, 65)] μ).bind fun q1 => (some (q1.1, q1.2)) := by
  show mE z d q_W_count 206 [(2, 0), (9, 0)] [] μ = _
  rw [mE_bk (M := q_W_count) k_W_count.1 k_W_count.2 [25, 51, 65, 172, 177, 185, 193, 198, 206, 214] 400]
  have key : ∀ (C : Nat → List zv → Mu → mR) (E : Nat → List zv → List zv → Mu → mR), mbk C E q_W_count.1 q_W_count.2.1 z q_W_count.2.2.2 [25, 51, 65, 172, 177, 185, 193, 198, 206, 214] 400 (zfind q_W_count.2.2.2 206) [(2, 0), (9, 0)] [] μ = (C 179 [(2, 65)] μ).bind fun q1 => (some (q1.1, q1.2)) := by
    intro C E
    rfl
  exact key _ _
set_option maxRecDepth 100000 in
theorem e_W_count_214 (z : zZ) (d : Nat) (μ : Mu) : f_W_count_214 z d μ = some ((-1), μ) := by
  show mE z d q_W_count 214 [(9, 0), (9, 0)] [] μ = _
  rw [mE_bk (M := q_W_count) k_W_count.1 k_W_count.2 [25, 51, 65, 172, 177, 185, 193, 198, 206, 214] 400]
  have key : ∀ (C : Nat → List zv → Mu → mR) (E : Nat → List zv → List zv → Mu → mR), mbk C E q_W_count.1 q_W_count.2.1 z q_W_count.2.2.2 [25, 51, 65, 172, 177, 185, 193, 198, 206, 214] 400 (zfind q_W_count.2.2.2 214) [(9, 0), (9, 0)] [] μ = some ((-1), μ) := by
    intro C E
    rfl
  exact key _ _
def g_W_countHeld_10 (E : Nat → List zv → List zv → Mu → mR) (μ : Mu) : mR := E 10 [(9, 0), (9, 0), (9, 0)] [] μ
noncomputable def f_W_countHeld_10 (z : zZ) (d : Nat) (μ : Mu) : mR := g_W_countHeld_10 (fun pc ls st μ => mE z d q_W_countHeld pc ls st μ) μ
def g_W_countHeld_20 (E : Nat → List zv → List zv → Mu → mR) (v1 : Int) (v2 : Int) (v101 : Int) (μ : Mu) : mR := E 20 [(2, 0), (0, v1), (0, v2)] [(0, v101), (2, 3)] μ
noncomputable def f_W_countHeld_20 (z : zZ) (d : Nat) (v1 : Int) (v2 : Int) (v101 : Int) (μ : Mu) : mR := g_W_countHeld_20 (fun pc ls st μ => mE z d q_W_countHeld pc ls st μ) v1 v2 v101 μ
theorem k_W_countHeld : zprK q_W_countHeld.2.2.2 = true ∧ zinc q_W_countHeld.2.2.2 = true := by decide +kernel
set_option maxRecDepth 100000 in
theorem c_W_countHeld (z : zZ) (d : Nat) (v1 : Int) (v2 : Int) (μ : Mu) : mC z (d + 1) 177 [(2, 0), (0, v1), (0, v2)] μ = bif decide (v2 < 0) then (f_W_countHeld_10 z d μ) else (bif decide (v2 < 24) then (f_W_countHeld_20 z d v1 v2 (z_div v2 12) μ) else (f_W_countHeld_10 z d μ)) := by
  rw [mC_succ q_W_countHeld rfl rfl rfl]
  rw [mE_bk (M := q_W_countHeld) k_W_countHeld.1 k_W_countHeld.2 [10, 20] 400]
  have key : ∀ (C : Nat → List zv → Mu → mR) (E : Nat → List zv → List zv → Mu → mR), mbk C E q_W_countHeld.1 q_W_countHeld.2.1 z q_W_countHeld.2.2.2 [10, 20] 400 (zfind q_W_countHeld.2.2.2 0) (zentry q_W_countHeld.2.2.1 [(2, 0), (0, v1), (0, v2)]) [] μ = bif decide (v2 < 0) then (g_W_countHeld_10 E μ) else (bif decide (v2 < 24) then (g_W_countHeld_20 E v1 v2 (z_div v2 12) μ) else (g_W_countHeld_10 E μ)) := by
    intro C E
    rfl
  exact key _ _
set_option maxRecDepth 100000 in
theorem e_W_countHeld_10 (z : zZ) (d : Nat) (μ : Mu) : f_W_countHeld_10 z d μ = some ((-1), μ) := by
  show mE z d q_W_countHeld 10 [(9, 0), (9, 0), (9, 0)] [] μ = _
  rw [mE_bk (M := q_W_countHeld) k_W_countHeld.1 k_W_countHeld.2 [10, 20] 400]
  have key : ∀ (C : Nat → List zv → Mu → mR) (E : Nat → List zv → List zv → Mu → mR), mbk C E q_W_countHeld.1 q_W_countHeld.2.1 z q_W_countHeld.2.2.2 [10, 20] 400 (zfind q_W_countHeld.2.2.2 10) [(9, 0), (9, 0), (9, 0)] [] μ = some ((-1), μ) := by
    intro C E
    rfl
  exact key _ _
set_option maxRecDepth 100000 in
theorem e_W_countHeld_20 (z : zZ) (d : Nat) (v1 : Int) (v2 : Int) (v101 : Int) (μ : Mu) (hv101 : v101 = 0 ∨ v101 = 1) : f_W_countHeld_20 z d v1 v2 v101 μ = gI (zw (v1 + (z_rem v2 12))) 36 (some (μ ((4 + 9 * v101.toNat) + 3) ((zw (v1 + (z_rem v2 12))).toNat), μ)) := by
  show mE z d q_W_countHeld 20 [(2, 0), (0, v1), (0, v2)] [(0, v101), (2, 3)] μ = _
  rw [mE_bk (M := q_W_countHeld) k_W_countHeld.1 k_W_countHeld.2 [10, 20] 400]
  have key : ∀ (C : Nat → List zv → Mu → mR) (E : Nat → List zv → List zv → Mu → mR), mbk C E q_W_countHeld.1 q_W_countHeld.2.1 z q_W_countHeld.2.2.2 [10, 20] 400 (zfind q_W_countHeld.2.2.2 20) [(2, 0), (0, v1), (0, v2)] [(0, v101), (2, 3)] μ = gI (zw (v1 + (z_rem v2 12))) 36 (some (μ ((4 + 9 * v101.toNat) + 3) ((zw (v1 + (z_rem v2 12))).toNat), μ)) := by
    intro C E
    rcases hv101 with rfl | rfl <;> (rfl)
  exact key _ _
