def g_Army_hasWord_22 (E : Nat → List zv → List zv → Mu → mR) (μ : Mu) : mR := E 22 [(9, 0), (9, 0)] [] μ
noncomputable def f_Army_hasWord_22 (z : zZ) (d : Nat) (μ : Mu) : mR := g_Army_hasWord_22 (fun pc ls st μ => mE z d q_Army_hasWord pc ls st μ) μ
def g_Army_hasWord_23 (E : Nat → List zv → List zv → Mu → mR) (v100 : Int) (μ : Mu) : mR := E 23 [(9, 0), (9, 0)] [(0, v100)] μ
noncomputable def f_Army_hasWord_23 (z : zZ) (d : Nat) (v100 : Int) (μ : Mu) : mR := g_Army_hasWord_23 (fun pc ls st μ => mE z d q_Army_hasWord pc ls st μ) v100 μ
theorem k_Army_hasWord : zprK q_Army_hasWord.2.2.2 = true ∧ zinc q_Army_hasWord.2.2.2 = true := by decide +kernel
set_option maxRecDepth 100000 in
theorem c_Army_hasWord (z : zZ) (d : Nat) (o0 : Nat) (v1 : Int) (μ : Mu) (ho0 : o0 = 4 ∨ o0 = 13) : mC z (d + 1) 37 [(2, ((o0 : Nat) : Int)), (0, v1)] μ = bif decide (v1 < 0) then (f_Army_hasWord_22 z d μ) else (bif decide (μ o0 6 ≤ v1) then (f_Army_hasWord_22 z d μ) else (bif decide (12 ≤ v1) then (f_Army_hasWord_22 z d μ) else (f_Army_hasWord_23 z d 1 μ))) := by
  rw [mC_succ q_Army_hasWord rfl rfl rfl]
  rw [mE_bk (M := q_Army_hasWord) k_Army_hasWord.1 k_Army_hasWord.2 [22, 23] 400]
  have key : ∀ (C : Nat → List zv → Mu → mR) (E : Nat → List zv → List zv → Mu → mR), mbk C E q_Army_hasWord.1 q_Army_hasWord.2.1 z q_Army_hasWord.2.2.2 [22, 23] 400 (zfind q_Army_hasWord.2.2.2 0) (zentry q_Army_hasWord.2.2.1 [(2, ((o0 : Nat) : Int)), (0, v1)]) [] μ = bif decide (v1 < 0) then (g_Army_hasWord_22 E μ) else (bif decide (μ o0 6 ≤ v1) then (g_Army_hasWord_22 E μ) else (bif decide (12 ≤ v1) then (g_Army_hasWord_22 E μ) else (g_Army_hasWord_23 E 1 μ))) := by
    intro C E
    rcases ho0 with rfl | rfl <;> (rfl)
  exact key _ _
set_option maxRecDepth 100000 in
theorem e_Army_hasWord_22 (z : zZ) (d : Nat) (μ : Mu) : f_Army_hasWord_22 z d μ = f_Army_hasWord_23 z d 0 μ := by
  show mE z d q_Army_hasWord 22 [(9, 0), (9, 0)] [] μ = _
  rw [mE_bk (M := q_Army_hasWord) k_Army_hasWord.1 k_Army_hasWord.2 [22, 23] 400]
  have key : ∀ (C : Nat → List zv → Mu → mR) (E : Nat → List zv → List zv → Mu → mR), mbk C E q_Army_hasWord.1 q_Army_hasWord.2.1 z q_Army_hasWord.2.2.2 [22, 23] 400 (zfind q_Army_hasWord.2.2.2 22) [(9, 0), (9, 0)] [] μ = g_Army_hasWord_23 E 0 μ := by
    intro C E
    rfl
  exact key _ _
set_option maxRecDepth 100000 in
theorem e_Army_hasWord_23 (z : zZ) (d : Nat) (v100 : Int) (μ : Mu) : f_Army_hasWord_23 z d v100 μ = g01 v100 (some (v100, μ)) := by
  show mE z d q_Army_hasWord 23 [(9, 0), (9, 0)] [(0, v100)] μ = _
  rw [mE_bk (M := q_Army_hasWord) k_Army_hasWord.1 k_Army_hasWord.2 [22, 23] 400]
  have key : ∀ (C : Nat → List zv → Mu → mR) (E : Nat → List zv → List zv → Mu → mR), mbk C E q_Army_hasWord.1 q_Army_hasWord.2.1 z q_Army_hasWord.2.2.2 [22, 23] 400 (zfind q_Army_hasWord.2.2.2 23) [(9, 0), (9, 0)] [(0, v100)] μ = g01 v100 (some (v100, μ)) := by
    intro C E
    rfl
  exact key _ _
def g_Army_loadFrom_25 (E : Nat → List zv → List zv → Mu → mR) (o0 : Nat) (o1 : Nat) (v2 : Int) (μ : Mu) : mR := E 25 [(2, ((o0 : Nat) : Int)), (2, ((o1 : Nat) : Int)), (0, v2), (9, 0)] [] μ
noncomputable def f_Army_loadFrom_25 (z : zZ) (d : Nat) (o0 : Nat) (o1 : Nat) (v2 : Int) (μ : Mu) : mR := g_Army_loadFrom_25 (fun pc ls st μ => mE z d q_Army_loadFrom pc ls st μ) o0 o1 v2 μ
def g_Army_loadFrom_68 (E : Nat → List zv → List zv → Mu → mR) (o0 : Nat) (o1 : Nat) (v2 : Int) (v3 : Int) (μ : Mu) : mR := E 68 [(2, ((o0 : Nat) : Int)), (2, ((o1 : Nat) : Int)), (0, v2), (0, v3)] [] μ
noncomputable def f_Army_loadFrom_68 (z : zZ) (d : Nat) (o0 : Nat) (o1 : Nat) (v2 : Int) (v3 : Int) (μ : Mu) : mR := g_Army_loadFrom_68 (fun pc ls st μ => mE z d q_Army_loadFrom pc ls st μ) o0 o1 v2 v3 μ
def g_Army_loadFrom_80 (E : Nat → List zv → List zv → Mu → mR) (o0 : Nat) (o1 : Nat) (v2 : Int) (μ : Mu) : mR := E 80 [(2, ((o0 : Nat) : Int)), (2, ((o1 : Nat) : Int)), (0, v2), (9, 0)] [] μ
noncomputable def f_Army_loadFrom_80 (z : zZ) (d : Nat) (o0 : Nat) (o1 : Nat) (v2 : Int) (μ : Mu) : mR := g_Army_loadFrom_80 (fun pc ls st μ => mE z d q_Army_loadFrom pc ls st μ) o0 o1 v2 μ
def g_Army_loadFrom_86 (E : Nat → List zv → List zv → Mu → mR) (μ : Mu) : mR := E 86 [(9, 0), (9, 0), (9, 0), (9, 0)] [] μ
noncomputable def f_Army_loadFrom_86 (z : zZ) (d : Nat) (μ : Mu) : mR := g_Army_loadFrom_86 (fun pc ls st μ => mE z d q_Army_loadFrom pc ls st μ) μ
theorem k_Army_loadFrom : zprK q_Army_loadFrom.2.2.2 = true ∧ zinc q_Army_loadFrom.2.2.2 = true := by decide +kernel
set_option maxRecDepth 100000 in
theorem c_Army_loadFrom (z : zZ) (d : Nat) (o0 : Nat) (o1 : Nat) (μ : Mu) (ho0 : o0 = 4 ∨ o0 = 13) (ho1 : o1 = 10 ∨ o1 = 19 ∨ o1 = 73 ∨ o1 = 76 ∨ o1 = 80 ∨ o1 = 83) : mC z (d + 1) 38 [(2, ((o0 : Nat) : Int)), (2, ((o1 : Nat) : Int))] μ = f_Army_loadFrom_25 z d o0 o1 0 (zup (zcpy μ (o1 + 1) 0 (o0 + 3) 0 36) o0 7 0) := by
  rw [mC_succ q_Army_loadFrom rfl rfl rfl]
  rw [mE_bk (M := q_Army_loadFrom) k_Army_loadFrom.1 k_Army_loadFrom.2 [25, 68, 80, 86] 400]
  have key : ∀ (C : Nat → List zv → Mu → mR) (E : Nat → List zv → List zv → Mu → mR), mbk C E q_Army_loadFrom.1 q_Army_loadFrom.2.1 z q_Army_loadFrom.2.2.2 [25, 68, 80, 86] 400 (zfind q_Army_loadFrom.2.2.2 0) (zentry q_Army_loadFrom.2.2.1 [(2, ((o0 : Nat) : Int)), (2, ((o1 : Nat) : Int))]) [] μ = g_Army_loadFrom_25 E o0 o1 0 (zup (zcpy μ (o1 + 1) 0 (o0 + 3) 0 36) o0 7 0) := by
    intro C E
    rcases ho0 with rfl | rfl <;> rcases ho1 with rfl | rfl | rfl | rfl | rfl | rfl <;> (rfl)
  exact key _ _
set_option maxRecDepth 100000 in
theorem e_Army_loadFrom_25 (z : zZ) (d : Nat) (o0 : Nat) (o1 : Nat) (v2 : Int) (μ : Mu) (ho0 : o0 = 4 ∨ o0 = 13) (ho1 : o1 = 10 ∨ o1 = 19 ∨ o1 = 73 ∨ o1 = 76 ∨ o1 = 80 ∨ o1 = 83) : f_Army_loadFrom_25 z d o0 o1 v2 μ = bif decide (μ o1 2 ≤ v2) then (f_Army_loadFrom_86 z d μ) else (bif decide (6 ≤ v2) then (f_Army_loadFrom_86 z d μ) else (gI v2 6 ((mC z d 39 [(2, ((o0 : Nat) : Int)), (0, μ (o1 + 2) v2.toNat)] μ).bind fun q1 => (bif !decide (q1.1 = (-1)) then (f_Army_loadFrom_68 z d o0 o1 v2 q1.1 q1.2) else (gI v2 6 ((mC z d 40 [(2, ((o0 : Nat) : Int)), (0, q1.2 (o1 + 2) v2.toNat)] q1.2).bind fun q2 => (f_Army_loadFrom_80 z d o0 o1 v2 q2.2))))))) := by
  show mE z d q_Army_loadFrom 25 [(2, ((o0 : Nat) : Int)), (2, ((o1 : Nat) : Int)), (0, v2), (9, 0)] [] μ = _
  rw [mE_bk (M := q_Army_loadFrom) k_Army_loadFrom.1 k_Army_loadFrom.2 [25, 68, 80, 86] 400]
  have key : ∀ (C : Nat → List zv → Mu → mR) (E : Nat → List zv → List zv → Mu → mR), mbk C E q_Army_loadFrom.1 q_Army_loadFrom.2.1 z q_Army_loadFrom.2.2.2 [25, 68, 80, 86] 400 (zfind q_Army_loadFrom.2.2.2 25) [(2, ((o0 : Nat) : Int)), (2, ((o1 : Nat) : Int)), (0, v2), (9, 0)] [] μ = bif decide (μ o1 2 ≤ v2) then (g_Army_loadFrom_86 E μ) else (bif decide (6 ≤ v2) then (g_Army_loadFrom_86 E μ) else (gI v2 6 ((C 39 [(2, ((o0 : Nat) : Int)), (0, μ (o1 + 2) v2.toNat)] μ).bind fun q1 => (bif !decide (q1.1 = (-1)) then (g_Army_loadFrom_68 E o0 o1 v2 q1.1 q1.2) else (gI v2 6 ((C 40 [(2, ((o0 : Nat) : Int)), (0, q1.2 (o1 + 2) v2.toNat)] q1.2).bind fun q2 => (g_Army_loadFrom_80 E o0 o1 v2 q2.2))))))) := by
    intro C E
    rcases ho0 with rfl | rfl <;> rcases ho1 with rfl | rfl | rfl | rfl | rfl | rfl <;> (rfl)
  exact key _ _
set_option maxRecDepth 100000 in
theorem e_Army_loadFrom_86 (z : zZ) (d : Nat) (μ : Mu) : f_Army_loadFrom_86 z d μ = some (0, μ) := by
  show mE z d q_Army_loadFrom 86 [(9, 0), (9, 0), (9, 0), (9, 0)] [] μ = _
  rw [mE_bk (M := q_Army_loadFrom) k_Army_loadFrom.1 k_Army_loadFrom.2 [25, 68, 80, 86] 400]
  have key : ∀ (C : Nat → List zv → Mu → mR) (E : Nat → List zv → List zv → Mu → mR), mbk C E q_Army_loadFrom.1 q_Army_loadFrom.2.1 z q_Army_loadFrom.2.2.2 [25, 68, 80, 86] 400 (zfind q_Army_loadFrom.2.2.2 86) [(9, 0), (9, 0), (9, 0), (9, 0)] [] μ = some (0, μ) := by
    intro C E
    rfl
  exact key _ _
set_option maxRecDepth 100000 in
theorem e_Army_loadFrom_68 (z : zZ) (d : Nat) (o0 : Nat) (o1 : Nat) (v2 : Int) (v3 : Int) (μ : Mu) (ho0 : o0 = 4 ∨ o0 = 13) (ho1 : o1 = 10 ∨ o1 = 19 ∨ o1 = 73 ∨ o1 = 76 ∨ o1 = 80 ∨ o1 = 83) : f_Army_loadFrom_68 z d o0 o1 v2 v3 μ = f_Army_loadFrom_80 z d o0 o1 v2 (zup μ o0 7 (z_or (μ o0 7) (z_shl 1 v3))) := by
  show mE z d q_Army_loadFrom 68 [(2, ((o0 : Nat) : Int)), (2, ((o1 : Nat) : Int)), (0, v2), (0, v3)] [] μ = _
  rw [mE_bk (M := q_Army_loadFrom) k_Army_loadFrom.1 k_Army_loadFrom.2 [25, 68, 80, 86] 400]
  have key : ∀ (C : Nat → List zv → Mu → mR) (E : Nat → List zv → List zv → Mu → mR), mbk C E q_Army_loadFrom.1 q_Army_loadFrom.2.1 z q_Army_loadFrom.2.2.2 [25, 68, 80, 86] 400 (zfind q_Army_loadFrom.2.2.2 68) [(2, ((o0 : Nat) : Int)), (2, ((o1 : Nat) : Int)), (0, v2), (0, v3)] [] μ = g_Army_loadFrom_80 E o0 o1 v2 (zup μ o0 7 (z_or (μ o0 7) (z_shl 1 v3))) := by
    intro C E
    rcases ho0 with rfl | rfl <;> rcases ho1 with rfl | rfl | rfl | rfl | rfl | rfl <;> (rfl)
  exact key _ _
set_option maxRecDepth 100000 in
theorem e_Army_loadFrom_80 (z : zZ) (d : Nat) (o0 : Nat) (o1 : Nat) (v2 : Int) (μ : Mu) (ho0 : o0 = 4 ∨ o0 = 13) (ho1 : o1 = 10 ∨ o1 = 19 ∨ o1 = 73 ∨ o1 = 76 ∨ o1 = 80 ∨ o1 = 83) : f_Army_loadFrom_80 z d o0 o1 v2 μ = f_Army_loadFrom_25 z d o0 o1 (zw (v2 + 1)) μ := by
  show mE z d q_Army_loadFrom 80 [(2, ((o0 : Nat) : Int)), (2, ((o1 : Nat) : Int)), (0, v2), (9, 0)] [] μ = _
  rw [mE_bk (M := q_Army_loadFrom) k_Army_loadFrom.1 k_Army_loadFrom.2 [25, 68, 80, 86] 400]
  have key : ∀ (C : Nat → List zv → Mu → mR) (E : Nat → List zv → List zv → Mu → mR), mbk C E q_Army_loadFrom.1 q_Army_loadFrom.2.1 z q_Army_loadFrom.2.2.2 [25, 68, 80, 86] 400 (zfind q_Army_loadFrom.2.2.2 80) [(2, ((o0 : Nat) : Int)), (2, ((o1 : Nat) : Int)), (0, v2), (9, 0)] [] μ = g_Army_loadFrom_25 E o0 o1 (zw (v2 + 1)) μ := by
    intro C E
    rcases ho0 with rfl | rfl <;> rcases ho1 with rfl | rfl | rfl | rfl | rfl | rfl <;> (rfl)
  exact key _ _
theorem k_Army_find : zprK q_Army_find.2.2.2 = true ∧ zinc q_Army_find.2.2.2 = true := by decide +kernel
set_option maxRecDepth 100000 in
theorem c_Army_find (z : zZ) (d : Nat) (o0 : Nat) (v1 : Int) (μ : Mu) (ho0 : o0 = 4 ∨ o0 = 13) : mC z (d + 1) 39 [(2, ((o0 : Nat) : Int)), (0, v1)] μ = (mC z d 32 [(2, (((o0 + 4) : Nat) : Int)), (0, μ o0 6), (0, v1)] μ).bind fun q1 => (some (q1.1, q1.2)) := by
  rw [mC_succ q_Army_find rfl rfl rfl]
  rw [mE_bk (M := q_Army_find) k_Army_find.1 k_Army_find.2 [] 400]
  have key : ∀ (C : Nat → List zv → Mu → mR) (E : Nat → List zv → List zv → Mu → mR), mbk C E q_Army_find.1 q_Army_find.2.1 z q_Army_find.2.2.2 [] 400 (zfind q_Army_find.2.2.2 0) (zentry q_Army_find.2.2.1 [(2, ((o0 : Nat) : Int)), (0, v1)]) [] μ = (C 32 [(2, (((o0 + 4) : Nat) : Int)), (0, μ o0 6), (0, v1)] μ).bind fun q1 => (some (q1.1, q1.2)) := by
    intro C E
    rcases ho0 with rfl | rfl <;> (rfl)
  exact key _ _
def g_Army_sendHome_2 (E : Nat → List zv → List zv → Mu → mR) (o0 : Nat) (v1 : Int) (v2 : Int) (μ : Mu) : mR := E 2 [(2, ((o0 : Nat) : Int)), (0, v1), (0, v2)] [] μ
noncomputable def f_Army_sendHome_2 (z : zZ) (d : Nat) (o0 : Nat) (v1 : Int) (v2 : Int) (μ : Mu) : mR := g_Army_sendHome_2 (fun pc ls st μ => mE z d q_Army_sendHome pc ls st μ) o0 v1 v2 μ
theorem k_Army_sendHome : zprK q_Army_sendHome.2.2.2 = true ∧ zinc q_Army_sendHome.2.2.2 = true := by decide +kernel
set_option maxRecDepth 100000 in
theorem c_Army_sendHome (z : zZ) (d : Nat) (o0 : Nat) (v1 : Int) (μ : Mu) (ho0 : o0 = 4 ∨ o0 = 13) : mC z (d + 1) 40 [(2, ((o0 : Nat) : Int)), (0, v1)] μ = f_Army_sendHome_2 z d o0 v1 0 μ := by
  rw [mC_succ q_Army_sendHome rfl rfl rfl]
  rw [mE_bk (M := q_Army_sendHome) k_Army_sendHome.1 k_Army_sendHome.2 [2] 400]
  have key : ∀ (C : Nat → List zv → Mu → mR) (E : Nat → List zv → List zv → Mu → mR), mbk C E q_Army_sendHome.1 q_Army_sendHome.2.1 z q_Army_sendHome.2.2.2 [2] 400 (zfind q_Army_sendHome.2.2.2 0) (zentry q_Army_sendHome.2.2.1 [(2, ((o0 : Nat) : Int)), (0, v1)]) [] μ = g_Army_sendHome_2 E o0 v1 0 μ := by
    intro C E
    rcases ho0 with rfl | rfl <;> (rfl)
  exact key _ _
set_option maxRecDepth 100000 in
theorem e_Army_sendHome_2 (z : zZ) (d : Nat) (o0 : Nat) (v1 : Int) (v2 : Int) (μ : Mu) (ho0 : o0 = 4 ∨ o0 = 13) : f_Army_sendHome_2 z d o0 v1 v2 μ = bif decide (8 ≤ v2) then (some (0, μ)) else ((mC z d 41 [(0, v1), (0, v2)] μ).bind fun q1 => ((mC z d 42 [(2, ((o0 : Nat) : Int)), (0, 0), (0, q1.1), (0, 1)] q1.2).bind fun q2 => (f_Army_sendHome_2 z d o0 v1 (zw (v2 + 1)) q2.2))) := by
  show mE z d q_Army_sendHome 2 [(2, ((o0 : Nat) : Int)), (0, v1), (0, v2)] [] μ = _
  rw [mE_bk (M := q_Army_sendHome) k_Army_sendHome.1 k_Army_sendHome.2 [2] 400]
  have key : ∀ (C : Nat → List zv → Mu → mR) (E : Nat → List zv → List zv → Mu → mR), mbk C E q_Army_sendHome.1 q_Army_sendHome.2.1 z q_Army_sendHome.2.2.2 [2] 400 (zfind q_Army_sendHome.2.2.2 2) [(2, ((o0 : Nat) : Int)), (0, v1), (0, v2)] [] μ = bif decide (8 ≤ v2) then (some (0, μ)) else ((C 41 [(0, v1), (0, v2)] μ).bind fun q1 => ((C 42 [(2, ((o0 : Nat) : Int)), (0, 0), (0, q1.1), (0, 1)] q1.2).bind fun q2 => (g_Army_sendHome_2 E o0 v1 (zw (v2 + 1)) q2.2))) := by
    intro C E
    rcases ho0 with rfl | rfl <;> (rfl)
  exact key _ _
def g_Wrd_letterAt_23 (E : Nat → List zv → List zv → Mu → mR) (μ : Mu) : mR := E 23 [(9, 0), (9, 0)] [] μ
noncomputable def f_Wrd_letterAt_23 (z : zZ) (d : Nat) (μ : Mu) : mR := g_Wrd_letterAt_23 (fun pc ls st μ => mE z d q_Wrd_letterAt pc ls st μ) μ
def g_Wrd_letterAt_24 (E : Nat → List zv → List zv → Mu → mR) (v100 : Int) (μ : Mu) : mR := E 24 [(9, 0), (9, 0)] [(0, v100)] μ
noncomputable def f_Wrd_letterAt_24 (z : zZ) (d : Nat) (v100 : Int) (μ : Mu) : mR := g_Wrd_letterAt_24 (fun pc ls st μ => mE z d q_Wrd_letterAt pc ls st μ) v100 μ
theorem k_Wrd_letterAt : zprK q_Wrd_letterAt.2.2.2 = true ∧ zinc q_Wrd_letterAt.2.2.2 = true := by decide +kernel
set_option maxRecDepth 100000 in
theorem c_Wrd_letterAt (z : zZ) (d : Nat) (v0 : Int) (v1 : Int) (μ : Mu) : mC z (d + 1) 41 [(0, v0), (0, v1)] μ = bif decide (v1 < 0) then (f_Wrd_letterAt_23 z d μ) else (bif decide (8 ≤ v1) then (f_Wrd_letterAt_23 z d μ) else (f_Wrd_letterAt_24 z d (zw ((z_and (z_ushr v0 (zw (4 * v1))) 15) - 1)) μ)) := by
  rw [mC_succ q_Wrd_letterAt rfl rfl rfl]
  rw [mE_bk (M := q_Wrd_letterAt) k_Wrd_letterAt.1 k_Wrd_letterAt.2 [23, 24] 400]
  have key : ∀ (C : Nat → List zv → Mu → mR) (E : Nat → List zv → List zv → Mu → mR), mbk C E q_Wrd_letterAt.1 q_Wrd_letterAt.2.1 z q_Wrd_letterAt.2.2.2 [23, 24] 400 (zfind q_Wrd_letterAt.2.2.2 0) (zentry q_Wrd_letterAt.2.2.1 [(0, v0), (0, v1)]) [] μ = bif decide (v1 < 0) then (g_Wrd_letterAt_23 E μ) else (bif decide (8 ≤ v1) then (g_Wrd_letterAt_23 E μ) else (g_Wrd_letterAt_24 E (zw ((z_and (z_ushr v0 (zw (4 * v1))) 15) - 1)) μ)) := by
    intro C E
    rfl
  exact key _ _
set_option maxRecDepth 100000 in
theorem e_Wrd_letterAt_23 (z : zZ) (d : Nat) (μ : Mu) : f_Wrd_letterAt_23 z d μ = f_Wrd_letterAt_24 z d ((-1)) μ := by
  show mE z d q_Wrd_letterAt 23 [(9, 0), (9, 0)] [] μ = _
  rw [mE_bk (M := q_Wrd_letterAt) k_Wrd_letterAt.1 k_Wrd_letterAt.2 [23, 24] 400]
  have key : ∀ (C : Nat → List zv → Mu → mR) (E : Nat → List zv → List zv → Mu → mR), mbk C E q_Wrd_letterAt.1 q_Wrd_letterAt.2.1 z q_Wrd_letterAt.2.2.2 [23, 24] 400 (zfind q_Wrd_letterAt.2.2.2 23) [(9, 0), (9, 0)] [] μ = g_Wrd_letterAt_24 E ((-1)) μ := by
    intro C E
    rfl
  exact key _ _
set_option maxRecDepth 100000 in
theorem e_Wrd_letterAt_24 (z : zZ) (d : Nat) (v100 : Int) (μ : Mu) : f_Wrd_letterAt_24 z d v100 μ = some (v100, μ) := by
  show mE z d q_Wrd_letterAt 24 [(9, 0), (9, 0)] [(0, v100)] μ = _
  rw [mE_bk (M := q_Wrd_letterAt) k_Wrd_letterAt.1 k_Wrd_letterAt.2 [23, 24] 400]
  have key : ∀ (C : Nat → List zv → Mu → mR) (E : Nat → List zv → List zv → Mu → mR), mbk C E q_Wrd_letterAt.1 q_Wrd_letterAt.2.1 z q_Wrd_letterAt.2.2.2 [23, 24] 400 (zfind q_Wrd_letterAt.2.2.2 24) [(9, 0), (9, 0)] [(0, v100)] μ = some (v100, μ) := by
    intro C E
    rfl
  exact key _ _
def g_Army_add_31 (E : Nat → List zv → List zv → Mu → mR) (μ : Mu) : mR := E 31 [(9, 0), (9, 0), (9, 0), (9, 0)] [] μ
noncomputable def f_Army_add_31 (z : zZ) (d : Nat) (μ : Mu) : mR := g_Army_add_31 (fun pc ls st μ => mE z d q_Army_add pc ls st μ) μ
theorem k_Army_add : zprK q_Army_add.2.2.2 = true ∧ zinc q_Army_add.2.2.2 = true := by decide +kernel
set_option maxRecDepth 100000 in
theorem c_Army_add (z : zZ) (d : Nat) (o0 : Nat) (v1 : Int) (v2 : Int) (v3 : Int) (μ : Mu) (ho0 : o0 = 4 ∨ o0 = 13) : mC z (d + 1) 42 [(2, ((o0 : Nat) : Int)), (0, v1), (0, v2), (0, v3)] μ = (mC z d 13 [(0, v2)] μ).bind fun q1 => (bif decide (q1.1 = 0) then (f_Army_add_31 z d q1.2) else (gI (zw (v1 + v2)) 36 (gI (zw (v1 + v2)) 36 (f_Army_add_31 z d (zup q1.2 (o0 + 3) ((zw (v1 + v2)).toNat) (if zw ((q1.2 (o0 + 3) ((zw (v1 + v2)).toNat)) + v3) < 999 then zw ((q1.2 (o0 + 3) ((zw (v1 + v2)).toNat)) + v3) else 999)))))) := by
  rw [mC_succ q_Army_add rfl rfl rfl]
  rw [mE_bk (M := q_Army_add) k_Army_add.1 k_Army_add.2 [31] 400]
  have key : ∀ (C : Nat → List zv → Mu → mR) (E : Nat → List zv → List zv → Mu → mR), mbk C E q_Army_add.1 q_Army_add.2.1 z q_Army_add.2.2.2 [31] 400 (zfind q_Army_add.2.2.2 0) (zentry q_Army_add.2.2.1 [(2, ((o0 : Nat) : Int)), (0, v1), (0, v2), (0, v3)]) [] μ = (C 13 [(0, v2)] μ).bind fun q1 => (bif decide (q1.1 = 0) then (g_Army_add_31 E q1.2) else (gI (zw (v1 + v2)) 36 (gI (zw (v1 + v2)) 36 (g_Army_add_31 E (zup q1.2 (o0 + 3) ((zw (v1 + v2)).toNat) (if zw ((q1.2 (o0 + 3) ((zw (v1 + v2)).toNat)) + v3) < 999 then zw ((q1.2 (o0 + 3) ((zw (v1 + v2)).toNat)) + v3) else 999)))))) := by
    intro C E
    rcases ho0 with rfl | rfl <;> (rfl)
  exact key _ _
set_option maxRecDepth 100000 in
theorem e_Army_add_31 (z : zZ) (d : Nat) (μ : Mu) : f_Army_add_31 z d μ = some (0, μ) := by
  show mE z d q_Army_add 31 [(9, 0), (9, 0), (9, 0), (9, 0)] [] μ = _
  rw [mE_bk (M := q_Army_add) k_Army_add.1 k_Army_add.2 [31] 400]
  have key : ∀ (C : Nat → List zv → Mu → mR) (E : Nat → List zv → List zv → Mu → mR), mbk C E q_Army_add.1 q_Army_add.2.1 z q_Army_add.2.2.2 [31] 400 (zfind q_Army_add.2.2.2 31) [(9, 0), (9, 0), (9, 0), (9, 0)] [] μ = some (0, μ) := by
    intro C E
    rfl
  exact key _ _
theorem k_Tape_pass : zprK q_Tape_pass.2.2.2 = true ∧ zinc q_Tape_pass.2.2.2 = true := by decide +kernel
set_option maxRecDepth 100000 in
theorem c_Tape_pass (z : zZ) (d : Nat) (v1 : Int) (μ : Mu) : mC z (d + 1) 43 [(2, 1), (0, v1)] μ = (mC z d 22 [(2, 1)] μ).bind fun q1 => (bif !decide (q1.1 = v1) then ((mC z d 28 [(2, 1), (0, 1), (0, q1.2 1 2)] q1.2).bind fun q2 => (some (0, q2.2))) else (some (1, zup q1.2 1 2 (zw ((q1.2 1 2) + 1))))) := by
  rw [mC_succ q_Tape_pass rfl rfl rfl]
  rw [mE_bk (M := q_Tape_pass) k_Tape_pass.1 k_Tape_pass.2 [] 400]
  have key : ∀ (C : Nat → List zv → Mu → mR) (E : Nat → List zv → List zv → Mu → mR), mbk C E q_Tape_pass.1 q_Tape_pass.2.1 z q_Tape_pass.2.2.2 [] 400 (zfind q_Tape_pass.2.2.2 0) (zentry q_Tape_pass.2.2.1 [(2, 1), (0, v1)]) [] μ = (C 22 [(2, 1)] μ).bind fun q1 => (bif !decide (q1.1 = v1) then ((C 28 [(2, 1), (0, 1), (0, q1.2 1 2)] q1.2).bind fun q2 => (some (0, q2.2))) else (some (1, zup q1.2 1 2 (zw ((q1.2 1 2) + 1))))) := by
    intro C E
    rfl
  exact key _ _
def g_W_law_25 (E : Nat → List zv → List zv → Mu → mR) (v1 : Int) (μ : Mu) : mR := E 25 [(2, 0), (0, v1), (9, 0)] [] μ
noncomputable def f_W_law_25 (z : zZ) (d : Nat) (v1 : Int) (μ : Mu) : mR := g_W_law_25 (fun pc ls st μ => mE z d q_W_law pc ls st μ) v1 μ
def g_W_law_40 (E : Nat → List zv → List zv → Mu → mR) (v1 : Int) (μ : Mu) : mR := E 40 [(2, 0), (0, v1), (9, 0)] [] μ
noncomputable def f_W_law_40 (z : zZ) (d : Nat) (v1 : Int) (μ : Mu) : mR := g_W_law_40 (fun pc ls st μ => mE z d q_W_law pc ls st μ) v1 μ
theorem k_W_law : zprK q_W_law.2.2.2 = true ∧ zinc q_W_law.2.2.2 = true := by decide +kernel
set_option maxRecDepth 100000 in
theorem c_W_law (z : zZ) (d : Nat) (v1 : Int) (μ : Mu) : mC z (d + 1) 44 [(2, 0), (0, v1)] μ = (mC z d 25 [(2, 1), (0, v1), (0, 1), (0, 200)] μ).bind fun q1 => (bif !decide (q1.1 = 0) then ((mC z d 19 [(2, 1), (0, v1)] q1.2).bind fun q2 => (f_W_law_25 z d v1 q2.2)) else (some ((-1), q1.2))) := by
  rw [mC_succ q_W_law rfl rfl rfl]
  rw [mE_bk (M := q_W_law) k_W_law.1 k_W_law.2 [25, 40] 400]
  have key : ∀ (C : Nat → List zv → Mu → mR) (E : Nat → List zv → List zv → Mu → mR), mbk C E q_W_law.1 q_W_law.2.1 z q_W_law.2.2.2 [25, 40] 400 (zfind q_W_law.2.2.2 0) (zentry q_W_law.2.2.1 [(2, 0), (0, v1)]) [] μ = (C 25 [(2, 1), (0, v1), (0, 1), (0, 200)] μ).bind fun q1 => (bif !decide (q1.1 = 0) then ((C 19 [(2, 1), (0, v1)] q1.2).bind fun q2 => (g_W_law_25 E v1 q2.2)) else (some ((-1), q1.2))) := by
    intro C E
    rfl
  exact key _ _
set_option maxRecDepth 100000 in
theorem e_W_law_25 (z : zZ) (d : Nat) (v1 : Int) (μ : Mu) (m0_7 : Nat) (hcm0_7 : m0_7 = 41 ∨ m0_7 = 47) (hm0_7 : μ 0 7 = ((m0_7 : Nat) : Int) + 1) : f_W_law_25 z d v1 μ = (mC z d 45 [(2, 40), (2, 1), (2, ((m0_7 : Nat) : Int))] μ).bind fun q1 => (f_W_law_40 z d v1 q1.2) := by
  show mE z d q_W_law 25 [(2, 0), (0, v1), (9, 0)] [] μ = _
  rw [mE_bk (M := q_W_law) k_W_law.1 k_W_law.2 [25, 40] 400]
  have key : ∀ (C : Nat → List zv → Mu → mR) (E : Nat → List zv → List zv → Mu → mR), mbk C E q_W_law.1 q_W_law.2.1 z q_W_law.2.2.2 [25, 40] 400 (zfind q_W_law.2.2.2 25) [(2, 0), (0, v1), (9, 0)] [] μ = (C 45 [(2, 40), (2, 1), (2, ((m0_7 : Nat) : Int))] μ).bind fun q1 => (g_W_law_40 E v1 q1.2) := by
    intro C E
    rcases hcm0_7 with rfl | rfl <;> (rw [← zup_self hm0_7]; rfl)
  exact key _ _
set_option maxRecDepth 100000 in
theorem e_W_law_40 (z : zZ) (d : Nat) (v1 : Int) (μ : Mu) (m0_6 : Nat) (hcm0_6 : m0_6 = 41 ∨ m0_6 = 47) (hm0_6 : μ 0 6 = ((m0_6 : Nat) : Int) + 1) (m0_7 : Nat) (hcm0_7 : m0_7 = 41 ∨ m0_7 = 47) (hm0_7 : μ 0 7 = ((m0_7 : Nat) : Int) + 1) : f_W_law_40 z d v1 μ = bif decide (μ 1 4 = 0) then (some (μ m0_7 3, zup (zup μ 0 6 (((m0_7 : Nat) : Int) + 1)) 0 7 (((m0_6 : Nat) : Int) + 1))) else (some (μ 1 4, μ)) := by
  show mE z d q_W_law 40 [(2, 0), (0, v1), (9, 0)] [] μ = _
  rw [mE_bk (M := q_W_law) k_W_law.1 k_W_law.2 [25, 40] 400]
  have key : ∀ (C : Nat → List zv → Mu → mR) (E : Nat → List zv → List zv → Mu → mR), mbk C E q_W_law.1 q_W_law.2.1 z q_W_law.2.2.2 [25, 40] 400 (zfind q_W_law.2.2.2 40) [(2, 0), (0, v1), (9, 0)] [] μ = bif decide (μ 1 4 = 0) then (some (μ m0_7 3, zup (zup μ 0 6 (((m0_7 : Nat) : Int) + 1)) 0 7 (((m0_6 : Nat) : Int) + 1))) else (some (μ 1 4, μ)) := by
    intro C E
    rcases hcm0_6 with rfl | rfl <;> rcases hcm0_7 with rfl | rfl <;> (rw [← zup_self hm0_6, ← zup_self hm0_7]; rfl)
  exact key _ _
def g_Rdr_read_19 (E : Nat → List zv → List zv → Mu → mR) (v3 : Int) (μ : Mu) : mR := E 19 [(2, 40), (9, 0), (9, 0), (0, v3)] [] μ
noncomputable def f_Rdr_read_19 (z : zZ) (d : Nat) (v3 : Int) (μ : Mu) : mR := g_Rdr_read_19 (fun pc ls st μ => mE z d q_Rdr_read pc ls st μ) v3 μ
def g_Rdr_read_50 (E : Nat → List zv → List zv → Mu → mR) (v3 : Int) (μ : Mu) : mR := E 50 [(2, 40), (9, 0), (9, 0), (0, v3)] [] μ
noncomputable def f_Rdr_read_50 (z : zZ) (d : Nat) (v3 : Int) (μ : Mu) : mR := g_Rdr_read_50 (fun pc ls st μ => mE z d q_Rdr_read pc ls st μ) v3 μ
def g_Rdr_read_64 (E : Nat → List zv → List zv → Mu → mR) (v3 : Int) (μ : Mu) : mR := E 64 [(2, 40), (9, 0), (9, 0), (0, v3)] [] μ
noncomputable def f_Rdr_read_64 (z : zZ) (d : Nat) (v3 : Int) (μ : Mu) : mR := g_Rdr_read_64 (fun pc ls st μ => mE z d q_Rdr_read pc ls st μ) v3 μ
def g_Rdr_read_74 (E : Nat → List zv → List zv → Mu → mR) (μ : Mu) : mR := E 74 [(9, 0), (9, 0), (9, 0), (9, 0)] [] μ
noncomputable def f_Rdr_read_74 (z : zZ) (d : Nat) (μ : Mu) : mR := g_Rdr_read_74 (fun pc ls st μ => mE z d q_Rdr_read pc ls st μ) μ
theorem k_Rdr_read : zprK q_Rdr_read.2.2.2 = true ∧ zinc q_Rdr_read.2.2.2 = true := by decide +kernel
set_option maxRecDepth 100000 in
theorem c_Rdr_read (z : zZ) (d : Nat) (o2 : Nat) (μ : Mu) (ho2 : o2 = 41 ∨ o2 = 47) : mC z (d + 1) 45 [(2, 40), (2, 1), (2, ((o2 : Nat) : Int))] μ = (mC z d 46 [(2, ((o2 : Nat) : Int))] (zup (zup μ 40 0 2) 40 1 (((o2 : Nat) : Int) + 1))).bind fun q1 => (f_Rdr_read_19 z d 0 q1.2) := by
  rw [mC_succ q_Rdr_read rfl rfl rfl]
  rw [mE_bk (M := q_Rdr_read) k_Rdr_read.1 k_Rdr_read.2 [19, 50, 64, 74] 400]
  have key : ∀ (C : Nat → List zv → Mu → mR) (E : Nat → List zv → List zv → Mu → mR), mbk C E q_Rdr_read.1 q_Rdr_read.2.1 z q_Rdr_read.2.2.2 [19, 50, 64, 74] 400 (zfind q_Rdr_read.2.2.2 0) (zentry q_Rdr_read.2.2.1 [(2, 40), (2, 1), (2, ((o2 : Nat) : Int))]) [] μ = (C 46 [(2, ((o2 : Nat) : Int))] (zup (zup μ 40 0 2) 40 1 (((o2 : Nat) : Int) + 1))).bind fun q1 => (g_Rdr_read_19 E 0 q1.2) := by
    intro C E
    rcases ho2 with rfl | rfl <;> (rfl)
  exact key _ _
set_option maxRecDepth 100000 in
theorem e_Rdr_read_19 (z : zZ) (d : Nat) (v3 : Int) (μ : Mu) (hm40_0 : μ 40 0 = 2) : f_Rdr_read_19 z d v3 μ = bif decide (14 < v3) then (f_Rdr_read_74 z d μ) else (bif !decide (μ 1 4 = 0) then (f_Rdr_read_74 z d μ) else (bif decide (v3 ≤ 0) then (f_Rdr_read_50 z d v3 μ) else ((mC z d 33 [(2, 1)] μ).bind fun q1 => (bif decide (q1.1 = 0) then (f_Rdr_read_50 z d v3 q1.2) else (some (0, q1.2)))))) := by
  show mE z d q_Rdr_read 19 [(2, 40), (9, 0), (9, 0), (0, v3)] [] μ = _
  rw [mE_bk (M := q_Rdr_read) k_Rdr_read.1 k_Rdr_read.2 [19, 50, 64, 74] 400]
  have key : ∀ (C : Nat → List zv → Mu → mR) (E : Nat → List zv → List zv → Mu → mR), mbk C E q_Rdr_read.1 q_Rdr_read.2.1 z q_Rdr_read.2.2.2 [19, 50, 64, 74] 400 (zfind q_Rdr_read.2.2.2 19) [(2, 40), (9, 0), (9, 0), (0, v3)] [] μ = bif decide (14 < v3) then (g_Rdr_read_74 E μ) else (bif !decide (μ 1 4 = 0) then (g_Rdr_read_74 E μ) else (bif decide (v3 ≤ 0) then (g_Rdr_read_50 E v3 μ) else ((C 33 [(2, 1)] μ).bind fun q1 => (bif decide (q1.1 = 0) then (g_Rdr_read_50 E v3 q1.2) else (some (0, q1.2)))))) := by
    intro C E
    rw [← zup_self hm40_0]; rfl
  exact key _ _
set_option maxRecDepth 100000 in
theorem e_Rdr_read_74 (z : zZ) (d : Nat) (μ : Mu) : f_Rdr_read_74 z d μ = some (0, μ) := by
  show mE z d q_Rdr_read 74 [(9, 0), (9, 0), (9, 0), (9, 0)] [] μ = _
  rw [mE_bk (M := q_Rdr_read) k_Rdr_read.1 k_Rdr_read.2 [19, 50, 64, 74] 400]
  have key : ∀ (C : Nat → List zv → Mu → mR) (E : Nat → List zv → List zv → Mu → mR), mbk C E q_Rdr_read.1 q_Rdr_read.2.1 z q_Rdr_read.2.2.2 [19, 50, 64, 74] 400 (zfind q_Rdr_read.2.2.2 74) [(9, 0), (9, 0), (9, 0), (9, 0)] [] μ = some (0, μ) := by
    intro C E
    rfl
  exact key _ _
set_option maxRecDepth 100000 in
theorem e_Rdr_read_50 (z : zZ) (d : Nat) (v3 : Int) (μ : Mu) (hm40_0 : μ 40 0 = 2) : f_Rdr_read_50 z d v3 μ = bif decide (v3 ≤ 0) then (f_Rdr_read_64 z d v3 μ) else ((mC z d 43 [(2, 1), (0, 59)] μ).bind fun q1 => (f_Rdr_read_64 z d v3 q1.2)) := by
  show mE z d q_Rdr_read 50 [(2, 40), (9, 0), (9, 0), (0, v3)] [] μ = _
  rw [mE_bk (M := q_Rdr_read) k_Rdr_read.1 k_Rdr_read.2 [19, 50, 64, 74] 400]
  have key : ∀ (C : Nat → List zv → Mu → mR) (E : Nat → List zv → List zv → Mu → mR), mbk C E q_Rdr_read.1 q_Rdr_read.2.1 z q_Rdr_read.2.2.2 [19, 50, 64, 74] 400 (zfind q_Rdr_read.2.2.2 50) [(2, 40), (9, 0), (9, 0), (0, v3)] [] μ = bif decide (v3 ≤ 0) then (g_Rdr_read_64 E v3 μ) else ((C 43 [(2, 1), (0, 59)] μ).bind fun q1 => (g_Rdr_read_64 E v3 q1.2)) := by
    intro C E
    rw [← zup_self hm40_0]; rfl
  exact key _ _
set_option maxRecDepth 100000 in
theorem e_Rdr_read_64 (z : zZ) (d : Nat) (v3 : Int) (μ : Mu) : f_Rdr_read_64 z d v3 μ = (mC z d 47 [(2, 40)] μ).bind fun q1 => (f_Rdr_read_19 z d (zw (v3 + 1)) q1.2) := by
  show mE z d q_Rdr_read 64 [(2, 40), (9, 0), (9, 0), (0, v3)] [] μ = _
  rw [mE_bk (M := q_Rdr_read) k_Rdr_read.1 k_Rdr_read.2 [19, 50, 64, 74] 400]
  have key : ∀ (C : Nat → List zv → Mu → mR) (E : Nat → List zv → List zv → Mu → mR), mbk C E q_Rdr_read.1 q_Rdr_read.2.1 z q_Rdr_read.2.2.2 [19, 50, 64, 74] 400 (zfind q_Rdr_read.2.2.2 64) [(2, 40), (9, 0), (9, 0), (0, v3)] [] μ = (C 47 [(2, 40)] μ).bind fun q1 => (g_Rdr_read_19 E (zw (v3 + 1)) q1.2) := by
    intro C E
    rfl
  exact key _ _
theorem k_Law_clear : zprK q_Law_clear.2.2.2 = true ∧ zinc q_Law_clear.2.2.2 = true := by decide +kernel
set_option maxRecDepth 100000 in
theorem c_Law_clear (z : zZ) (d : Nat) (o0 : Nat) (μ : Mu) (ho0 : o0 = 41 ∨ o0 = 47) : mC z (d + 1) 46 [(2, ((o0 : Nat) : Int))] μ = some (0, zup (zup μ o0 3 0) o0 5 0) := by
  rw [mC_succ q_Law_clear rfl rfl rfl]
  rw [mE_bk (M := q_Law_clear) k_Law_clear.1 k_Law_clear.2 [] 400]
  have key : ∀ (C : Nat → List zv → Mu → mR) (E : Nat → List zv → List zv → Mu → mR), mbk C E q_Law_clear.1 q_Law_clear.2.1 z q_Law_clear.2.2.2 [] 400 (zfind q_Law_clear.2.2.2 0) (zentry q_Law_clear.2.2.1 [(2, ((o0 : Nat) : Int))]) [] μ = some (0, zup (zup μ o0 3 0) o0 5 0) := by
    intro C E
    rcases ho0 with rfl | rfl <;> (rfl)
  exact key _ _
