def g_Rdr_readClause_7 (E : Nat → List zv → List zv → Mu → mR) (v100 : Int) (μ : Mu) : mR := E 7 [(2, 40), (9, 0), (9, 0)] [(0, v100)] μ
noncomputable def f_Rdr_readClause_7 (z : zZ) (d : Nat) (v100 : Int) (μ : Mu) : mR := g_Rdr_readClause_7 (fun pc ls st μ => mE z d q_Rdr_readClause pc ls st μ) v100 μ
def g_Rdr_readClause_28 (E : Nat → List zv → List zv → Mu → mR) (μ : Mu) : mR := E 28 [(2, 40), (9, 0), (9, 0)] [] μ
noncomputable def f_Rdr_readClause_28 (z : zZ) (d : Nat) (μ : Mu) : mR := g_Rdr_readClause_28 (fun pc ls st μ => mE z d q_Rdr_readClause pc ls st μ) μ
def g_Rdr_readClause_74 (E : Nat → List zv → List zv → Mu → mR) (v1 : Int) (v2 : Int) (μ : Mu) : mR := E 74 [(2, 40), (0, v1), (0, v2)] [] μ
noncomputable def f_Rdr_readClause_74 (z : zZ) (d : Nat) (v1 : Int) (v2 : Int) (μ : Mu) : mR := g_Rdr_readClause_74 (fun pc ls st μ => mE z d q_Rdr_readClause pc ls st μ) v1 v2 μ
def g_Rdr_readClause_118 (E : Nat → List zv → List zv → Mu → mR) (v1 : Int) (v2 : Int) (μ : Mu) : mR := E 118 [(2, 40), (0, v1), (0, v2)] [] μ
noncomputable def f_Rdr_readClause_118 (z : zZ) (d : Nat) (v1 : Int) (v2 : Int) (μ : Mu) : mR := g_Rdr_readClause_118 (fun pc ls st μ => mE z d q_Rdr_readClause pc ls st μ) v1 v2 μ
def g_Rdr_readClause_127 (E : Nat → List zv → List zv → Mu → mR) (v1 : Int) (v2 : Int) (μ : Mu) : mR := E 127 [(2, 40), (0, v1), (0, v2)] [] μ
noncomputable def f_Rdr_readClause_127 (z : zZ) (d : Nat) (v1 : Int) (v2 : Int) (μ : Mu) : mR := g_Rdr_readClause_127 (fun pc ls st μ => mE z d q_Rdr_readClause pc ls st μ) v1 v2 μ
def g_Rdr_readClause_146 (E : Nat → List zv → List zv → Mu → mR) (v1 : Int) (v2 : Int) (v100 : Int) (μ : Mu) : mR := E 146 [(2, 40), (0, v1), (0, v2)] [(0, v100)] μ
noncomputable def f_Rdr_readClause_146 (z : zZ) (d : Nat) (v1 : Int) (v2 : Int) (v100 : Int) (μ : Mu) : mR := g_Rdr_readClause_146 (fun pc ls st μ => mE z d q_Rdr_readClause pc ls st μ) v1 v2 v100 μ
def g_Rdr_readClause_170 (E : Nat → List zv → List zv → Mu → mR) (v1 : Int) (v2 : Int) (μ : Mu) : mR := E 170 [(2, 40), (0, v1), (0, v2)] [] μ
noncomputable def f_Rdr_readClause_170 (z : zZ) (d : Nat) (v1 : Int) (v2 : Int) (μ : Mu) : mR := g_Rdr_readClause_170 (fun pc ls st μ => mE z d q_Rdr_readClause pc ls st μ) v1 v2 μ
def g_Rdr_readClause_179 (E : Nat → List zv → List zv → Mu → mR) (v1 : Int) (v2 : Int) (μ : Mu) : mR := E 179 [(2, 40), (0, v1), (0, v2)] [] μ
noncomputable def f_Rdr_readClause_179 (z : zZ) (d : Nat) (v1 : Int) (v2 : Int) (μ : Mu) : mR := g_Rdr_readClause_179 (fun pc ls st μ => mE z d q_Rdr_readClause pc ls st μ) v1 v2 μ
def g_Rdr_readClause_189 (E : Nat → List zv → List zv → Mu → mR) (μ : Mu) : mR := E 189 [(2, 40), (9, 0), (9, 0)] [] μ
noncomputable def f_Rdr_readClause_189 (z : zZ) (d : Nat) (μ : Mu) : mR := g_Rdr_readClause_189 (fun pc ls st μ => mE z d q_Rdr_readClause pc ls st μ) μ
theorem k_Rdr_readClause : zprK q_Rdr_readClause.2.2.2 = true ∧ zinc q_Rdr_readClause.2.2.2 = true := by decide +kernel
set_option maxRecDepth 100000 in
theorem c_Rdr_readClause (z : zZ) (d : Nat) (μ : Mu) (hm40_0 : μ 40 0 = 2) : mC z (d + 1) 47 [(2, 40)] μ = (mC z d 22 [(2, 1)] μ).bind fun q1 => (f_Rdr_readClause_7 z d q1.1 q1.2) := by
  rw [mC_succ q_Rdr_readClause rfl rfl rfl]
  rw [mE_bk (M := q_Rdr_readClause) k_Rdr_readClause.1 k_Rdr_readClause.2 [7, 28, 74, 118, 127, 146, 170, 179, 189] 400]
  have key : ∀ (C : Nat → List zv → Mu → mR) (E : Nat → List zv → List zv → Mu → mR), mbk C E q_Rdr_readClause.1 q_Rdr_readClause.2.1 z q_Rdr_readClause.2.2.2 [7, 28, 74, 118, 127, 146, 170, 179, 189] 400 (zfind q_Rdr_readClause.2.2.2 0) (zentry q_Rdr_readClause.2.2.1 [(2, 40)]) [] μ = (C 22 [(2, 1)] μ).bind fun q1 => (g_Rdr_readClause_7 E q1.1 q1.2) := by
    intro C E
    rw [← zup_self hm40_0]; rfl
  exact key _ _
set_option maxRecDepth 100000 in
theorem e_Rdr_readClause_7 (z : zZ) (d : Nat) (v100 : Int) (μ : Mu) (hm40_0 : μ 40 0 = 2) (m40_1 : Nat) (hcm40_1 : m40_1 = 41 ∨ m40_1 = 47) (hm40_1 : μ 40 1 = ((m40_1 : Nat) : Int) + 1) : f_Rdr_readClause_7 z d v100 μ = bif !decide (μ 1 4 = 0) then (f_Rdr_readClause_28 z d μ) else (bif !decide (zpl 0 v100 = (-1)) then (bif decide (μ m40_1 3 < 14) then (f_Rdr_readClause_74 z d v100 (μ m40_1 3) μ) else ((mC z d 28 [(2, 1), (0, 4), (0, μ 1 2)] μ).bind fun q1 => (some (0, q1.2)))) else (f_Rdr_readClause_28 z d μ)) := by
  show mE z d q_Rdr_readClause 7 [(2, 40), (9, 0), (9, 0)] [(0, v100)] μ = _
  rw [mE_bk (M := q_Rdr_readClause) k_Rdr_readClause.1 k_Rdr_readClause.2 [7, 28, 74, 118, 127, 146, 170, 179, 189] 400]
  have key : ∀ (C : Nat → List zv → Mu → mR) (E : Nat → List zv → List zv → Mu → mR), mbk C E q_Rdr_readClause.1 q_Rdr_readClause.2.1 z q_Rdr_readClause.2.2.2 [7, 28, 74, 118, 127, 146, 170, 179, 189] 400 (zfind q_Rdr_readClause.2.2.2 7) [(2, 40), (9, 0), (9, 0)] [(0, v100)] μ = bif !decide (μ 1 4 = 0) then (g_Rdr_readClause_28 E μ) else (bif !decide (zpl 0 v100 = (-1)) then (bif decide (μ m40_1 3 < 14) then (g_Rdr_readClause_74 E v100 (μ m40_1 3) μ) else ((C 28 [(2, 1), (0, 4), (0, μ 1 2)] μ).bind fun q1 => (some (0, q1.2)))) else (g_Rdr_readClause_28 E μ)) := by
    intro C E
    rcases hcm40_1 with rfl | rfl <;> (rw [← zup_self hm40_0, ← zup_self hm40_1]; rfl)
  exact key _ _
set_option maxRecDepth 100000 in
theorem e_Rdr_readClause_28 (z : zZ) (d : Nat) (μ : Mu) (hm40_0 : μ 40 0 = 2) : f_Rdr_readClause_28 z d μ = (mC z d 28 [(2, 1), (0, 1), (0, μ 1 2)] μ).bind fun q1 => (some (0, q1.2)) := by
  show mE z d q_Rdr_readClause 28 [(2, 40), (9, 0), (9, 0)] [] μ = _
  rw [mE_bk (M := q_Rdr_readClause) k_Rdr_readClause.1 k_Rdr_readClause.2 [7, 28, 74, 118, 127, 146, 170, 179, 189] 400]
  have key : ∀ (C : Nat → List zv → Mu → mR) (E : Nat → List zv → List zv → Mu → mR), mbk C E q_Rdr_readClause.1 q_Rdr_readClause.2.1 z q_Rdr_readClause.2.2.2 [7, 28, 74, 118, 127, 146, 170, 179, 189] 400 (zfind q_Rdr_readClause.2.2.2 28) [(2, 40), (9, 0), (9, 0)] [] μ = (C 28 [(2, 1), (0, 1), (0, μ 1 2)] μ).bind fun q1 => (some (0, q1.2)) := by
    intro C E
    rw [← zup_self hm40_0]; rfl
  exact key _ _
set_option maxRecDepth 100000 in
theorem e_Rdr_readClause_74 (z : zZ) (d : Nat) (v1 : Int) (v2 : Int) (μ : Mu) (hm40_0 : μ 40 0 = 2) (m40_1 : Nat) (hcm40_1 : m40_1 = 41 ∨ m40_1 = 47) (hm40_1 : μ 40 1 = ((m40_1 : Nat) : Int) + 1) : f_Rdr_readClause_74 z d v1 v2 μ = gI v2 14 (gI v2 14 ((mC z d 48 [(2, 40), (0, 0)] (zup (zup (zup μ 1 2 (zw ((μ 1 2) + 1))) (m40_1 + 1) v2.toNat v1) (m40_1 + 2) v2.toNat (μ m40_1 5))).bind fun q1 => (f_Rdr_readClause_118 z d v1 v2 q1.2))) := by
  show mE z d q_Rdr_readClause 74 [(2, 40), (0, v1), (0, v2)] [] μ = _
  rw [mE_bk (M := q_Rdr_readClause) k_Rdr_readClause.1 k_Rdr_readClause.2 [7, 28, 74, 118, 127, 146, 170, 179, 189] 400]
  have key : ∀ (C : Nat → List zv → Mu → mR) (E : Nat → List zv → List zv → Mu → mR), mbk C E q_Rdr_readClause.1 q_Rdr_readClause.2.1 z q_Rdr_readClause.2.2.2 [7, 28, 74, 118, 127, 146, 170, 179, 189] 400 (zfind q_Rdr_readClause.2.2.2 74) [(2, 40), (0, v1), (0, v2)] [] μ = gI v2 14 (gI v2 14 ((C 48 [(2, 40), (0, 0)] (zup (zup (zup μ 1 2 (zw ((μ 1 2) + 1))) (m40_1 + 1) v2.toNat v1) (m40_1 + 2) v2.toNat (μ m40_1 5))).bind fun q1 => (g_Rdr_readClause_118 E v1 v2 q1.2))) := by
    intro C E
    rcases hcm40_1 with rfl | rfl <;> (rw [← zup_self hm40_0, ← zup_self hm40_1]; rfl)
  exact key _ _
set_option maxRecDepth 100000 in
theorem e_Rdr_readClause_118 (z : zZ) (d : Nat) (v1 : Int) (v2 : Int) (μ : Mu) (m40_1 : Nat) (hcm40_1 : m40_1 = 41 ∨ m40_1 = 47) (hm40_1 : μ 40 1 = ((m40_1 : Nat) : Int) + 1) : f_Rdr_readClause_118 z d v1 v2 μ = (mC z d 54 [(2, ((m40_1 : Nat) : Int)), (0, 0), (0, 0)] μ).bind fun q1 => (f_Rdr_readClause_127 z d v1 v2 q1.2) := by
  show mE z d q_Rdr_readClause 118 [(2, 40), (0, v1), (0, v2)] [] μ = _
  rw [mE_bk (M := q_Rdr_readClause) k_Rdr_readClause.1 k_Rdr_readClause.2 [7, 28, 74, 118, 127, 146, 170, 179, 189] 400]
  have key : ∀ (C : Nat → List zv → Mu → mR) (E : Nat → List zv → List zv → Mu → mR), mbk C E q_Rdr_readClause.1 q_Rdr_readClause.2.1 z q_Rdr_readClause.2.2.2 [7, 28, 74, 118, 127, 146, 170, 179, 189] 400 (zfind q_Rdr_readClause.2.2.2 118) [(2, 40), (0, v1), (0, v2)] [] μ = (C 54 [(2, ((m40_1 : Nat) : Int)), (0, 0), (0, 0)] μ).bind fun q1 => (g_Rdr_readClause_127 E v1 v2 q1.2) := by
    intro C E
    rcases hcm40_1 with rfl | rfl <;> (rw [← zup_self hm40_1]; rfl)
  exact key _ _
set_option maxRecDepth 100000 in
theorem e_Rdr_readClause_127 (z : zZ) (d : Nat) (v1 : Int) (v2 : Int) (μ : Mu) (hm40_0 : μ 40 0 = 2) : f_Rdr_readClause_127 z d v1 v2 μ = bif !decide (μ 1 4 = 0) then (f_Rdr_readClause_189 z d μ) else ((mC z d 43 [(2, 1), (0, 40)] μ).bind fun q1 => (f_Rdr_readClause_146 z d v1 v2 q1.1 q1.2)) := by
  show mE z d q_Rdr_readClause 127 [(2, 40), (0, v1), (0, v2)] [] μ = _
  rw [mE_bk (M := q_Rdr_readClause) k_Rdr_readClause.1 k_Rdr_readClause.2 [7, 28, 74, 118, 127, 146, 170, 179, 189] 400]
  have key : ∀ (C : Nat → List zv → Mu → mR) (E : Nat → List zv → List zv → Mu → mR), mbk C E q_Rdr_readClause.1 q_Rdr_readClause.2.1 z q_Rdr_readClause.2.2.2 [7, 28, 74, 118, 127, 146, 170, 179, 189] 400 (zfind q_Rdr_readClause.2.2.2 127) [(2, 40), (0, v1), (0, v2)] [] μ = bif !decide (μ 1 4 = 0) then (g_Rdr_readClause_189 E μ) else ((C 43 [(2, 1), (0, 40)] μ).bind fun q1 => (g_Rdr_readClause_146 E v1 v2 q1.1 q1.2)) := by
    intro C E
    rw [← zup_self hm40_0]; rfl
  exact key _ _
set_option maxRecDepth 100000 in
theorem e_Rdr_readClause_189 (z : zZ) (d : Nat) (μ : Mu) (m40_1 : Nat) (hcm40_1 : m40_1 = 41 ∨ m40_1 = 47) (hm40_1 : μ 40 1 = ((m40_1 : Nat) : Int) + 1) : f_Rdr_readClause_189 z d μ = some (0, zup μ m40_1 3 (zw ((μ m40_1 3) + 1))) := by
  show mE z d q_Rdr_readClause 189 [(2, 40), (9, 0), (9, 0)] [] μ = _
  rw [mE_bk (M := q_Rdr_readClause) k_Rdr_readClause.1 k_Rdr_readClause.2 [7, 28, 74, 118, 127, 146, 170, 179, 189] 400]
  have key : ∀ (C : Nat → List zv → Mu → mR) (E : Nat → List zv → List zv → Mu → mR), mbk C E q_Rdr_readClause.1 q_Rdr_readClause.2.1 z q_Rdr_readClause.2.2.2 [7, 28, 74, 118, 127, 146, 170, 179, 189] 400 (zfind q_Rdr_readClause.2.2.2 189) [(2, 40), (9, 0), (9, 0)] [] μ = some (0, zup μ m40_1 3 (zw ((μ m40_1 3) + 1))) := by
    intro C E
    rcases hcm40_1 with rfl | rfl <;> (rw [← zup_self hm40_1]; rfl)
  exact key _ _
set_option maxRecDepth 100000 in
theorem e_Rdr_readClause_146 (z : zZ) (d : Nat) (v1 : Int) (v2 : Int) (v100 : Int) (μ : Mu) (m40_1 : Nat) (hcm40_1 : m40_1 = 41 ∨ m40_1 = 47) (hm40_1 : μ 40 1 = ((m40_1 : Nat) : Int) + 1) : f_Rdr_readClause_146 z d v1 v2 v100 μ = bif decide (v100 = 0) then (f_Rdr_readClause_189 z d μ) else (gI v2 14 ((mC z d 56 [(2, 40), (0, 1)] (zup μ (m40_1 + 3) v2.toNat (μ m40_1 5))).bind fun q1 => (f_Rdr_readClause_170 z d v1 v2 q1.2))) := by
  show mE z d q_Rdr_readClause 146 [(2, 40), (0, v1), (0, v2)] [(0, v100)] μ = _
  rw [mE_bk (M := q_Rdr_readClause) k_Rdr_readClause.1 k_Rdr_readClause.2 [7, 28, 74, 118, 127, 146, 170, 179, 189] 400]
  have key : ∀ (C : Nat → List zv → Mu → mR) (E : Nat → List zv → List zv → Mu → mR), mbk C E q_Rdr_readClause.1 q_Rdr_readClause.2.1 z q_Rdr_readClause.2.2.2 [7, 28, 74, 118, 127, 146, 170, 179, 189] 400 (zfind q_Rdr_readClause.2.2.2 146) [(2, 40), (0, v1), (0, v2)] [(0, v100)] μ = bif decide (v100 = 0) then (g_Rdr_readClause_189 E μ) else (gI v2 14 ((C 56 [(2, 40), (0, 1)] (zup μ (m40_1 + 3) v2.toNat (μ m40_1 5))).bind fun q1 => (g_Rdr_readClause_170 E v1 v2 q1.2))) := by
    intro C E
    rcases hcm40_1 with rfl | rfl <;> (rw [← zup_self hm40_1]; rfl)
  exact key _ _
set_option maxRecDepth 100000 in
theorem e_Rdr_readClause_170 (z : zZ) (d : Nat) (v1 : Int) (v2 : Int) (μ : Mu) (m40_1 : Nat) (hcm40_1 : m40_1 = 41 ∨ m40_1 = 47) (hm40_1 : μ 40 1 = ((m40_1 : Nat) : Int) + 1) : f_Rdr_readClause_170 z d v1 v2 μ = (mC z d 54 [(2, ((m40_1 : Nat) : Int)), (0, 0), (0, 0)] μ).bind fun q1 => (f_Rdr_readClause_179 z d v1 v2 q1.2) := by
  show mE z d q_Rdr_readClause 170 [(2, 40), (0, v1), (0, v2)] [] μ = _
  rw [mE_bk (M := q_Rdr_readClause) k_Rdr_readClause.1 k_Rdr_readClause.2 [7, 28, 74, 118, 127, 146, 170, 179, 189] 400]
  have key : ∀ (C : Nat → List zv → Mu → mR) (E : Nat → List zv → List zv → Mu → mR), mbk C E q_Rdr_readClause.1 q_Rdr_readClause.2.1 z q_Rdr_readClause.2.2.2 [7, 28, 74, 118, 127, 146, 170, 179, 189] 400 (zfind q_Rdr_readClause.2.2.2 170) [(2, 40), (0, v1), (0, v2)] [] μ = (C 54 [(2, ((m40_1 : Nat) : Int)), (0, 0), (0, 0)] μ).bind fun q1 => (g_Rdr_readClause_179 E v1 v2 q1.2) := by
    intro C E
    rcases hcm40_1 with rfl | rfl <;> (rw [← zup_self hm40_1]; rfl)
  exact key _ _
set_option maxRecDepth 100000 in
theorem e_Rdr_readClause_179 (z : zZ) (d : Nat) (v1 : Int) (v2 : Int) (μ : Mu) (hm40_0 : μ 40 0 = 2) : f_Rdr_readClause_179 z d v1 v2 μ = (mC z d 43 [(2, 1), (0, 41)] μ).bind fun q1 => (f_Rdr_readClause_189 z d q1.2) := by
  show mE z d q_Rdr_readClause 179 [(2, 40), (0, v1), (0, v2)] [] μ = _
  rw [mE_bk (M := q_Rdr_readClause) k_Rdr_readClause.1 k_Rdr_readClause.2 [7, 28, 74, 118, 127, 146, 170, 179, 189] 400]
  have key : ∀ (C : Nat → List zv → Mu → mR) (E : Nat → List zv → List zv → Mu → mR), mbk C E q_Rdr_readClause.1 q_Rdr_readClause.2.1 z q_Rdr_readClause.2.2.2 [7, 28, 74, 118, 127, 146, 170, 179, 189] 400 (zfind q_Rdr_readClause.2.2.2 179) [(2, 40), (0, v1), (0, v2)] [] μ = (C 43 [(2, 1), (0, 41)] μ).bind fun q1 => (g_Rdr_readClause_189 E q1.2) := by
    intro C E
    rw [← zup_self hm40_0]; rfl
  exact key _ _
def g_Rdr_readSum_7 (E : Nat → List zv → List zv → Mu → mR) (v1 : Int) (v2 : Int) (μ : Mu) : mR := E 7 [(2, 40), (0, v1), (0, v2), (9, 0)] [] μ
noncomputable def f_Rdr_readSum_7 (z : zZ) (d : Nat) (v1 : Int) (v2 : Int) (μ : Mu) : mR := g_Rdr_readSum_7 (fun pc ls st μ => mE z d q_Rdr_readSum pc ls st μ) v1 v2 μ
def g_Rdr_readSum_33 (E : Nat → List zv → List zv → Mu → mR) (v1 : Int) (v2 : Int) (v101 : Int) (μ : Mu) : mR := E 33 [(2, 40), (0, v1), (0, v2), (9, 0)] [(0, v101), (3, 3)] μ
noncomputable def f_Rdr_readSum_33 (z : zZ) (d : Nat) (v1 : Int) (v2 : Int) (v101 : Int) (μ : Mu) : mR := g_Rdr_readSum_33 (fun pc ls st μ => mE z d q_Rdr_readSum pc ls st μ) v1 v2 v101 μ
def g_Rdr_readSum_64 (E : Nat → List zv → List zv → Mu → mR) (μ : Mu) : mR := E 64 [(9, 0), (9, 0), (9, 0), (9, 0)] [] μ
noncomputable def f_Rdr_readSum_64 (z : zZ) (d : Nat) (μ : Mu) : mR := g_Rdr_readSum_64 (fun pc ls st μ => mE z d q_Rdr_readSum pc ls st μ) μ
theorem k_Rdr_readSum : zprK q_Rdr_readSum.2.2.2 = true ∧ zinc q_Rdr_readSum.2.2.2 = true := by decide +kernel
set_option maxRecDepth 100000 in
theorem c_Rdr_readSum (z : zZ) (d : Nat) (v1 : Int) (μ : Mu) : mC z (d + 1) 48 [(2, 40), (0, v1)] μ = (mC z d 49 [(2, 40), (0, v1)] μ).bind fun q1 => (f_Rdr_readSum_7 z d v1 0 q1.2) := by
  rw [mC_succ q_Rdr_readSum rfl rfl rfl]
  rw [mE_bk (M := q_Rdr_readSum) k_Rdr_readSum.1 k_Rdr_readSum.2 [7, 33, 64] 400]
  have key : ∀ (C : Nat → List zv → Mu → mR) (E : Nat → List zv → List zv → Mu → mR), mbk C E q_Rdr_readSum.1 q_Rdr_readSum.2.1 z q_Rdr_readSum.2.2.2 [7, 33, 64] 400 (zfind q_Rdr_readSum.2.2.2 0) (zentry q_Rdr_readSum.2.2.1 [(2, 40), (0, v1)]) [] μ = (C 49 [(2, 40), (0, v1)] μ).bind fun q1 => (g_Rdr_readSum_7 E v1 0 q1.2) := by
    intro C E
    rfl
  exact key _ _
set_option maxRecDepth 100000 in
theorem e_Rdr_readSum_7 (z : zZ) (d : Nat) (v1 : Int) (v2 : Int) (μ : Mu) (hm40_0 : μ 40 0 = 2) : f_Rdr_readSum_7 z d v1 v2 μ = bif decide (200 ≤ v2) then (f_Rdr_readSum_64 z d μ) else (bif !decide (μ 1 4 = 0) then (f_Rdr_readSum_64 z d μ) else ((mC z d 22 [(2, 1)] μ).bind fun q1 => (f_Rdr_readSum_33 z d v1 v2 q1.1 q1.2))) := by
  show mE z d q_Rdr_readSum 7 [(2, 40), (0, v1), (0, v2), (9, 0)] [] μ = _
  rw [mE_bk (M := q_Rdr_readSum) k_Rdr_readSum.1 k_Rdr_readSum.2 [7, 33, 64] 400]
  have key : ∀ (C : Nat → List zv → Mu → mR) (E : Nat → List zv → List zv → Mu → mR), mbk C E q_Rdr_readSum.1 q_Rdr_readSum.2.1 z q_Rdr_readSum.2.2.2 [7, 33, 64] 400 (zfind q_Rdr_readSum.2.2.2 7) [(2, 40), (0, v1), (0, v2), (9, 0)] [] μ = bif decide (200 ≤ v2) then (g_Rdr_readSum_64 E μ) else (bif !decide (μ 1 4 = 0) then (g_Rdr_readSum_64 E μ) else ((C 22 [(2, 1)] μ).bind fun q1 => (g_Rdr_readSum_33 E v1 v2 q1.1 q1.2))) := by
    intro C E
    rw [← zup_self hm40_0]; rfl
  exact key _ _
set_option maxRecDepth 100000 in
theorem e_Rdr_readSum_64 (z : zZ) (d : Nat) (μ : Mu) : f_Rdr_readSum_64 z d μ = some (0, μ) := by
  show mE z d q_Rdr_readSum 64 [(9, 0), (9, 0), (9, 0), (9, 0)] [] μ = _
  rw [mE_bk (M := q_Rdr_readSum) k_Rdr_readSum.1 k_Rdr_readSum.2 [7, 33, 64] 400]
  have key : ∀ (C : Nat → List zv → Mu → mR) (E : Nat → List zv → List zv → Mu → mR), mbk C E q_Rdr_readSum.1 q_Rdr_readSum.2.1 z q_Rdr_readSum.2.2.2 [7, 33, 64] 400 (zfind q_Rdr_readSum.2.2.2 64) [(9, 0), (9, 0), (9, 0), (9, 0)] [] μ = some (0, μ) := by
    intro C E
    rfl
  exact key _ _
set_option maxRecDepth 100000 in
theorem e_Rdr_readSum_33 (z : zZ) (d : Nat) (v1 : Int) (v2 : Int) (v101 : Int) (μ : Mu) (hm40_0 : μ 40 0 = 2) : f_Rdr_readSum_33 z d v1 v2 v101 μ = bif decide (zpl 3 v101 = (-1)) then (f_Rdr_readSum_64 z d μ) else ((mC z d 21 [(2, 1)] μ).bind fun q1 => ((mC z d 49 [(2, 40), (0, v1)] q1.2).bind fun q2 => ((mC z d 55 [(2, 40), (0, q1.1)] q2.2).bind fun q3 => (f_Rdr_readSum_7 z d v1 (zw (v2 + 1)) q3.2)))) := by
  show mE z d q_Rdr_readSum 33 [(2, 40), (0, v1), (0, v2), (9, 0)] [(0, v101), (3, 3)] μ = _
  rw [mE_bk (M := q_Rdr_readSum) k_Rdr_readSum.1 k_Rdr_readSum.2 [7, 33, 64] 400]
  have key : ∀ (C : Nat → List zv → Mu → mR) (E : Nat → List zv → List zv → Mu → mR), mbk C E q_Rdr_readSum.1 q_Rdr_readSum.2.1 z q_Rdr_readSum.2.2.2 [7, 33, 64] 400 (zfind q_Rdr_readSum.2.2.2 33) [(2, 40), (0, v1), (0, v2), (9, 0)] [(0, v101), (3, 3)] μ = bif decide (zpl 3 v101 = (-1)) then (g_Rdr_readSum_64 E μ) else ((C 21 [(2, 1)] μ).bind fun q1 => ((C 49 [(2, 40), (0, v1)] q1.2).bind fun q2 => ((C 55 [(2, 40), (0, q1.1)] q2.2).bind fun q3 => (g_Rdr_readSum_7 E v1 (zw (v2 + 1)) q3.2)))) := by
    intro C E
    rw [← zup_self hm40_0]; rfl
  exact key _ _
def g_Rdr_readProduct_7 (E : Nat → List zv → List zv → Mu → mR) (v1 : Int) (v2 : Int) (μ : Mu) : mR := E 7 [(2, 40), (0, v1), (0, v2), (9, 0)] [] μ
noncomputable def f_Rdr_readProduct_7 (z : zZ) (d : Nat) (v1 : Int) (v2 : Int) (μ : Mu) : mR := g_Rdr_readProduct_7 (fun pc ls st μ => mE z d q_Rdr_readProduct pc ls st μ) v1 v2 μ
def g_Rdr_readProduct_33 (E : Nat → List zv → List zv → Mu → mR) (v1 : Int) (v2 : Int) (v101 : Int) (μ : Mu) : mR := E 33 [(2, 40), (0, v1), (0, v2), (9, 0)] [(0, v101), (3, 4)] μ
noncomputable def f_Rdr_readProduct_33 (z : zZ) (d : Nat) (v1 : Int) (v2 : Int) (v101 : Int) (μ : Mu) : mR := g_Rdr_readProduct_33 (fun pc ls st μ => mE z d q_Rdr_readProduct pc ls st μ) v1 v2 v101 μ
def g_Rdr_readProduct_64 (E : Nat → List zv → List zv → Mu → mR) (μ : Mu) : mR := E 64 [(9, 0), (9, 0), (9, 0), (9, 0)] [] μ
noncomputable def f_Rdr_readProduct_64 (z : zZ) (d : Nat) (μ : Mu) : mR := g_Rdr_readProduct_64 (fun pc ls st μ => mE z d q_Rdr_readProduct pc ls st μ) μ
theorem k_Rdr_readProduct : zprK q_Rdr_readProduct.2.2.2 = true ∧ zinc q_Rdr_readProduct.2.2.2 = true := by decide +kernel
set_option maxRecDepth 100000 in
theorem c_Rdr_readProduct (z : zZ) (d : Nat) (v1 : Int) (μ : Mu) : mC z (d + 1) 49 [(2, 40), (0, v1)] μ = (mC z d 50 [(2, 40), (0, v1)] μ).bind fun q1 => (f_Rdr_readProduct_7 z d v1 0 q1.2) := by
  rw [mC_succ q_Rdr_readProduct rfl rfl rfl]
  rw [mE_bk (M := q_Rdr_readProduct) k_Rdr_readProduct.1 k_Rdr_readProduct.2 [7, 33, 64] 400]
  have key : ∀ (C : Nat → List zv → Mu → mR) (E : Nat → List zv → List zv → Mu → mR), mbk C E q_Rdr_readProduct.1 q_Rdr_readProduct.2.1 z q_Rdr_readProduct.2.2.2 [7, 33, 64] 400 (zfind q_Rdr_readProduct.2.2.2 0) (zentry q_Rdr_readProduct.2.2.1 [(2, 40), (0, v1)]) [] μ = (C 50 [(2, 40), (0, v1)] μ).bind fun q1 => (g_Rdr_readProduct_7 E v1 0 q1.2) := by
    intro C E
    rfl
  exact key _ _
set_option maxRecDepth 100000 in
theorem e_Rdr_readProduct_7 (z : zZ) (d : Nat) (v1 : Int) (v2 : Int) (μ : Mu) (hm40_0 : μ 40 0 = 2) : f_Rdr_readProduct_7 z d v1 v2 μ = bif decide (200 ≤ v2) then (f_Rdr_readProduct_64 z d μ) else (bif !decide (μ 1 4 = 0) then (f_Rdr_readProduct_64 z d μ) else ((mC z d 22 [(2, 1)] μ).bind fun q1 => (f_Rdr_readProduct_33 z d v1 v2 q1.1 q1.2))) := by
  show mE z d q_Rdr_readProduct 7 [(2, 40), (0, v1), (0, v2), (9, 0)] [] μ = _
  rw [mE_bk (M := q_Rdr_readProduct) k_Rdr_readProduct.1 k_Rdr_readProduct.2 [7, 33, 64] 400]
  have key : ∀ (C : Nat → List zv → Mu → mR) (E : Nat → List zv → List zv → Mu → mR), mbk C E q_Rdr_readProduct.1 q_Rdr_readProduct.2.1 z q_Rdr_readProduct.2.2.2 [7, 33, 64] 400 (zfind q_Rdr_readProduct.2.2.2 7) [(2, 40), (0, v1), (0, v2), (9, 0)] [] μ = bif decide (200 ≤ v2) then (g_Rdr_readProduct_64 E μ) else (bif !decide (μ 1 4 = 0) then (g_Rdr_readProduct_64 E μ) else ((C 22 [(2, 1)] μ).bind fun q1 => (g_Rdr_readProduct_33 E v1 v2 q1.1 q1.2))) := by
    intro C E
    rw [← zup_self hm40_0]; rfl
  exact key _ _
set_option maxRecDepth 100000 in
theorem e_Rdr_readProduct_64 (z : zZ) (d : Nat) (μ : Mu) : f_Rdr_readProduct_64 z d μ = some (0, μ) := by
  show mE z d q_Rdr_readProduct 64 [(9, 0), (9, 0), (9, 0), (9, 0)] [] μ = _
  rw [mE_bk (M := q_Rdr_readProduct) k_Rdr_readProduct.1 k_Rdr_readProduct.2 [7, 33, 64] 400]
  have key : ∀ (C : Nat → List zv → Mu → mR) (E : Nat → List zv → List zv → Mu → mR), mbk C E q_Rdr_readProduct.1 q_Rdr_readProduct.2.1 z q_Rdr_readProduct.2.2.2 [7, 33, 64] 400 (zfind q_Rdr_readProduct.2.2.2 64) [(9, 0), (9, 0), (9, 0), (9, 0)] [] μ = some (0, μ) := by
    intro C E
    rfl
  exact key _ _
set_option maxRecDepth 100000 in
theorem e_Rdr_readProduct_33 (z : zZ) (d : Nat) (v1 : Int) (v2 : Int) (v101 : Int) (μ : Mu) (hm40_0 : μ 40 0 = 2) : f_Rdr_readProduct_33 z d v1 v2 v101 μ = bif decide (zpl 4 v101 = (-1)) then (f_Rdr_readProduct_64 z d μ) else ((mC z d 21 [(2, 1)] μ).bind fun q1 => ((mC z d 50 [(2, 40), (0, v1)] q1.2).bind fun q2 => ((mC z d 55 [(2, 40), (0, q1.1)] q2.2).bind fun q3 => (f_Rdr_readProduct_7 z d v1 (zw (v2 + 1)) q3.2)))) := by
  show mE z d q_Rdr_readProduct 33 [(2, 40), (0, v1), (0, v2), (9, 0)] [(0, v101), (3, 4)] μ = _
  rw [mE_bk (M := q_Rdr_readProduct) k_Rdr_readProduct.1 k_Rdr_readProduct.2 [7, 33, 64] 400]
  have key : ∀ (C : Nat → List zv → Mu → mR) (E : Nat → List zv → List zv → Mu → mR), mbk C E q_Rdr_readProduct.1 q_Rdr_readProduct.2.1 z q_Rdr_readProduct.2.2.2 [7, 33, 64] 400 (zfind q_Rdr_readProduct.2.2.2 33) [(2, 40), (0, v1), (0, v2), (9, 0)] [(0, v101), (3, 4)] μ = bif decide (zpl 4 v101 = (-1)) then (g_Rdr_readProduct_64 E μ) else ((C 21 [(2, 1)] μ).bind fun q1 => ((C 50 [(2, 40), (0, v1)] q1.2).bind fun q2 => ((C 55 [(2, 40), (0, q1.1)] q2.2).bind fun q3 => (g_Rdr_readProduct_7 E v1 (zw (v2 + 1)) q3.2)))) := by
    intro C E
    rw [← zup_self hm40_0]; rfl
  exact key _ _
def g_Rdr_readFactor_9 (E : Nat → List zv → List zv → Mu → mR) (v1 : Int) (v101 : Int) (μ : Mu) : mR := E 9 [(2, 40), (0, v1), (9, 0)] [(0, v101), (3, 1)] μ
noncomputable def f_Rdr_readFactor_9 (z : zZ) (d : Nat) (v1 : Int) (v101 : Int) (μ : Mu) : mR := g_Rdr_readFactor_9 (fun pc ls st μ => mE z d q_Rdr_readFactor pc ls st μ) v1 v101 μ
def g_Rdr_readFactor_20 (E : Nat → List zv → List zv → Mu → mR) (v1 : Int) (v2 : Int) (v100 : Int) (μ : Mu) : mR := E 20 [(2, 40), (0, v1), (0, v2)] [(0, v100)] μ
noncomputable def f_Rdr_readFactor_20 (z : zZ) (d : Nat) (v1 : Int) (v2 : Int) (v100 : Int) (μ : Mu) : mR := g_Rdr_readFactor_20 (fun pc ls st μ => mE z d q_Rdr_readFactor pc ls st μ) v1 v2 v100 μ
def g_Rdr_readFactor_40 (E : Nat → List zv → List zv → Mu → mR) (v1 : Int) (v2 : Int) (μ : Mu) : mR := E 40 [(2, 40), (0, v1), (0, v2)] [] μ
noncomputable def f_Rdr_readFactor_40 (z : zZ) (d : Nat) (v1 : Int) (v2 : Int) (μ : Mu) : mR := g_Rdr_readFactor_40 (fun pc ls st μ => mE z d q_Rdr_readFactor pc ls st μ) v1 v2 μ
def g_Rdr_readFactor_60 (E : Nat → List zv → List zv → Mu → mR) (v2 : Int) (v100 : Int) (μ : Mu) : mR := E 60 [(2, 40), (9, 0), (0, v2)] [(0, v100)] μ
noncomputable def f_Rdr_readFactor_60 (z : zZ) (d : Nat) (v2 : Int) (v100 : Int) (μ : Mu) : mR := g_Rdr_readFactor_60 (fun pc ls st μ => mE z d q_Rdr_readFactor pc ls st μ) v2 v100 μ
def g_Rdr_readFactor_115 (E : Nat → List zv → List zv → Mu → mR) (μ : Mu) : mR := E 115 [(9, 0), (9, 0), (9, 0)] [] μ
noncomputable def f_Rdr_readFactor_115 (z : zZ) (d : Nat) (μ : Mu) : mR := g_Rdr_readFactor_115 (fun pc ls st μ => mE z d q_Rdr_readFactor pc ls st μ) μ
theorem k_Rdr_readFactor : zprK q_Rdr_readFactor.2.2.2 = true ∧ zinc q_Rdr_readFactor.2.2.2 = true := by decide +kernel
set_option maxRecDepth 100000 in
theorem c_Rdr_readFactor (z : zZ) (d : Nat) (v1 : Int) (μ : Mu) (hm40_0 : μ 40 0 = 2) : mC z (d + 1) 50 [(2, 40), (0, v1)] μ = (mC z d 22 [(2, 1)] μ).bind fun q1 => (f_Rdr_readFactor_9 z d v1 q1.1 q1.2) := by
  rw [mC_succ q_Rdr_readFactor rfl rfl rfl]
  rw [mE_bk (M := q_Rdr_readFactor) k_Rdr_readFactor.1 k_Rdr_readFactor.2 [9, 20, 40, 60, 115] 400]
  have key : ∀ (C : Nat → List zv → Mu → mR) (E : Nat → List zv → List zv → Mu → mR), mbk C E q_Rdr_readFactor.1 q_Rdr_readFactor.2.1 z q_Rdr_readFactor.2.2.2 [9, 20, 40, 60, 115] 400 (zfind q_Rdr_readFactor.2.2.2 0) (zentry q_Rdr_readFactor.2.2.1 [(2, 40), (0, v1)]) [] μ = (C 22 [(2, 1)] μ).bind fun q1 => (g_Rdr_readFactor_9 E v1 q1.1 q1.2) := by
    intro C E
    rw [← zup_self hm40_0]; rfl
  exact key _ _
set_option maxRecDepth 100000 in
theorem e_Rdr_readFactor_9 (z : zZ) (d : Nat) (v1 : Int) (v101 : Int) (μ : Mu) (hm40_0 : μ 40 0 = 2) : f_Rdr_readFactor_9 z d v1 v101 μ = (mC z d 22 [(2, 1)] μ).bind fun q1 => (f_Rdr_readFactor_20 z d v1 (zpl 1 v101) q1.1 q1.2) := by
  show mE z d q_Rdr_readFactor 9 [(2, 40), (0, v1), (9, 0)] [(0, v101), (3, 1)] μ = _
  rw [mE_bk (M := q_Rdr_readFactor) k_Rdr_readFactor.1 k_Rdr_readFactor.2 [9, 20, 40, 60, 115] 400]
  have key : ∀ (C : Nat → List zv → Mu → mR) (E : Nat → List zv → List zv → Mu → mR), mbk C E q_Rdr_readFactor.1 q_Rdr_readFactor.2.1 z q_Rdr_readFactor.2.2.2 [9, 20, 40, 60, 115] 400 (zfind q_Rdr_readFactor.2.2.2 9) [(2, 40), (0, v1), (9, 0)] [(0, v101), (3, 1)] μ = (C 22 [(2, 1)] μ).bind fun q1 => (g_Rdr_readFactor_20 E v1 (zpl 1 v101) q1.1 q1.2) := by
    intro C E
    rw [← zup_self hm40_0]; rfl
  exact key _ _
set_option maxRecDepth 100000 in
theorem e_Rdr_readFactor_20 (z : zZ) (d : Nat) (v1 : Int) (v2 : Int) (v100 : Int) (μ : Mu) (hm40_0 : μ 40 0 = 2) : f_Rdr_readFactor_20 z d v1 v2 v100 μ = bif !decide (v100 = 91) then ((mC z d 52 [(2, 1)] μ).bind fun q1 => (f_Rdr_readFactor_60 z d v2 q1.1 q1.2)) else ((mC z d 51 [(2, 40), (0, v1)] μ).bind fun q2 => (bif decide (q2.1 = 0) then (f_Rdr_readFactor_115 z d q2.2) else ((mC z d 48 [(2, 40), (0, zw (v1 + 1))] q2.2).bind fun q3 => (f_Rdr_readFactor_40 z d v1 v2 q3.2)))) := by
  show mE z d q_Rdr_readFactor 20 [(2, 40), (0, v1), (0, v2)] [(0, v100)] μ = _
  rw [mE_bk (M := q_Rdr_readFactor) k_Rdr_readFactor.1 k_Rdr_readFactor.2 [9, 20, 40, 60, 115] 400]
  have key : ∀ (C : Nat → List zv → Mu → mR) (E : Nat → List zv → List zv → Mu → mR), mbk C E q_Rdr_readFactor.1 q_Rdr_readFactor.2.1 z q_Rdr_readFactor.2.2.2 [9, 20, 40, 60, 115] 400 (zfind q_Rdr_readFactor.2.2.2 20) [(2, 40), (0, v1), (0, v2)] [(0, v100)] μ = bif !decide (v100 = 91) then ((C 52 [(2, 1)] μ).bind fun q1 => (g_Rdr_readFactor_60 E v2 q1.1 q1.2)) else ((C 51 [(2, 40), (0, v1)] μ).bind fun q2 => (bif decide (q2.1 = 0) then (g_Rdr_readFactor_115 E q2.2) else ((C 48 [(2, 40), (0, zw (v1 + 1))] q2.2).bind fun q3 => (g_Rdr_readFactor_40 E v1 v2 q3.2)))) := by
    intro C E
    rw [← zup_self hm40_0]; rfl
  exact key _ _
set_option maxRecDepth 100000 in
theorem e_Rdr_readFactor_60 (z : zZ) (d : Nat) (v2 : Int) (v100 : Int) (μ : Mu) (hm40_0 : μ 40 0 = 2) (m40_1 : Nat) (hcm40_1 : m40_1 = 41 ∨ m40_1 = 47) (hm40_1 : μ 40 1 = ((m40_1 : Nat) : Int) + 1) : f_Rdr_readFactor_60 z d v2 v100 μ = bif decide (v100 = 0) then (bif decide (v2 = (-1)) then ((mC z d 28 [(2, 1), (0, 1), (0, μ 1 2)] μ).bind fun q1 => (f_Rdr_readFactor_115 z d q1.2)) else ((mC z d 54 [(2, ((m40_1 : Nat) : Int)), (0, 2), (0, v2)] (zup μ 1 2 (zw ((μ 1 2) + 1)))).bind fun q2 => (f_Rdr_readFactor_115 z d q2.2))) else ((mC z d 53 [(2, 40)] μ).bind fun q3 => (f_Rdr_readFactor_115 z d q3.2)) := by
  show mE z d q_Rdr_readFactor 60 [(2, 40), (9, 0), (0, v2)] [(0, v100)] μ = _
  rw [mE_bk (M := q_Rdr_readFactor) k_Rdr_readFactor.1 k_Rdr_readFactor.2 [9, 20, 40, 60, 115] 400]
  have key : ∀ (C : Nat → List zv → Mu → mR) (E : Nat → List zv → List zv → Mu → mR), mbk C E q_Rdr_readFactor.1 q_Rdr_readFactor.2.1 z q_Rdr_readFactor.2.2.2 [9, 20, 40, 60, 115] 400 (zfind q_Rdr_readFactor.2.2.2 60) [(2, 40), (9, 0), (0, v2)] [(0, v100)] μ = bif decide (v100 = 0) then (bif decide (v2 = (-1)) then ((C 28 [(2, 1), (0, 1), (0, μ 1 2)] μ).bind fun q1 => (g_Rdr_readFactor_115 E q1.2)) else ((C 54 [(2, ((m40_1 : Nat) : Int)), (0, 2), (0, v2)] (zup μ 1 2 (zw ((μ 1 2) + 1)))).bind fun q2 => (g_Rdr_readFactor_115 E q2.2))) else ((C 53 [(2, 40)] μ).bind fun q3 => (g_Rdr_readFactor_115 E q3.2)) := by
    intro C E
    rcases hcm40_1 with rfl | rfl <;> (rw [← zup_self hm40_0, ← zup_self hm40_1]; rfl)
  exact key _ _
set_option maxRecDepth 100000 in
theorem e_Rdr_readFactor_115 (z : zZ) (d : Nat) (μ : Mu) : f_Rdr_readFactor_115 z d μ = some (0, μ) := by
  show mE z d q_Rdr_readFactor 115 [(9, 0), (9, 0), (9, 0)] [] μ = _
  rw [mE_bk (M := q_Rdr_readFactor) k_Rdr_readFactor.1 k_Rdr_readFactor.2 [9, 20, 40, 60, 115] 400]
  have key : ∀ (C : Nat → List zv → Mu → mR) (E : Nat → List zv → List zv → Mu → mR), mbk C E q_Rdr_readFactor.1 q_Rdr_readFactor.2.1 z q_Rdr_readFactor.2.2.2 [9, 20, 40, 60, 115] 400 (zfind q_Rdr_readFactor.2.2.2 115) [(9, 0), (9, 0), (9, 0)] [] μ = some (0, μ) := by
    intro C E
    rfl
  exact key _ _
set_option maxRecDepth 100000 in
theorem e_Rdr_readFactor_40 (z : zZ) (d : Nat) (v1 : Int) (v2 : Int) (μ : Mu) (hm40_0 : μ 40 0 = 2) : f_Rdr_readFactor_40 z d v1 v2 μ = (mC z d 43 [(2, 1), (0, 93)] μ).bind fun q1 => (f_Rdr_readFactor_115 z d q1.2) := by
  show mE z d q_Rdr_readFactor 40 [(2, 40), (0, v1), (0, v2)] [] μ = _
  rw [mE_bk (M := q_Rdr_readFactor) k_Rdr_readFactor.1 k_Rdr_readFactor.2 [9, 20, 40, 60, 115] 400]
  have key : ∀ (C : Nat → List zv → Mu → mR) (E : Nat → List zv → List zv → Mu → mR), mbk C E q_Rdr_readFactor.1 q_Rdr_readFactor.2.1 z q_Rdr_readFactor.2.2.2 [9, 20, 40, 60, 115] 400 (zfind q_Rdr_readFactor.2.2.2 40) [(2, 40), (0, v1), (0, v2)] [] μ = (C 43 [(2, 1), (0, 93)] μ).bind fun q1 => (g_Rdr_readFactor_115 E q1.2) := by
    intro C E
    rw [← zup_self hm40_0]; rfl
  exact key _ _
def g_Rdr_opens_31 (E : Nat → List zv → List zv → Mu → mR) (μ : Mu) : mR := E 31 [(2, 40), (9, 0)] [] μ
noncomputable def f_Rdr_opens_31 (z : zZ) (d : Nat) (μ : Mu) : mR := g_Rdr_opens_31 (fun pc ls st μ => mE z d q_Rdr_opens pc ls st μ) μ
theorem k_Rdr_opens : zprK q_Rdr_opens.2.2.2 = true ∧ zinc q_Rdr_opens.2.2.2 = true := by decide +kernel
set_option maxRecDepth 100000 in
theorem c_Rdr_opens (z : zZ) (d : Nat) (v1 : Int) (μ : Mu) (hm40_0 : μ 40 0 = 2) : mC z (d + 1) 51 [(2, 40), (0, v1)] μ = bif !decide (μ 1 4 = 0) then (f_Rdr_opens_31 z d μ) else (bif decide (v1 < 6) then (f_Rdr_opens_31 z d μ) else ((mC z d 28 [(2, 1), (0, 5), (0, μ 1 2)] μ).bind fun q1 => (f_Rdr_opens_31 z d q1.2))) := by
  rw [mC_succ q_Rdr_opens rfl rfl rfl]
  rw [mE_bk (M := q_Rdr_opens) k_Rdr_opens.1 k_Rdr_opens.2 [31] 400]
  have key : ∀ (C : Nat → List zv → Mu → mR) (E : Nat → List zv → List zv → Mu → mR), mbk C E q_Rdr_opens.1 q_Rdr_opens.2.1 z q_Rdr_opens.2.2.2 [31] 400 (zfind q_Rdr_opens.2.2.2 0) (zentry q_Rdr_opens.2.2.1 [(2, 40), (0, v1)]) [] μ = bif !decide (μ 1 4 = 0) then (g_Rdr_opens_31 E μ) else (bif decide (v1 < 6) then (g_Rdr_opens_31 E μ) else ((C 28 [(2, 1), (0, 5), (0, μ 1 2)] μ).bind fun q1 => (g_Rdr_opens_31 E q1.2))) := by
    intro C E
    rw [← zup_self hm40_0]; rfl
  exact key _ _
set_option maxRecDepth 100000 in
theorem e_Rdr_opens_31 (z : zZ) (d : Nat) (μ : Mu) (hm40_0 : μ 40 0 = 2) : f_Rdr_opens_31 z d μ = bif decide (μ 1 4 = 0) then (some (1, zup μ 1 2 (zw ((μ 1 2) + 1)))) else (some (0, μ)) := by
  show mE z d q_Rdr_opens 31 [(2, 40), (9, 0)] [] μ = _
  rw [mE_bk (M := q_Rdr_opens) k_Rdr_opens.1 k_Rdr_opens.2 [31] 400]
  have key : ∀ (C : Nat → List zv → Mu → mR) (E : Nat → List zv → List zv → Mu → mR), mbk C E q_Rdr_opens.1 q_Rdr_opens.2.1 z q_Rdr_opens.2.2.2 [31] 400 (zfind q_Rdr_opens.2.2.2 31) [(2, 40), (9, 0)] [] μ = bif decide (μ 1 4 = 0) then (some (1, zup μ 1 2 (zw ((μ 1 2) + 1)))) else (some (0, μ)) := by
    intro C E
    rw [← zup_self hm40_0]; rfl
  exact key _ _
def g_Tape_atDigit_22 (E : Nat → List zv → List zv → Mu → mR) (μ : Mu) : mR := E 22 [(9, 0)] [] μ
noncomputable def f_Tape_atDigit_22 (z : zZ) (d : Nat) (μ : Mu) : mR := g_Tape_atDigit_22 (fun pc ls st μ => mE z d q_Tape_atDigit pc ls st μ) μ
def g_Tape_atDigit_23 (E : Nat → List zv → List zv → Mu → mR) (v100 : Int) (μ : Mu) : mR := E 23 [(9, 0)] [(0, v100)] μ
noncomputable def f_Tape_atDigit_23 (z : zZ) (d : Nat) (v100 : Int) (μ : Mu) : mR := g_Tape_atDigit_23 (fun pc ls st μ => mE z d q_Tape_atDigit pc ls st μ) v100 μ
theorem k_Tape_atDigit : zprK q_Tape_atDigit.2.2.2 = true ∧ zinc q_Tape_atDigit.2.2.2 = true := by decide +kernel
set_option maxRecDepth 100000 in
theorem c_Tape_atDigit (z : zZ) (d : Nat) (μ : Mu) : mC z (d + 1) 52 [(2, 1)] μ = (mC z d 22 [(2, 1)] μ).bind fun q1 => (bif decide (q1.1 < 48) then (f_Tape_atDigit_22 z d q1.2) else ((mC z d 22 [(2, 1)] q1.2).bind fun q2 => (bif decide (57 < q2.1) then (f_Tape_atDigit_22 z d q2.2) else (f_Tape_atDigit_23 z d 1 q2.2)))) := by
  rw [mC_succ q_Tape_atDigit rfl rfl rfl]
  rw [mE_bk (M := q_Tape_atDigit) k_Tape_atDigit.1 k_Tape_atDigit.2 [22, 23] 400]
  have key : ∀ (C : Nat → List zv → Mu → mR) (E : Nat → List zv → List zv → Mu → mR), mbk C E q_Tape_atDigit.1 q_Tape_atDigit.2.1 z q_Tape_atDigit.2.2.2 [22, 23] 400 (zfind q_Tape_atDigit.2.2.2 0) (zentry q_Tape_atDigit.2.2.1 [(2, 1)]) [] μ = (C 22 [(2, 1)] μ).bind fun q1 => (bif decide (q1.1 < 48) then (g_Tape_atDigit_22 E q1.2) else ((C 22 [(2, 1)] q1.2).bind fun q2 => (bif decide (57 < q2.1) then (g_Tape_atDigit_22 E q2.2) else (g_Tape_atDigit_23 E 1 q2.2)))) := by
    intro C E
    rfl
  exact key _ _
set_option maxRecDepth 100000 in
theorem e_Tape_atDigit_22 (z : zZ) (d : Nat) (μ : Mu) : f_Tape_atDigit_22 z d μ = f_Tape_atDigit_23 z d 0 μ := by
  show mE z d q_Tape_atDigit 22 [(9, 0)] [] μ = _
  rw [mE_bk (M := q_Tape_atDigit) k_Tape_atDigit.1 k_Tape_atDigit.2 [22, 23] 400]
  have key : ∀ (C : Nat → List zv → Mu → mR) (E : Nat → List zv → List zv → Mu → mR), mbk C E q_Tape_atDigit.1 q_Tape_atDigit.2.1 z q_Tape_atDigit.2.2.2 [22, 23] 400 (zfind q_Tape_atDigit.2.2.2 22) [(9, 0)] [] μ = g_Tape_atDigit_23 E 0 μ := by
    intro C E
    rfl
  exact key _ _
set_option maxRecDepth 100000 in
theorem e_Tape_atDigit_23 (z : zZ) (d : Nat) (v100 : Int) (μ : Mu) : f_Tape_atDigit_23 z d v100 μ = g01 v100 (some (v100, μ)) := by
  show mE z d q_Tape_atDigit 23 [(9, 0)] [(0, v100)] μ = _
  rw [mE_bk (M := q_Tape_atDigit) k_Tape_atDigit.1 k_Tape_atDigit.2 [22, 23] 400]
  have key : ∀ (C : Nat → List zv → Mu → mR) (E : Nat → List zv → List zv → Mu → mR), mbk C E q_Tape_atDigit.1 q_Tape_atDigit.2.1 z q_Tape_atDigit.2.2.2 [22, 23] 400 (zfind q_Tape_atDigit.2.2.2 23) [(9, 0)] [(0, v100)] μ = g01 v100 (some (v100, μ)) := by
    intro C E
    rfl
  exact key _ _
