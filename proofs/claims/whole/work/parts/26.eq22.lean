def g_Rdr_readNumber_4 (E : Nat → List zv → List zv → Mu → mR) (v1 : Int) (v2 : Int) (μ : Mu) : mR := E 4 [(2, 40), (0, v1), (0, v2)] [] μ
noncomputable def f_Rdr_readNumber_4 (z : zZ) (d : Nat) (v1 : Int) (v2 : Int) (μ : Mu) : mR := g_Rdr_readNumber_4 (fun pc ls st μ => mE z d q_Rdr_readNumber pc ls st μ) v1 v2 μ
def g_Rdr_readNumber_16 (E : Nat → List zv → List zv → Mu → mR) (v1 : Int) (v2 : Int) (v100 : Int) (μ : Mu) : mR := E 16 [(2, 40), (0, v1), (0, v2)] [(0, v100)] μ
noncomputable def f_Rdr_readNumber_16 (z : zZ) (d : Nat) (v1 : Int) (v2 : Int) (v100 : Int) (μ : Mu) : mR := g_Rdr_readNumber_16 (fun pc ls st μ => mE z d q_Rdr_readNumber pc ls st μ) v1 v2 v100 μ
def g_Rdr_readNumber_41 (E : Nat → List zv → List zv → Mu → mR) (v1 : Int) (μ : Mu) : mR := E 41 [(2, 40), (0, v1), (9, 0)] [] μ
noncomputable def f_Rdr_readNumber_41 (z : zZ) (d : Nat) (v1 : Int) (μ : Mu) : mR := g_Rdr_readNumber_41 (fun pc ls st μ => mE z d q_Rdr_readNumber pc ls st μ) v1 μ
def g_Rdr_readNumber_48 (E : Nat → List zv → List zv → Mu → mR) (v1 : Int) (v100 : Int) (μ : Mu) : mR := E 48 [(2, 40), (0, v1), (9, 0)] [(0, v100)] μ
noncomputable def f_Rdr_readNumber_48 (z : zZ) (d : Nat) (v1 : Int) (v100 : Int) (μ : Mu) : mR := g_Rdr_readNumber_48 (fun pc ls st μ => mE z d q_Rdr_readNumber pc ls st μ) v1 v100 μ
def g_Rdr_readNumber_66 (E : Nat → List zv → List zv → Mu → mR) (v1 : Int) (μ : Mu) : mR := E 66 [(2, 40), (0, v1), (9, 0)] [] μ
noncomputable def f_Rdr_readNumber_66 (z : zZ) (d : Nat) (v1 : Int) (μ : Mu) : mR := g_Rdr_readNumber_66 (fun pc ls st μ => mE z d q_Rdr_readNumber pc ls st μ) v1 μ
theorem k_Rdr_readNumber : zprK q_Rdr_readNumber.2.2.2 = true ∧ zinc q_Rdr_readNumber.2.2.2 = true := by decide +kernel
set_option maxRecDepth 100000 in
theorem c_Rdr_readNumber (z : zZ) (d : Nat) (μ : Mu) : mC z (d + 1) 53 [(2, 40)] μ = f_Rdr_readNumber_4 z d 0 0 μ := by
  rw [mC_succ q_Rdr_readNumber rfl rfl rfl]
  rw [mE_bk (M := q_Rdr_readNumber) k_Rdr_readNumber.1 k_Rdr_readNumber.2 [4, 16, 41, 48, 66] 400]
  have key : ∀ (C : Nat → List zv → Mu → mR) (E : Nat → List zv → List zv → Mu → mR), mbk C E q_Rdr_readNumber.1 q_Rdr_readNumber.2.1 z q_Rdr_readNumber.2.2.2 [4, 16, 41, 48, 66] 400 (zfind q_Rdr_readNumber.2.2.2 0) (zentry q_Rdr_readNumber.2.2.1 [(2, 40)]) [] μ = g_Rdr_readNumber_4 E 0 0 μ := by
    intro C E
    rfl
  exact key _ _
set_option maxRecDepth 100000 in
theorem e_Rdr_readNumber_4 (z : zZ) (d : Nat) (v1 : Int) (v2 : Int) (μ : Mu) (hm40_0 : μ 40 0 = 2) : f_Rdr_readNumber_4 z d v1 v2 μ = bif decide (5 ≤ v2) then (f_Rdr_readNumber_41 z d v1 μ) else ((mC z d 52 [(2, 1)] μ).bind fun q1 => (f_Rdr_readNumber_16 z d v1 v2 q1.1 q1.2)) := by
  show mE z d q_Rdr_readNumber 4 [(2, 40), (0, v1), (0, v2)] [] μ = _
  rw [mE_bk (M := q_Rdr_readNumber) k_Rdr_readNumber.1 k_Rdr_readNumber.2 [4, 16, 41, 48, 66] 400]
  have key : ∀ (C : Nat → List zv → Mu → mR) (E : Nat → List zv → List zv → Mu → mR), mbk C E q_Rdr_readNumber.1 q_Rdr_readNumber.2.1 z q_Rdr_readNumber.2.2.2 [4, 16, 41, 48, 66] 400 (zfind q_Rdr_readNumber.2.2.2 4) [(2, 40), (0, v1), (0, v2)] [] μ = bif decide (5 ≤ v2) then (g_Rdr_readNumber_41 E v1 μ) else ((C 52 [(2, 1)] μ).bind fun q1 => (g_Rdr_readNumber_16 E v1 v2 q1.1 q1.2)) := by
    intro C E
    rw [← zup_self hm40_0]; rfl
  exact key _ _
set_option maxRecDepth 100000 in
theorem e_Rdr_readNumber_41 (z : zZ) (d : Nat) (v1 : Int) (μ : Mu) (hm40_0 : μ 40 0 = 2) : f_Rdr_readNumber_41 z d v1 μ = (mC z d 52 [(2, 1)] μ).bind fun q1 => (f_Rdr_readNumber_48 z d v1 q1.1 q1.2) := by
  show mE z d q_Rdr_readNumber 41 [(2, 40), (0, v1), (9, 0)] [] μ = _
  rw [mE_bk (M := q_Rdr_readNumber) k_Rdr_readNumber.1 k_Rdr_readNumber.2 [4, 16, 41, 48, 66] 400]
  have key : ∀ (C : Nat → List zv → Mu → mR) (E : Nat → List zv → List zv → Mu → mR), mbk C E q_Rdr_readNumber.1 q_Rdr_readNumber.2.1 z q_Rdr_readNumber.2.2.2 [4, 16, 41, 48, 66] 400 (zfind q_Rdr_readNumber.2.2.2 41) [(2, 40), (0, v1), (9, 0)] [] μ = (C 52 [(2, 1)] μ).bind fun q1 => (g_Rdr_readNumber_48 E v1 q1.1 q1.2) := by
    intro C E
    rw [← zup_self hm40_0]; rfl
  exact key _ _
set_option maxRecDepth 100000 in
theorem e_Rdr_readNumber_16 (z : zZ) (d : Nat) (v1 : Int) (v2 : Int) (v100 : Int) (μ : Mu) (hm40_0 : μ 40 0 = 2) : f_Rdr_readNumber_16 z d v1 v2 v100 μ = bif decide (v100 = 0) then (f_Rdr_readNumber_41 z d v1 μ) else ((mC z d 21 [(2, 1)] μ).bind fun q1 => (f_Rdr_readNumber_4 z d (zw ((zw ((zw (v1 * 10)) + q1.1)) - 48)) (zw (v2 + 1)) q1.2)) := by
  show mE z d q_Rdr_readNumber 16 [(2, 40), (0, v1), (0, v2)] [(0, v100)] μ = _
  rw [mE_bk (M := q_Rdr_readNumber) k_Rdr_readNumber.1 k_Rdr_readNumber.2 [4, 16, 41, 48, 66] 400]
  have key : ∀ (C : Nat → List zv → Mu → mR) (E : Nat → List zv → List zv → Mu → mR), mbk C E q_Rdr_readNumber.1 q_Rdr_readNumber.2.1 z q_Rdr_readNumber.2.2.2 [4, 16, 41, 48, 66] 400 (zfind q_Rdr_readNumber.2.2.2 16) [(2, 40), (0, v1), (0, v2)] [(0, v100)] μ = bif decide (v100 = 0) then (g_Rdr_readNumber_41 E v1 μ) else ((C 21 [(2, 1)] μ).bind fun q1 => (g_Rdr_readNumber_4 E (zw ((zw ((zw (v1 * 10)) + q1.1)) - 48)) (zw (v2 + 1)) q1.2)) := by
    intro C E
    rw [← zup_self hm40_0]; rfl
  exact key _ _
set_option maxRecDepth 100000 in
theorem e_Rdr_readNumber_48 (z : zZ) (d : Nat) (v1 : Int) (v100 : Int) (μ : Mu) (hm40_0 : μ 40 0 = 2) : f_Rdr_readNumber_48 z d v1 v100 μ = bif decide (v100 = 0) then (f_Rdr_readNumber_66 z d v1 μ) else ((mC z d 28 [(2, 1), (0, 2), (0, μ 1 2)] μ).bind fun q1 => (f_Rdr_readNumber_66 z d v1 q1.2)) := by
  show mE z d q_Rdr_readNumber 48 [(2, 40), (0, v1), (9, 0)] [(0, v100)] μ = _
  rw [mE_bk (M := q_Rdr_readNumber) k_Rdr_readNumber.1 k_Rdr_readNumber.2 [4, 16, 41, 48, 66] 400]
  have key : ∀ (C : Nat → List zv → Mu → mR) (E : Nat → List zv → List zv → Mu → mR), mbk C E q_Rdr_readNumber.1 q_Rdr_readNumber.2.1 z q_Rdr_readNumber.2.2.2 [4, 16, 41, 48, 66] 400 (zfind q_Rdr_readNumber.2.2.2 48) [(2, 40), (0, v1), (9, 0)] [(0, v100)] μ = bif decide (v100 = 0) then (g_Rdr_readNumber_66 E v1 μ) else ((C 28 [(2, 1), (0, 2), (0, μ 1 2)] μ).bind fun q1 => (g_Rdr_readNumber_66 E v1 q1.2)) := by
    intro C E
    rw [← zup_self hm40_0]; rfl
  exact key _ _
set_option maxRecDepth 100000 in
theorem e_Rdr_readNumber_66 (z : zZ) (d : Nat) (v1 : Int) (μ : Mu) (m40_1 : Nat) (hcm40_1 : m40_1 = 41 ∨ m40_1 = 47) (hm40_1 : μ 40 1 = ((m40_1 : Nat) : Int) + 1) : f_Rdr_readNumber_66 z d v1 μ = (mC z d 54 [(2, ((m40_1 : Nat) : Int)), (0, 1), (0, v1)] μ).bind fun q1 => (some (0, q1.2)) := by
  show mE z d q_Rdr_readNumber 66 [(2, 40), (0, v1), (9, 0)] [] μ = _
  rw [mE_bk (M := q_Rdr_readNumber) k_Rdr_readNumber.1 k_Rdr_readNumber.2 [4, 16, 41, 48, 66] 400]
  have key : ∀ (C : Nat → List zv → Mu → mR) (E : Nat → List zv → List zv → Mu → mR), mbk C E q_Rdr_readNumber.1 q_Rdr_readNumber.2.1 z q_Rdr_readNumber.2.2.2 [4, 16, 41, 48, 66] 400 (zfind q_Rdr_readNumber.2.2.2 66) [(2, 40), (0, v1), (9, 0)] [] μ = (C 54 [(2, ((m40_1 : Nat) : Int)), (0, 1), (0, v1)] μ).bind fun q1 => (some (0, q1.2)) := by
    intro C E
    rcases hcm40_1 with rfl | rfl <;> (rw [← zup_self hm40_1]; rfl)
  exact key _ _
def g_Law_put_34 (E : Nat → List zv → List zv → Mu → mR) (μ : Mu) : mR := E 34 [(9, 0), (9, 0), (9, 0)] [] μ
noncomputable def f_Law_put_34 (z : zZ) (d : Nat) (μ : Mu) : mR := g_Law_put_34 (fun pc ls st μ => mE z d q_Law_put pc ls st μ) μ
theorem k_Law_put : zprK q_Law_put.2.2.2 = true ∧ zinc q_Law_put.2.2.2 = true := by decide +kernel
set_option maxRecDepth 100000 in
theorem c_Law_put (z : zZ) (d : Nat) (o0 : Nat) (v1 : Int) (v2 : Int) (μ : Mu) (ho0 : o0 = 41 ∨ o0 = 47) : mC z (d + 1) 54 [(2, ((o0 : Nat) : Int)), (0, v1), (0, v2)] μ = bif decide (256 ≤ μ o0 5) then (f_Law_put_34 z d μ) else (gI (μ o0 5) 256 (f_Law_put_34 z d (zup (zup μ (o0 + 4) ((μ o0 5).toNat) (z_or v1 (z_shl v2 4))) o0 5 (zw ((μ o0 5) + 1))))) := by
  rw [mC_succ q_Law_put rfl rfl rfl]
  rw [mE_bk (M := q_Law_put) k_Law_put.1 k_Law_put.2 [34] 400]
  have key : ∀ (C : Nat → List zv → Mu → mR) (E : Nat → List zv → List zv → Mu → mR), mbk C E q_Law_put.1 q_Law_put.2.1 z q_Law_put.2.2.2 [34] 400 (zfind q_Law_put.2.2.2 0) (zentry q_Law_put.2.2.1 [(2, ((o0 : Nat) : Int)), (0, v1), (0, v2)]) [] μ = bif decide (256 ≤ μ o0 5) then (g_Law_put_34 E μ) else (gI (μ o0 5) 256 (g_Law_put_34 E (zup (zup μ (o0 + 4) ((μ o0 5).toNat) (z_or v1 (z_shl v2 4))) o0 5 (zw ((μ o0 5) + 1))))) := by
    intro C E
    rcases ho0 with rfl | rfl <;> (rfl)
  exact key _ _
set_option maxRecDepth 100000 in
theorem e_Law_put_34 (z : zZ) (d : Nat) (μ : Mu) : f_Law_put_34 z d μ = some (0, μ) := by
  show mE z d q_Law_put 34 [(9, 0), (9, 0), (9, 0)] [] μ = _
  rw [mE_bk (M := q_Law_put) k_Law_put.1 k_Law_put.2 [34] 400]
  have key : ∀ (C : Nat → List zv → Mu → mR) (E : Nat → List zv → List zv → Mu → mR), mbk C E q_Law_put.1 q_Law_put.2.1 z q_Law_put.2.2.2 [34] 400 (zfind q_Law_put.2.2.2 34) [(9, 0), (9, 0), (9, 0)] [] μ = some (0, μ) := by
    intro C E
    rfl
  exact key _ _
theorem k_Rdr_putSign : zprK q_Rdr_putSign.2.2.2 = true ∧ zinc q_Rdr_putSign.2.2.2 = true := by decide +kernel
set_option maxRecDepth 100000 in
theorem c_Rdr_putSign (z : zZ) (d : Nat) (v1 : Int) (μ : Mu) (m40_1 : Nat) (hcm40_1 : m40_1 = 41 ∨ m40_1 = 47) (hm40_1 : μ 40 1 = ((m40_1 : Nat) : Int) + 1) : mC z (d + 1) 55 [(2, 40), (0, v1)] μ = (mC z d 54 [(2, ((m40_1 : Nat) : Int)), (0, zw (6 + (zpl 5 v1))), (0, 0)] μ).bind fun q1 => (some (0, q1.2)) := by
  rw [mC_succ q_Rdr_putSign rfl rfl rfl]
  rw [mE_bk (M := q_Rdr_putSign) k_Rdr_putSign.1 k_Rdr_putSign.2 [] 400]
  have key : ∀ (C : Nat → List zv → Mu → mR) (E : Nat → List zv → List zv → Mu → mR), mbk C E q_Rdr_putSign.1 q_Rdr_putSign.2.1 z q_Rdr_putSign.2.2.2 [] 400 (zfind q_Rdr_putSign.2.2.2 0) (zentry q_Rdr_putSign.2.2.1 [(2, 40), (0, v1)]) [] μ = (C 54 [(2, ((m40_1 : Nat) : Int)), (0, zw (6 + (zpl 5 v1))), (0, 0)] μ).bind fun q1 => (some (0, q1.2)) := by
    intro C E
    rcases hcm40_1 with rfl | rfl <;> (rw [← zup_self hm40_1]; rfl)
  exact key _ _
def g_Rdr_readCondition_9 (E : Nat → List zv → List zv → Mu → mR) (v1 : Int) (v2 : Int) (v3 : Int) (μ : Mu) : mR := E 9 [(2, 40), (0, v1), (0, v2), (0, v3)] [] μ
noncomputable def f_Rdr_readCondition_9 (z : zZ) (d : Nat) (v1 : Int) (v2 : Int) (v3 : Int) (μ : Mu) : mR := g_Rdr_readCondition_9 (fun pc ls st μ => mE z d q_Rdr_readCondition pc ls st μ) v1 v2 v3 μ
def g_Rdr_readCondition_33 (E : Nat → List zv → List zv → Mu → mR) (v1 : Int) (v2 : Int) (v3 : Int) (v100 : Int) (μ : Mu) : mR := E 33 [(2, 40), (0, v1), (0, v2), (0, v3)] [(0, v100)] μ
noncomputable def f_Rdr_readCondition_33 (z : zZ) (d : Nat) (v1 : Int) (v2 : Int) (v3 : Int) (v100 : Int) (μ : Mu) : mR := g_Rdr_readCondition_33 (fun pc ls st μ => mE z d q_Rdr_readCondition pc ls st μ) v1 v2 v3 v100 μ
def g_Rdr_readCondition_72 (E : Nat → List zv → List zv → Mu → mR) (v2 : Int) (μ : Mu) : mR := E 72 [(2, 40), (9, 0), (0, v2), (9, 0)] [] μ
noncomputable def f_Rdr_readCondition_72 (z : zZ) (d : Nat) (v2 : Int) (μ : Mu) : mR := g_Rdr_readCondition_72 (fun pc ls st μ => mE z d q_Rdr_readCondition pc ls st μ) v2 μ
theorem k_Rdr_readCondition : zprK q_Rdr_readCondition.2.2.2 = true ∧ zinc q_Rdr_readCondition.2.2.2 = true := by decide +kernel
set_option maxRecDepth 100000 in
theorem c_Rdr_readCondition (z : zZ) (d : Nat) (v1 : Int) (μ : Mu) : mC z (d + 1) 56 [(2, 40), (0, v1)] μ = (mC z d 57 [(2, 40), (0, v1)] μ).bind fun q1 => (f_Rdr_readCondition_9 z d v1 ((-1)) 0 q1.2) := by
  rw [mC_succ q_Rdr_readCondition rfl rfl rfl]
  rw [mE_bk (M := q_Rdr_readCondition) k_Rdr_readCondition.1 k_Rdr_readCondition.2 [9, 33, 72] 400]
  have key : ∀ (C : Nat → List zv → Mu → mR) (E : Nat → List zv → List zv → Mu → mR), mbk C E q_Rdr_readCondition.1 q_Rdr_readCondition.2.1 z q_Rdr_readCondition.2.2.2 [9, 33, 72] 400 (zfind q_Rdr_readCondition.2.2.2 0) (zentry q_Rdr_readCondition.2.2.1 [(2, 40), (0, v1)]) [] μ = (C 57 [(2, 40), (0, v1)] μ).bind fun q1 => (g_Rdr_readCondition_9 E v1 ((-1)) 0 q1.2) := by
    intro C E
    rfl
  exact key _ _
set_option maxRecDepth 100000 in
theorem e_Rdr_readCondition_9 (z : zZ) (d : Nat) (v1 : Int) (v2 : Int) (v3 : Int) (μ : Mu) (hm40_0 : μ 40 0 = 2) : f_Rdr_readCondition_9 z d v1 v2 v3 μ = bif decide (200 ≤ v3) then (f_Rdr_readCondition_72 z d v2 μ) else (bif !decide (μ 1 4 = 0) then (f_Rdr_readCondition_72 z d v2 μ) else ((mC z d 22 [(2, 1)] μ).bind fun q1 => (f_Rdr_readCondition_33 z d v1 v2 v3 q1.1 q1.2))) := by
  show mE z d q_Rdr_readCondition 9 [(2, 40), (0, v1), (0, v2), (0, v3)] [] μ = _
  rw [mE_bk (M := q_Rdr_readCondition) k_Rdr_readCondition.1 k_Rdr_readCondition.2 [9, 33, 72] 400]
  have key : ∀ (C : Nat → List zv → Mu → mR) (E : Nat → List zv → List zv → Mu → mR), mbk C E q_Rdr_readCondition.1 q_Rdr_readCondition.2.1 z q_Rdr_readCondition.2.2.2 [9, 33, 72] 400 (zfind q_Rdr_readCondition.2.2.2 9) [(2, 40), (0, v1), (0, v2), (0, v3)] [] μ = bif decide (200 ≤ v3) then (g_Rdr_readCondition_72 E v2 μ) else (bif !decide (μ 1 4 = 0) then (g_Rdr_readCondition_72 E v2 μ) else ((C 22 [(2, 1)] μ).bind fun q1 => (g_Rdr_readCondition_33 E v1 v2 v3 q1.1 q1.2))) := by
    intro C E
    rw [← zup_self hm40_0]; rfl
  exact key _ _
set_option maxRecDepth 100000 in
theorem e_Rdr_readCondition_72 (z : zZ) (d : Nat) (v2 : Int) (μ : Mu) (m40_1 : Nat) (hcm40_1 : m40_1 = 41 ∨ m40_1 = 47) (hm40_1 : μ 40 1 = ((m40_1 : Nat) : Int) + 1) : f_Rdr_readCondition_72 z d v2 μ = (mC z d 61 [(2, ((m40_1 : Nat) : Int)), (0, v2)] μ).bind fun q1 => (some (0, q1.2)) := by
  show mE z d q_Rdr_readCondition 72 [(2, 40), (9, 0), (0, v2), (9, 0)] [] μ = _
  rw [mE_bk (M := q_Rdr_readCondition) k_Rdr_readCondition.1 k_Rdr_readCondition.2 [9, 33, 72] 400]
  have key : ∀ (C : Nat → List zv → Mu → mR) (E : Nat → List zv → List zv → Mu → mR), mbk C E q_Rdr_readCondition.1 q_Rdr_readCondition.2.1 z q_Rdr_readCondition.2.2.2 [9, 33, 72] 400 (zfind q_Rdr_readCondition.2.2.2 72) [(2, 40), (9, 0), (0, v2), (9, 0)] [] μ = (C 61 [(2, ((m40_1 : Nat) : Int)), (0, v2)] μ).bind fun q1 => (some (0, q1.2)) := by
    intro C E
    rcases hcm40_1 with rfl | rfl <;> (rw [← zup_self hm40_1]; rfl)
  exact key _ _
set_option maxRecDepth 100000 in
theorem e_Rdr_readCondition_33 (z : zZ) (d : Nat) (v1 : Int) (v2 : Int) (v3 : Int) (v100 : Int) (μ : Mu) (hm40_0 : μ 40 0 = 2) (m40_1 : Nat) (hcm40_1 : m40_1 = 41 ∨ m40_1 = 47) (hm40_1 : μ 40 1 = ((m40_1 : Nat) : Int) + 1) : f_Rdr_readCondition_33 z d v1 v2 v3 v100 μ = bif !decide (v100 = 124) then (f_Rdr_readCondition_72 z d v2 μ) else ((mC z d 60 [(2, ((m40_1 : Nat) : Int)), (0, 4), (0, v2)] (zup μ 1 2 (zw ((μ 1 2) + 1)))).bind fun q1 => ((mC z d 57 [(2, 40), (0, v1)] q1.2).bind fun q2 => (f_Rdr_readCondition_9 z d v1 q1.1 (zw (v3 + 1)) q2.2))) := by
  show mE z d q_Rdr_readCondition 33 [(2, 40), (0, v1), (0, v2), (0, v3)] [(0, v100)] μ = _
  rw [mE_bk (M := q_Rdr_readCondition) k_Rdr_readCondition.1 k_Rdr_readCondition.2 [9, 33, 72] 400]
  have key : ∀ (C : Nat → List zv → Mu → mR) (E : Nat → List zv → List zv → Mu → mR), mbk C E q_Rdr_readCondition.1 q_Rdr_readCondition.2.1 z q_Rdr_readCondition.2.2.2 [9, 33, 72] 400 (zfind q_Rdr_readCondition.2.2.2 33) [(2, 40), (0, v1), (0, v2), (0, v3)] [(0, v100)] μ = bif !decide (v100 = 124) then (g_Rdr_readCondition_72 E v2 μ) else ((C 60 [(2, ((m40_1 : Nat) : Int)), (0, 4), (0, v2)] (zup μ 1 2 (zw ((μ 1 2) + 1)))).bind fun q1 => ((C 57 [(2, 40), (0, v1)] q1.2).bind fun q2 => (g_Rdr_readCondition_9 E v1 q1.1 (zw (v3 + 1)) q2.2))) := by
    intro C E
    rcases hcm40_1 with rfl | rfl <;> (rw [← zup_self hm40_0, ← zup_self hm40_1]; rfl)
  exact key _ _
def g_Rdr_readPart_9 (E : Nat → List zv → List zv → Mu → mR) (v1 : Int) (v2 : Int) (v3 : Int) (μ : Mu) : mR := E 9 [(2, 40), (0, v1), (0, v2), (0, v3)] [] μ
noncomputable def f_Rdr_readPart_9 (z : zZ) (d : Nat) (v1 : Int) (v2 : Int) (v3 : Int) (μ : Mu) : mR := g_Rdr_readPart_9 (fun pc ls st μ => mE z d q_Rdr_readPart pc ls st μ) v1 v2 v3 μ
def g_Rdr_readPart_33 (E : Nat → List zv → List zv → Mu → mR) (v1 : Int) (v2 : Int) (v3 : Int) (v100 : Int) (μ : Mu) : mR := E 33 [(2, 40), (0, v1), (0, v2), (0, v3)] [(0, v100)] μ
noncomputable def f_Rdr_readPart_33 (z : zZ) (d : Nat) (v1 : Int) (v2 : Int) (v3 : Int) (v100 : Int) (μ : Mu) : mR := g_Rdr_readPart_33 (fun pc ls st μ => mE z d q_Rdr_readPart pc ls st μ) v1 v2 v3 v100 μ
def g_Rdr_readPart_72 (E : Nat → List zv → List zv → Mu → mR) (v2 : Int) (μ : Mu) : mR := E 72 [(2, 40), (9, 0), (0, v2), (9, 0)] [] μ
noncomputable def f_Rdr_readPart_72 (z : zZ) (d : Nat) (v2 : Int) (μ : Mu) : mR := g_Rdr_readPart_72 (fun pc ls st μ => mE z d q_Rdr_readPart pc ls st μ) v2 μ
theorem k_Rdr_readPart : zprK q_Rdr_readPart.2.2.2 = true ∧ zinc q_Rdr_readPart.2.2.2 = true := by decide +kernel
set_option maxRecDepth 100000 in
theorem c_Rdr_readPart (z : zZ) (d : Nat) (v1 : Int) (μ : Mu) : mC z (d + 1) 57 [(2, 40), (0, v1)] μ = (mC z d 58 [(2, 40), (0, v1)] μ).bind fun q1 => (f_Rdr_readPart_9 z d v1 ((-1)) 0 q1.2) := by
  rw [mC_succ q_Rdr_readPart rfl rfl rfl]
  rw [mE_bk (M := q_Rdr_readPart) k_Rdr_readPart.1 k_Rdr_readPart.2 [9, 33, 72] 400]
  have key : ∀ (C : Nat → List zv → Mu → mR) (E : Nat → List zv → List zv → Mu → mR), mbk C E q_Rdr_readPart.1 q_Rdr_readPart.2.1 z q_Rdr_readPart.2.2.2 [9, 33, 72] 400 (zfind q_Rdr_readPart.2.2.2 0) (zentry q_Rdr_readPart.2.2.1 [(2, 40), (0, v1)]) [] μ = (C 58 [(2, 40), (0, v1)] μ).bind fun q1 => (g_Rdr_readPart_9 E v1 ((-1)) 0 q1.2) := by
    intro C E
    rfl
  exact key _ _
set_option maxRecDepth 100000 in
theorem e_Rdr_readPart_9 (z : zZ) (d : Nat) (v1 : Int) (v2 : Int) (v3 : Int) (μ : Mu) (hm40_0 : μ 40 0 = 2) : f_Rdr_readPart_9 z d v1 v2 v3 μ = bif decide (200 ≤ v3) then (f_Rdr_readPart_72 z d v2 μ) else (bif !decide (μ 1 4 = 0) then (f_Rdr_readPart_72 z d v2 μ) else ((mC z d 22 [(2, 1)] μ).bind fun q1 => (f_Rdr_readPart_33 z d v1 v2 v3 q1.1 q1.2))) := by
  show mE z d q_Rdr_readPart 9 [(2, 40), (0, v1), (0, v2), (0, v3)] [] μ = _
  rw [mE_bk (M := q_Rdr_readPart) k_Rdr_readPart.1 k_Rdr_readPart.2 [9, 33, 72] 400]
  have key : ∀ (C : Nat → List zv → Mu → mR) (E : Nat → List zv → List zv → Mu → mR), mbk C E q_Rdr_readPart.1 q_Rdr_readPart.2.1 z q_Rdr_readPart.2.2.2 [9, 33, 72] 400 (zfind q_Rdr_readPart.2.2.2 9) [(2, 40), (0, v1), (0, v2), (0, v3)] [] μ = bif decide (200 ≤ v3) then (g_Rdr_readPart_72 E v2 μ) else (bif !decide (μ 1 4 = 0) then (g_Rdr_readPart_72 E v2 μ) else ((C 22 [(2, 1)] μ).bind fun q1 => (g_Rdr_readPart_33 E v1 v2 v3 q1.1 q1.2))) := by
    intro C E
    rw [← zup_self hm40_0]; rfl
  exact key _ _
set_option maxRecDepth 100000 in
theorem e_Rdr_readPart_72 (z : zZ) (d : Nat) (v2 : Int) (μ : Mu) (m40_1 : Nat) (hcm40_1 : m40_1 = 41 ∨ m40_1 = 47) (hm40_1 : μ 40 1 = ((m40_1 : Nat) : Int) + 1) : f_Rdr_readPart_72 z d v2 μ = (mC z d 61 [(2, ((m40_1 : Nat) : Int)), (0, v2)] μ).bind fun q1 => (some (0, q1.2)) := by
  show mE z d q_Rdr_readPart 72 [(2, 40), (9, 0), (0, v2), (9, 0)] [] μ = _
  rw [mE_bk (M := q_Rdr_readPart) k_Rdr_readPart.1 k_Rdr_readPart.2 [9, 33, 72] 400]
  have key : ∀ (C : Nat → List zv → Mu → mR) (E : Nat → List zv → List zv → Mu → mR), mbk C E q_Rdr_readPart.1 q_Rdr_readPart.2.1 z q_Rdr_readPart.2.2.2 [9, 33, 72] 400 (zfind q_Rdr_readPart.2.2.2 72) [(2, 40), (9, 0), (0, v2), (9, 0)] [] μ = (C 61 [(2, ((m40_1 : Nat) : Int)), (0, v2)] μ).bind fun q1 => (some (0, q1.2)) := by
    intro C E
    rcases hcm40_1 with rfl | rfl <;> (rw [← zup_self hm40_1]; rfl)
  exact key _ _
set_option maxRecDepth 100000 in
theorem e_Rdr_readPart_33 (z : zZ) (d : Nat) (v1 : Int) (v2 : Int) (v3 : Int) (v100 : Int) (μ : Mu) (hm40_0 : μ 40 0 = 2) (m40_1 : Nat) (hcm40_1 : m40_1 = 41 ∨ m40_1 = 47) (hm40_1 : μ 40 1 = ((m40_1 : Nat) : Int) + 1) : f_Rdr_readPart_33 z d v1 v2 v3 v100 μ = bif !decide (v100 = 38) then (f_Rdr_readPart_72 z d v2 μ) else ((mC z d 60 [(2, ((m40_1 : Nat) : Int)), (0, 5), (0, v2)] (zup μ 1 2 (zw ((μ 1 2) + 1)))).bind fun q1 => ((mC z d 58 [(2, 40), (0, v1)] q1.2).bind fun q2 => (f_Rdr_readPart_9 z d v1 q1.1 (zw (v3 + 1)) q2.2))) := by
  show mE z d q_Rdr_readPart 33 [(2, 40), (0, v1), (0, v2), (0, v3)] [(0, v100)] μ = _
  rw [mE_bk (M := q_Rdr_readPart) k_Rdr_readPart.1 k_Rdr_readPart.2 [9, 33, 72] 400]
  have key : ∀ (C : Nat → List zv → Mu → mR) (E : Nat → List zv → List zv → Mu → mR), mbk C E q_Rdr_readPart.1 q_Rdr_readPart.2.1 z q_Rdr_readPart.2.2.2 [9, 33, 72] 400 (zfind q_Rdr_readPart.2.2.2 33) [(2, 40), (0, v1), (0, v2), (0, v3)] [(0, v100)] μ = bif !decide (v100 = 38) then (g_Rdr_readPart_72 E v2 μ) else ((C 60 [(2, ((m40_1 : Nat) : Int)), (0, 5), (0, v2)] (zup μ 1 2 (zw ((μ 1 2) + 1)))).bind fun q1 => ((C 58 [(2, 40), (0, v1)] q1.2).bind fun q2 => (g_Rdr_readPart_9 E v1 q1.1 (zw (v3 + 1)) q2.2))) := by
    intro C E
    rcases hcm40_1 with rfl | rfl <;> (rw [← zup_self hm40_0, ← zup_self hm40_1]; rfl)
  exact key _ _
def g_Rdr_readPiece_20 (E : Nat → List zv → List zv → Mu → mR) (v1 : Int) (v2 : Int) (μ : Mu) : mR := E 20 [(2, 40), (0, v1), (0, v2), (9, 0)] [] μ
noncomputable def f_Rdr_readPiece_20 (z : zZ) (d : Nat) (v1 : Int) (v2 : Int) (μ : Mu) : mR := g_Rdr_readPiece_20 (fun pc ls st μ => mE z d q_Rdr_readPiece pc ls st μ) v1 v2 μ
def g_Rdr_readPiece_36 (E : Nat → List zv → List zv → Mu → mR) (μ : Mu) : mR := E 36 [(9, 0), (9, 0), (9, 0), (9, 0)] [] μ
noncomputable def f_Rdr_readPiece_36 (z : zZ) (d : Nat) (μ : Mu) : mR := g_Rdr_readPiece_36 (fun pc ls st μ => mE z d q_Rdr_readPiece pc ls st μ) μ
def g_Rdr_readPiece_42 (E : Nat → List zv → List zv → Mu → mR) (v1 : Int) (μ : Mu) : mR := E 42 [(2, 40), (0, v1), (9, 0), (9, 0)] [] μ
noncomputable def f_Rdr_readPiece_42 (z : zZ) (d : Nat) (v1 : Int) (μ : Mu) : mR := g_Rdr_readPiece_42 (fun pc ls st μ => mE z d q_Rdr_readPiece pc ls st μ) v1 μ
def g_Rdr_readPiece_49 (E : Nat → List zv → List zv → Mu → mR) (v1 : Int) (v100 : Int) (μ : Mu) : mR := E 49 [(2, 40), (0, v1), (9, 0), (9, 0)] [(0, v100)] μ
noncomputable def f_Rdr_readPiece_49 (z : zZ) (d : Nat) (v1 : Int) (v100 : Int) (μ : Mu) : mR := g_Rdr_readPiece_49 (fun pc ls st μ => mE z d q_Rdr_readPiece pc ls st μ) v1 v100 μ
def g_Rdr_readPiece_70 (E : Nat → List zv → List zv → Mu → mR) (μ : Mu) : mR := E 70 [(2, 40), (9, 0), (9, 0), (9, 0)] [] μ
noncomputable def f_Rdr_readPiece_70 (z : zZ) (d : Nat) (μ : Mu) : mR := g_Rdr_readPiece_70 (fun pc ls st μ => mE z d q_Rdr_readPiece pc ls st μ) μ
theorem k_Rdr_readPiece : zprK q_Rdr_readPiece.2.2.2 = true ∧ zinc q_Rdr_readPiece.2.2.2 = true := by decide +kernel
set_option maxRecDepth 100000 in
theorem c_Rdr_readPiece (z : zZ) (d : Nat) (v1 : Int) (μ : Mu) (hm40_0 : μ 40 0 = 2) : mC z (d + 1) 58 [(2, 40), (0, v1)] μ = (mC z d 22 [(2, 1)] μ).bind fun q1 => (bif decide (q1.1 = 33) then (f_Rdr_readPiece_20 z d v1 q1.1 q1.2) else (bif !decide (q1.1 = 40) then ((mC z d 48 [(2, 40), (0, v1)] q1.2).bind fun q2 => (f_Rdr_readPiece_42 z d v1 q2.2)) else (f_Rdr_readPiece_20 z d v1 q1.1 q1.2))) := by
  rw [mC_succ q_Rdr_readPiece rfl rfl rfl]
  rw [mE_bk (M := q_Rdr_readPiece) k_Rdr_readPiece.1 k_Rdr_readPiece.2 [20, 36, 42, 49, 70] 400]
  have key : ∀ (C : Nat → List zv → Mu → mR) (E : Nat → List zv → List zv → Mu → mR), mbk C E q_Rdr_readPiece.1 q_Rdr_readPiece.2.1 z q_Rdr_readPiece.2.2.2 [20, 36, 42, 49, 70] 400 (zfind q_Rdr_readPiece.2.2.2 0) (zentry q_Rdr_readPiece.2.2.1 [(2, 40), (0, v1)]) [] μ = (C 22 [(2, 1)] μ).bind fun q1 => (bif decide (q1.1 = 33) then (g_Rdr_readPiece_20 E v1 q1.1 q1.2) else (bif !decide (q1.1 = 40) then ((C 48 [(2, 40), (0, v1)] q1.2).bind fun q2 => (g_Rdr_readPiece_42 E v1 q2.2)) else (g_Rdr_readPiece_20 E v1 q1.1 q1.2))) := by
    intro C E
    rw [← zup_self hm40_0]; rfl
  exact key _ _
set_option maxRecDepth 100000 in
theorem e_Rdr_readPiece_20 (z : zZ) (d : Nat) (v1 : Int) (v2 : Int) (μ : Mu) : f_Rdr_readPiece_20 z d v1 v2 μ = (mC z d 51 [(2, 40), (0, v1)] μ).bind fun q1 => (bif decide (q1.1 = 0) then (f_Rdr_readPiece_36 z d q1.2) else ((mC z d 59 [(2, 40), (0, v2), (0, zw (v1 + 1))] q1.2).bind fun q2 => (f_Rdr_readPiece_36 z d q2.2))) := by
  show mE z d q_Rdr_readPiece 20 [(2, 40), (0, v1), (0, v2), (9, 0)] [] μ = _
  rw [mE_bk (M := q_Rdr_readPiece) k_Rdr_readPiece.1 k_Rdr_readPiece.2 [20, 36, 42, 49, 70] 400]
  have key : ∀ (C : Nat → List zv → Mu → mR) (E : Nat → List zv → List zv → Mu → mR), mbk C E q_Rdr_readPiece.1 q_Rdr_readPiece.2.1 z q_Rdr_readPiece.2.2.2 [20, 36, 42, 49, 70] 400 (zfind q_Rdr_readPiece.2.2.2 20) [(2, 40), (0, v1), (0, v2), (9, 0)] [] μ = (C 51 [(2, 40), (0, v1)] μ).bind fun q1 => (bif decide (q1.1 = 0) then (g_Rdr_readPiece_36 E q1.2) else ((C 59 [(2, 40), (0, v2), (0, zw (v1 + 1))] q1.2).bind fun q2 => (g_Rdr_readPiece_36 E q2.2))) := by
    intro C E
    rfl
  exact key _ _
set_option maxRecDepth 100000 in
theorem e_Rdr_readPiece_42 (z : zZ) (d : Nat) (v1 : Int) (μ : Mu) (hm40_0 : μ 40 0 = 2) : f_Rdr_readPiece_42 z d v1 μ = (mC z d 22 [(2, 1)] μ).bind fun q1 => (f_Rdr_readPiece_49 z d v1 q1.1 q1.2) := by
  show mE z d q_Rdr_readPiece 42 [(2, 40), (0, v1), (9, 0), (9, 0)] [] μ = _
  rw [mE_bk (M := q_Rdr_readPiece) k_Rdr_readPiece.1 k_Rdr_readPiece.2 [20, 36, 42, 49, 70] 400]
  have key : ∀ (C : Nat → List zv → Mu → mR) (E : Nat → List zv → List zv → Mu → mR), mbk C E q_Rdr_readPiece.1 q_Rdr_readPiece.2.1 z q_Rdr_readPiece.2.2.2 [20, 36, 42, 49, 70] 400 (zfind q_Rdr_readPiece.2.2.2 42) [(2, 40), (0, v1), (9, 0), (9, 0)] [] μ = (C 22 [(2, 1)] μ).bind fun q1 => (g_Rdr_readPiece_49 E v1 q1.1 q1.2) := by
    intro C E
    rw [← zup_self hm40_0]; rfl
  exact key _ _
set_option maxRecDepth 100000 in
theorem e_Rdr_readPiece_36 (z : zZ) (d : Nat) (μ : Mu) : f_Rdr_readPiece_36 z d μ = some (0, μ) := by
  show mE z d q_Rdr_readPiece 36 [(9, 0), (9, 0), (9, 0), (9, 0)] [] μ = _
  rw [mE_bk (M := q_Rdr_readPiece) k_Rdr_readPiece.1 k_Rdr_readPiece.2 [20, 36, 42, 49, 70] 400]
  have key : ∀ (C : Nat → List zv → Mu → mR) (E : Nat → List zv → List zv → Mu → mR), mbk C E q_Rdr_readPiece.1 q_Rdr_readPiece.2.1 z q_Rdr_readPiece.2.2.2 [20, 36, 42, 49, 70] 400 (zfind q_Rdr_readPiece.2.2.2 36) [(9, 0), (9, 0), (9, 0), (9, 0)] [] μ = some (0, μ) := by
    intro C E
    rfl
  exact key _ _
set_option maxRecDepth 100000 in
theorem e_Rdr_readPiece_49 (z : zZ) (d : Nat) (v1 : Int) (v100 : Int) (μ : Mu) (hm40_0 : μ 40 0 = 2) : f_Rdr_readPiece_49 z d v1 v100 μ = bif !decide (μ 1 4 = 0) then (f_Rdr_readPiece_70 z d μ) else (bif !decide (zpl 2 v100 = (-1)) then ((mC z d 48 [(2, 40), (0, v1)] (zup μ 1 2 (zw ((μ 1 2) + 1)))).bind fun q1 => ((mC z d 55 [(2, 40), (0, v100)] q1.2).bind fun q2 => (some (0, q2.2)))) else (f_Rdr_readPiece_70 z d μ)) := by
  show mE z d q_Rdr_readPiece 49 [(2, 40), (0, v1), (9, 0), (9, 0)] [(0, v100)] μ = _
  rw [mE_bk (M := q_Rdr_readPiece) k_Rdr_readPiece.1 k_Rdr_readPiece.2 [20, 36, 42, 49, 70] 400]
  have key : ∀ (C : Nat → List zv → Mu → mR) (E : Nat → List zv → List zv → Mu → mR), mbk C E q_Rdr_readPiece.1 q_Rdr_readPiece.2.1 z q_Rdr_readPiece.2.2.2 [20, 36, 42, 49, 70] 400 (zfind q_Rdr_readPiece.2.2.2 49) [(2, 40), (0, v1), (9, 0), (9, 0)] [(0, v100)] μ = bif !decide (μ 1 4 = 0) then (g_Rdr_readPiece_70 E μ) else (bif !decide (zpl 2 v100 = (-1)) then ((C 48 [(2, 40), (0, v1)] (zup μ 1 2 (zw ((μ 1 2) + 1)))).bind fun q1 => ((C 55 [(2, 40), (0, v100)] q1.2).bind fun q2 => (some (0, q2.2)))) else (g_Rdr_readPiece_70 E μ)) := by
    intro C E
    rw [← zup_self hm40_0]; rfl
  exact key _ _
set_option maxRecDepth 100000 in
theorem e_Rdr_readPiece_70 (z : zZ) (d : Nat) (μ : Mu) (hm40_0 : μ 40 0 = 2) : f_Rdr_readPiece_70 z d μ = (mC z d 28 [(2, 1), (0, 1), (0, μ 1 2)] μ).bind fun q1 => (some (0, q1.2)) := by
  show mE z d q_Rdr_readPiece 70 [(2, 40), (9, 0), (9, 0), (9, 0)] [] μ = _
  rw [mE_bk (M := q_Rdr_readPiece) k_Rdr_readPiece.1 k_Rdr_readPiece.2 [20, 36, 42, 49, 70] 400]
  have key : ∀ (C : Nat → List zv → Mu → mR) (E : Nat → List zv → List zv → Mu → mR), mbk C E q_Rdr_readPiece.1 q_Rdr_readPiece.2.1 z q_Rdr_readPiece.2.2.2 [20, 36, 42, 49, 70] 400 (zfind q_Rdr_readPiece.2.2.2 70) [(2, 40), (9, 0), (9, 0), (9, 0)] [] μ = (C 28 [(2, 1), (0, 1), (0, μ 1 2)] μ).bind fun q1 => (some (0, q1.2)) := by
    intro C E
    rw [← zup_self hm40_0]; rfl
  exact key _ _
def g_Rdr_readOpened_11 (E : Nat → List zv → List zv → Mu → mR) (v1 : Int) (v2 : Int) (μ : Mu) : mR := E 11 [(2, 40), (0, v1), (0, v2)] [] μ
noncomputable def f_Rdr_readOpened_11 (z : zZ) (d : Nat) (v1 : Int) (v2 : Int) (μ : Mu) : mR := g_Rdr_readOpened_11 (fun pc ls st μ => mE z d q_Rdr_readOpened pc ls st μ) v1 v2 μ
def g_Rdr_readOpened_28 (E : Nat → List zv → List zv → Mu → mR) (v2 : Int) (μ : Mu) : mR := E 28 [(2, 40), (9, 0), (0, v2)] [] μ
noncomputable def f_Rdr_readOpened_28 (z : zZ) (d : Nat) (v2 : Int) (μ : Mu) : mR := g_Rdr_readOpened_28 (fun pc ls st μ => mE z d q_Rdr_readOpened pc ls st μ) v2 μ
def g_Rdr_readOpened_38 (E : Nat → List zv → List zv → Mu → mR) (μ : Mu) : mR := E 38 [(9, 0), (9, 0), (9, 0)] [] μ
noncomputable def f_Rdr_readOpened_38 (z : zZ) (d : Nat) (μ : Mu) : mR := g_Rdr_readOpened_38 (fun pc ls st μ => mE z d q_Rdr_readOpened pc ls st μ) μ
theorem k_Rdr_readOpened : zprK q_Rdr_readOpened.2.2.2 = true ∧ zinc q_Rdr_readOpened.2.2.2 = true := by decide +kernel
set_option maxRecDepth 100000 in
theorem c_Rdr_readOpened (z : zZ) (d : Nat) (v1 : Int) (v2 : Int) (μ : Mu) : mC z (d + 1) 59 [(2, 40), (0, v1), (0, v2)] μ = bif !decide (v1 = 33) then ((mC z d 56 [(2, 40), (0, v2)] μ).bind fun q1 => (f_Rdr_readOpened_28 z d v2 q1.2)) else ((mC z d 58 [(2, 40), (0, v2)] μ).bind fun q2 => (f_Rdr_readOpened_11 z d v1 v2 q2.2)) := by
  rw [mC_succ q_Rdr_readOpened rfl rfl rfl]
  rw [mE_bk (M := q_Rdr_readOpened) k_Rdr_readOpened.1 k_Rdr_readOpened.2 [11, 28, 38] 400]
  have key : ∀ (C : Nat → List zv → Mu → mR) (E : Nat → List zv → List zv → Mu → mR), mbk C E q_Rdr_readOpened.1 q_Rdr_readOpened.2.1 z q_Rdr_readOpened.2.2.2 [11, 28, 38] 400 (zfind q_Rdr_readOpened.2.2.2 0) (zentry q_Rdr_readOpened.2.2.1 [(2, 40), (0, v1), (0, v2)]) [] μ = bif !decide (v1 = 33) then ((C 56 [(2, 40), (0, v2)] μ).bind fun q1 => (g_Rdr_readOpened_28 E v2 q1.2)) else ((C 58 [(2, 40), (0, v2)] μ).bind fun q2 => (g_Rdr_readOpened_11 E v1 v2 q2.2)) := by
    intro C E
    rfl
  exact key _ _
set_option maxRecDepth 100000 in
theorem e_Rdr_readOpened_28 (z : zZ) (d : Nat) (v2 : Int) (μ : Mu) (hm40_0 : μ 40 0 = 2) : f_Rdr_readOpened_28 z d v2 μ = (mC z d 43 [(2, 1), (0, 41)] μ).bind fun q1 => (f_Rdr_readOpened_38 z d q1.2) := by
  show mE z d q_Rdr_readOpened 28 [(2, 40), (9, 0), (0, v2)] [] μ = _
  rw [mE_bk (M := q_Rdr_readOpened) k_Rdr_readOpened.1 k_Rdr_readOpened.2 [11, 28, 38] 400]
  have key : ∀ (C : Nat → List zv → Mu → mR) (E : Nat → List zv → List zv → Mu → mR), mbk C E q_Rdr_readOpened.1 q_Rdr_readOpened.2.1 z q_Rdr_readOpened.2.2.2 [11, 28, 38] 400 (zfind q_Rdr_readOpened.2.2.2 28) [(2, 40), (9, 0), (0, v2)] [] μ = (C 43 [(2, 1), (0, 41)] μ).bind fun q1 => (g_Rdr_readOpened_38 E q1.2) := by
    intro C E
    rw [← zup_self hm40_0]; rfl
  exact key _ _
set_option maxRecDepth 100000 in
theorem e_Rdr_readOpened_11 (z : zZ) (d : Nat) (v1 : Int) (v2 : Int) (μ : Mu) (m40_1 : Nat) (hcm40_1 : m40_1 = 41 ∨ m40_1 = 47) (hm40_1 : μ 40 1 = ((m40_1 : Nat) : Int) + 1) : f_Rdr_readOpened_11 z d v1 v2 μ = (mC z d 54 [(2, ((m40_1 : Nat) : Int)), (0, 3), (0, 0)] μ).bind fun q1 => (f_Rdr_readOpened_38 z d q1.2) := by
  show mE z d q_Rdr_readOpened 11 [(2, 40), (0, v1), (0, v2)] [] μ = _
  rw [mE_bk (M := q_Rdr_readOpened) k_Rdr_readOpened.1 k_Rdr_readOpened.2 [11, 28, 38] 400]
  have key : ∀ (C : Nat → List zv → Mu → mR) (E : Nat → List zv → List zv → Mu → mR), mbk C E q_Rdr_readOpened.1 q_Rdr_readOpened.2.1 z q_Rdr_readOpened.2.2.2 [11, 28, 38] 400 (zfind q_Rdr_readOpened.2.2.2 11) [(2, 40), (0, v1), (0, v2)] [] μ = (C 54 [(2, ((m40_1 : Nat) : Int)), (0, 3), (0, 0)] μ).bind fun q1 => (g_Rdr_readOpened_38 E q1.2) := by
    intro C E
    rcases hcm40_1 with rfl | rfl <;> (rw [← zup_self hm40_1]; rfl)
  exact key _ _
set_option maxRecDepth 100000 in
theorem e_Rdr_readOpened_38 (z : zZ) (d : Nat) (μ : Mu) : f_Rdr_readOpened_38 z d μ = some (0, μ) := by
  show mE z d q_Rdr_readOpened 38 [(9, 0), (9, 0), (9, 0)] [] μ = _
  rw [mE_bk (M := q_Rdr_readOpened) k_Rdr_readOpened.1 k_Rdr_readOpened.2 [11, 28, 38] 400]
  have key : ∀ (C : Nat → List zv → Mu → mR) (E : Nat → List zv → List zv → Mu → mR), mbk C E q_Rdr_readOpened.1 q_Rdr_readOpened.2.1 z q_Rdr_readOpened.2.2.2 [11, 28, 38] 400 (zfind q_Rdr_readOpened.2.2.2 38) [(9, 0), (9, 0), (9, 0)] [] μ = some (0, μ) := by
    intro C E
    rfl
  exact key _ _
theorem k_Law_putJump : zprK q_Law_putJump.2.2.2 = true ∧ zinc q_Law_putJump.2.2.2 = true := by decide +kernel
set_option maxRecDepth 100000 in
theorem c_Law_putJump (z : zZ) (d : Nat) (o0 : Nat) (v1 : Int) (v2 : Int) (μ : Mu) (ho0 : o0 = 41 ∨ o0 = 47) : mC z (d + 1) 60 [(2, ((o0 : Nat) : Int)), (0, v1), (0, v2)] μ = (mC z d 54 [(2, ((o0 : Nat) : Int)), (0, v1), (0, zw (v2 + 1))] μ).bind fun q1 => (some (zw ((q1.2 o0 5) - 1), q1.2)) := by
  rw [mC_succ q_Law_putJump rfl rfl rfl]
  rw [mE_bk (M := q_Law_putJump) k_Law_putJump.1 k_Law_putJump.2 [] 400]
  have key : ∀ (C : Nat → List zv → Mu → mR) (E : Nat → List zv → List zv → Mu → mR), mbk C E q_Law_putJump.1 q_Law_putJump.2.1 z q_Law_putJump.2.2.2 [] 400 (zfind q_Law_putJump.2.2.2 0) (zentry q_Law_putJump.2.2.1 [(2, ((o0 : Nat) : Int)), (0, v1), (0, v2)]) [] μ = (C 54 [(2, ((o0 : Nat) : Int)), (0, v1), (0, zw (v2 + 1))] μ).bind fun q1 => (some (zw ((q1.2 o0 5) - 1), q1.2)) := by
    intro C E
    rcases ho0 with rfl | rfl <;> (rfl)
  exact key _ _
def g_Law_aimHere_4 (E : Nat → List zv → List zv → Mu → mR) (o0 : Nat) (v2 : Int) (v3 : Int) (μ : Mu) : mR := E 4 [(2, ((o0 : Nat) : Int)), (9, 0), (0, v2), (0, v3), (9, 0)] [] μ
noncomputable def f_Law_aimHere_4 (z : zZ) (d : Nat) (o0 : Nat) (v2 : Int) (v3 : Int) (μ : Mu) : mR := g_Law_aimHere_4 (fun pc ls st μ => mE z d q_Law_aimHere pc ls st μ) o0 v2 v3 μ
def g_Law_aimHere_66 (E : Nat → List zv → List zv → Mu → mR) (μ : Mu) : mR := E 66 [(9, 0), (9, 0), (9, 0), (9, 0), (9, 0)] [] μ
noncomputable def f_Law_aimHere_66 (z : zZ) (d : Nat) (μ : Mu) : mR := g_Law_aimHere_66 (fun pc ls st μ => mE z d q_Law_aimHere pc ls st μ) μ
theorem k_Law_aimHere : zprK q_Law_aimHere.2.2.2 = true ∧ zinc q_Law_aimHere.2.2.2 = true := by decide +kernel
set_option maxRecDepth 100000 in
theorem c_Law_aimHere (z : zZ) (d : Nat) (o0 : Nat) (v1 : Int) (μ : Mu) (ho0 : o0 = 41 ∨ o0 = 47) : mC z (d + 1) 61 [(2, ((o0 : Nat) : Int)), (0, v1)] μ = f_Law_aimHere_4 z d o0 v1 0 μ := by
  rw [mC_succ q_Law_aimHere rfl rfl rfl]
  rw [mE_bk (M := q_Law_aimHere) k_Law_aimHere.1 k_Law_aimHere.2 [4, 66] 400]
  have key : ∀ (C : Nat → List zv → Mu → mR) (E : Nat → List zv → List zv → Mu → mR), mbk C E q_Law_aimHere.1 q_Law_aimHere.2.1 z q_Law_aimHere.2.2.2 [4, 66] 400 (zfind q_Law_aimHere.2.2.2 0) (zentry q_Law_aimHere.2.2.1 [(2, ((o0 : Nat) : Int)), (0, v1)]) [] μ = g_Law_aimHere_4 E o0 v1 0 μ := by
    intro C E
    rcases ho0 with rfl | rfl <;> (rfl)
  exact key _ _
set_option maxRecDepth 100000 in
theorem e_Law_aimHere_4 (z : zZ) (d : Nat) (o0 : Nat) (v2 : Int) (v3 : Int) (μ : Mu) (ho0 : o0 = 41 ∨ o0 = 47) : f_Law_aimHere_4 z d o0 v2 v3 μ = bif decide (256 ≤ v3) then (f_Law_aimHere_66 z d μ) else (bif decide (v2 < 0) then (f_Law_aimHere_66 z d μ) else (bif decide (μ o0 5 ≤ v2) then (f_Law_aimHere_66 z d μ) else (gI v2 256 (gI v2 256 (gI v2 256 (f_Law_aimHere_4 z d o0 (zw ((z_ushr (μ (o0 + 4) v2.toNat) 4) - 1)) (zw (v3 + 1)) (zup μ (o0 + 4) v2.toNat (z_or (z_and (μ (o0 + 4) v2.toNat) 15) (z_shl (μ o0 5) 4))))))))) := by
  show mE z d q_Law_aimHere 4 [(2, ((o0 : Nat) : Int)), (9, 0), (0, v2), (0, v3), (9, 0)] [] μ = _
  rw [mE_bk (M := q_Law_aimHere) k_Law_aimHere.1 k_Law_aimHere.2 [4, 66] 400]
  have key : ∀ (C : Nat → List zv → Mu → mR) (E : Nat → List zv → List zv → Mu → mR), mbk C E q_Law_aimHere.1 q_Law_aimHere.2.1 z q_Law_aimHere.2.2.2 [4, 66] 400 (zfind q_Law_aimHere.2.2.2 4) [(2, ((o0 : Nat) : Int)), (9, 0), (0, v2), (0, v3), (9, 0)] [] μ = bif decide (256 ≤ v3) then (g_Law_aimHere_66 E μ) else (bif decide (v2 < 0) then (g_Law_aimHere_66 E μ) else (bif decide (μ o0 5 ≤ v2) then (g_Law_aimHere_66 E μ) else (gI v2 256 (gI v2 256 (gI v2 256 (g_Law_aimHere_4 E o0 (zw ((z_ushr (μ (o0 + 4) v2.toNat) 4) - 1)) (zw (v3 + 1)) (zup μ (o0 + 4) v2.toNat (z_or (z_and (μ (o0 + 4) v2.toNat) 15) (z_shl (μ o0 5) 4))))))))) := by
    intro C E
    rcases ho0 with rfl | rfl <;> (rfl)
  exact key _ _
set_option maxRecDepth 100000 in
theorem e_Law_aimHere_66 (z : zZ) (d : Nat) (μ : Mu) : f_Law_aimHere_66 z d μ = some (0, μ) := by
  show mE z d q_Law_aimHere 66 [(9, 0), (9, 0), (9, 0), (9, 0), (9, 0)] [] μ = _
  rw [mE_bk (M := q_Law_aimHere) k_Law_aimHere.1 k_Law_aimHere.2 [4, 66] 400]
  have key : ∀ (C : Nat → List zv → Mu → mR) (E : Nat → List zv → List zv → Mu → mR), mbk C E q_Law_aimHere.1 q_Law_aimHere.2.1 z q_Law_aimHere.2.2.2 [4, 66] 400 (zfind q_Law_aimHere.2.2.2 66) [(9, 0), (9, 0), (9, 0), (9, 0), (9, 0)] [] μ = some (0, μ) := by
    intro C E
    rfl
  exact key _ _
def g_W_seed_10 (E : Nat → List zv → List zv → Mu → mR) (μ : Mu) : mR := E 10 [(9, 0), (9, 0)] [] μ
noncomputable def f_W_seed_10 (z : zZ) (d : Nat) (μ : Mu) : mR := g_W_seed_10 (fun pc ls st μ => mE z d q_W_seed pc ls st μ) μ
theorem k_W_seed : zprK q_W_seed.2.2.2 = true ∧ zinc q_W_seed.2.2.2 = true := by decide +kernel
set_option maxRecDepth 100000 in
theorem c_W_seed (z : zZ) (d : Nat) (v1 : Int) (μ : Mu) : mC z (d + 1) 62 [(2, 0), (0, v1)] μ = bif decide (v1 < 0) then (f_W_seed_10 z d μ) else (bif decide (v1 ≤ 65535) then (some (1, zup μ 0 19 v1)) else (f_W_seed_10 z d μ)) := by
  rw [mC_succ q_W_seed rfl rfl rfl]
  rw [mE_bk (M := q_W_seed) k_W_seed.1 k_W_seed.2 [10] 400]
  have key : ∀ (C : Nat → List zv → Mu → mR) (E : Nat → List zv → List zv → Mu → mR), mbk C E q_W_seed.1 q_W_seed.2.1 z q_W_seed.2.2.2 [10] 400 (zfind q_W_seed.2.2.2 0) (zentry q_W_seed.2.2.1 [(2, 0), (0, v1)]) [] μ = bif decide (v1 < 0) then (g_W_seed_10 E μ) else (bif decide (v1 ≤ 65535) then (some (1, zup μ 0 19 v1)) else (g_W_seed_10 E μ)) := by
    intro C E
    rfl
  exact key _ _
set_option maxRecDepth 100000 in
theorem e_W_seed_10 (z : zZ) (d : Nat) (μ : Mu) : f_W_seed_10 z d μ = some (0, μ) := by
  show mE z d q_W_seed 10 [(9, 0), (9, 0)] [] μ = _
  rw [mE_bk (M := q_W_seed) k_W_seed.1 k_W_seed.2 [10] 400]
  have key : ∀ (C : Nat → List zv → Mu → mR) (E : Nat → List zv → List zv → Mu → mR), mbk C E q_W_seed.1 q_W_seed.2.1 z q_W_seed.2.2.2 [10] 400 (zfind q_W_seed.2.2.2 10) [(9, 0), (9, 0)] [] μ = some (0, μ) := by
    intro C E
    rfl
  exact key _ _
