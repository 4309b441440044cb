def g_W_attack_36 (E : Nat → List zv → List zv → Mu → mR) (μ : Mu) : mR := E 36 [(9, 0), (9, 0), (9, 0), (9, 0), (9, 0), (9, 0), (9, 0), (9, 0), (9, 0), (9, 0), (9, 0)] [] μ
noncomputable def f_W_attack_36 (z : zZ) (d : Nat) (μ : Mu) : mR := g_W_attack_36 (fun pc ls st μ => mE z d q_W_attack pc ls st μ) μ
def g_W_attack_38 (E : Nat → List zv → List zv → Mu → mR) (v1 : Int) (v2 : Int) (v3 : Int) (o4 : Nat) (o5 : Nat) (μ : Mu) : mR := E 38 [(2, 0), (0, v1), (0, v2), (0, v3), (2, ((o4 : Nat) : Int)), (2, ((o5 : Nat) : Int)), (9, 0), (9, 0), (9, 0), (9, 0), (9, 0)] [] μ
noncomputable def f_W_attack_38 (z : zZ) (d : Nat) (v1 : Int) (v2 : Int) (v3 : Int) (o4 : Nat) (o5 : Nat) (μ : Mu) : mR := g_W_attack_38 (fun pc ls st μ => mE z d q_W_attack pc ls st μ) v1 v2 v3 o4 o5 μ
def g_W_attack_81 (E : Nat → List zv → List zv → Mu → mR) (v1 : Int) (v2 : Int) (v3 : Int) (o4 : Nat) (o5 : Nat) (v6 : Int) (v100 : Int) (μ : Mu) : mR := E 81 [(2, 0), (0, v1), (0, v2), (0, v3), (2, ((o4 : Nat) : Int)), (2, ((o5 : Nat) : Int)), (0, v6), (9, 0), (9, 0), (9, 0), (9, 0)] [(0, v100)] μ
noncomputable def f_W_attack_81 (z : zZ) (d : Nat) (v1 : Int) (v2 : Int) (v3 : Int) (o4 : Nat) (o5 : Nat) (v6 : Int) (v100 : Int) (μ : Mu) : mR := g_W_attack_81 (fun pc ls st μ => mE z d q_W_attack pc ls st μ) v1 v2 v3 o4 o5 v6 v100 μ
def g_W_attack_105 (E : Nat → List zv → List zv → Mu → mR) (v1 : Int) (v2 : Int) (v3 : Int) (o4 : Nat) (o5 : Nat) (v6 : Int) (v7 : Int) (v100 : Int) (μ : Mu) : mR := E 105 [(2, 0), (0, v1), (0, v2), (0, v3), (2, ((o4 : Nat) : Int)), (2, ((o5 : Nat) : Int)), (0, v6), (0, v7), (9, 0), (9, 0), (9, 0)] [(0, v100)] μ
noncomputable def f_W_attack_105 (z : zZ) (d : Nat) (v1 : Int) (v2 : Int) (v3 : Int) (o4 : Nat) (o5 : Nat) (v6 : Int) (v7 : Int) (v100 : Int) (μ : Mu) : mR := g_W_attack_105 (fun pc ls st μ => mE z d q_W_attack pc ls st μ) v1 v2 v3 o4 o5 v6 v7 v100 μ
def g_W_attack_120 (E : Nat → List zv → List zv → Mu → mR) (v2 : Int) (v3 : Int) (o4 : Nat) (o5 : Nat) (v6 : Int) (v7 : Int) (v8 : Int) (v101 : Int) (μ : Mu) : mR := E 120 [(2, 0), (9, 0), (0, v2), (0, v3), (2, ((o4 : Nat) : Int)), (2, ((o5 : Nat) : Int)), (0, v6), (0, v7), (0, v8), (9, 0), (9, 0)] [(0, v101), (2, 0)] μ
noncomputable def f_W_attack_120 (z : zZ) (d : Nat) (v2 : Int) (v3 : Int) (o4 : Nat) (o5 : Nat) (v6 : Int) (v7 : Int) (v8 : Int) (v101 : Int) (μ : Mu) : mR := g_W_attack_120 (fun pc ls st μ => mE z d q_W_attack pc ls st μ) v2 v3 o4 o5 v6 v7 v8 v101 μ
def g_W_attack_162 (E : Nat → List zv → List zv → Mu → mR) (v2 : Int) (v3 : Int) (o4 : Nat) (o5 : Nat) (v6 : Int) (v7 : Int) (v8 : Int) (v101 : Int) (v102 : Int) (μ : Mu) : mR := E 162 [(2, 0), (9, 0), (0, v2), (0, v3), (2, ((o4 : Nat) : Int)), (2, ((o5 : Nat) : Int)), (0, v6), (0, v7), (0, v8), (9, 0), (9, 0)] [(0, v102), (0, v101), (2, 53)] μ
noncomputable def f_W_attack_162 (z : zZ) (d : Nat) (v2 : Int) (v3 : Int) (o4 : Nat) (o5 : Nat) (v6 : Int) (v7 : Int) (v8 : Int) (v101 : Int) (v102 : Int) (μ : Mu) : mR := g_W_attack_162 (fun pc ls st μ => mE z d q_W_attack pc ls st μ) v2 v3 o4 o5 v6 v7 v8 v101 v102 μ
def g_W_attack_176 (E : Nat → List zv → List zv → Mu → mR) (v2 : Int) (v3 : Int) (o4 : Nat) (o5 : Nat) (v6 : Int) (v7 : Int) (v8 : Int) (v100 : Int) (μ : Mu) : mR := E 176 [(2, 0), (9, 0), (0, v2), (0, v3), (2, ((o4 : Nat) : Int)), (2, ((o5 : Nat) : Int)), (0, v6), (0, v7), (0, v8), (9, 0), (9, 0)] [(0, v100)] μ
noncomputable def f_W_attack_176 (z : zZ) (d : Nat) (v2 : Int) (v3 : Int) (o4 : Nat) (o5 : Nat) (v6 : Int) (v7 : Int) (v8 : Int) (v100 : Int) (μ : Mu) : mR := g_W_attack_176 (fun pc ls st μ => mE z d q_W_attack pc ls st μ) v2 v3 o4 o5 v6 v7 v8 v100 μ
def g_W_attack_221 (E : Nat → List zv → List zv → Mu → mR) (μ : Mu) : mR := E 221 [(9, 0), (9, 0), (9, 0), (9, 0), (9, 0), (9, 0), (9, 0), (9, 0), (9, 0), (9, 0), (9, 0)] [] μ
noncomputable def f_W_attack_221 (z : zZ) (d : Nat) (μ : Mu) : mR := g_W_attack_221 (fun pc ls st μ => mE z d q_W_attack pc ls st μ) μ
theorem k_W_attack : zprK q_W_attack.2.2.2 = true ∧ zinc q_W_attack.2.2.2 = true := by decide +kernel
set_option maxRecDepth 100000 in
theorem c_W_attack (z : zZ) (d : Nat) (v1 : Int) (v2 : Int) (v3 : Int) (μ : Mu) (hv1 : v1 = 0 ∨ v1 = 1) : mC z (d + 1) 79 [(2, 0), (0, v1), (0, v2), (0, v3)] μ = (mC z d 36 [(2, (((4 + 9 * v1.toNat) : Nat) : Int)), (0, v2)] μ).bind fun q1 => (bif decide (q1.1 = 0) then (f_W_attack_36 z d q1.2) else ((mC z d 36 [(2, (((4 + 9 * (zw (1 - v1)).toNat) : Nat) : Int)), (0, v3)] q1.2).bind fun q2 => (bif !decide (q2.1 = 0) then (f_W_attack_38 z d v1 v2 v3 (4 + 9 * v1.toNat) (4 + 9 * (zw (1 - v1)).toNat) q2.2) else (f_W_attack_36 z d q2.2)))) := by
  rw [mC_succ q_W_attack rfl rfl rfl]
  rw [mE_bk (M := q_W_attack) k_W_attack.1 k_W_attack.2 [36, 38, 81, 105, 120, 162, 176, 221] 400]
  have key : ∀ (C : Nat → List zv → Mu → mR) (E : Nat → List zv → List zv → Mu → mR), mbk C E q_W_attack.1 q_W_attack.2.1 z q_W_attack.2.2.2 [36, 38, 81, 105, 120, 162, 176, 221] 400 (zfind q_W_attack.2.2.2 0) (zentry q_W_attack.2.2.1 [(2, 0), (0, v1), (0, v2), (0, v3)]) [] μ = (C 36 [(2, (((4 + 9 * v1.toNat) : Nat) : Int)), (0, v2)] μ).bind fun q1 => (bif decide (q1.1 = 0) then (g_W_attack_36 E q1.2) else ((C 36 [(2, (((4 + 9 * (zw (1 - v1)).toNat) : Nat) : Int)), (0, v3)] q1.2).bind fun q2 => (bif !decide (q2.1 = 0) then (g_W_attack_38 E v1 v2 v3 (4 + 9 * v1.toNat) (4 + 9 * (zw (1 - v1)).toNat) q2.2) else (g_W_attack_36 E q2.2)))) := by
    intro C E
    rcases hv1 with rfl | rfl <;> (rfl)
  exact key _ _
set_option maxRecDepth 100000 in
theorem e_W_attack_36 (z : zZ) (d : Nat) (μ : Mu) : f_W_attack_36 z d μ = some (0, μ) := by
  show mE z d q_W_attack 36 [(9, 0), (9, 0), (9, 0), (9, 0), (9, 0), (9, 0), (9, 0), (9, 0), (9, 0), (9, 0), (9, 0)] [] μ = _
  rw [mE_bk (M := q_W_attack) k_W_attack.1 k_W_attack.2 [36, 38, 81, 105, 120, 162, 176, 221] 400]
  have key : ∀ (C : Nat → List zv → Mu → mR) (E : Nat → List zv → List zv → Mu → mR), mbk C E q_W_attack.1 q_W_attack.2.1 z q_W_attack.2.2.2 [36, 38, 81, 105, 120, 162, 176, 221] 400 (zfind q_W_attack.2.2.2 36) [(9, 0), (9, 0), (9, 0), (9, 0), (9, 0), (9, 0), (9, 0), (9, 0), (9, 0), (9, 0), (9, 0)] [] μ = some (0, μ) := by
    intro C E
    rfl
  exact key _ _
set_option maxRecDepth 100000 in
theorem e_W_attack_38 (z : zZ) (d : Nat) (v1 : Int) (v2 : Int) (v3 : Int) (o4 : Nat) (o5 : Nat) (μ : Mu) (ho4 : o4 = 4 ∨ o4 = 13) (ho5 : o5 = 4 ∨ o5 = 13) : f_W_attack_38 z d v1 v2 v3 o4 o5 μ = gI v2 12 (gI v3 12 ((mC z d 80 [(0, μ (o4 + 4) v2.toNat), (0, μ (o5 + 4) v3.toNat), (2, ((o5 : Nat) : Int))] μ).bind fun q1 => (bif decide (q1.1 = 0) then (gI v3 12 (f_W_attack_81 z d v1 v2 v3 o4 o5 q1.1 (q1.2 (o5 + 4) v3.toNat) q1.2)) else (gI v2 12 (f_W_attack_81 z d v1 v2 v3 o4 o5 q1.1 (q1.2 (o4 + 4) v2.toNat) q1.2))))) := by
  show mE z d q_W_attack 38 [(2, 0), (0, v1), (0, v2), (0, v3), (2, ((o4 : Nat) : Int)), (2, ((o5 : Nat) : Int)), (9, 0), (9, 0), (9, 0), (9, 0), (9, 0)] [] μ = _
  rw [mE_bk (M := q_W_attack) k_W_attack.1 k_W_attack.2 [36, 38, 81, 105, 120, 162, 176, 221] 400]
  have key : ∀ (C : Nat → List zv → Mu → mR) (E : Nat → List zv → List zv → Mu → mR), mbk C E q_W_attack.1 q_W_attack.2.1 z q_W_attack.2.2.2 [36, 38, 81, 105, 120, 162, 176, 221] 400 (zfind q_W_attack.2.2.2 38) [(2, 0), (0, v1), (0, v2), (0, v3), (2, ((o4 : Nat) : Int)), (2, ((o5 : Nat) : Int)), (9, 0), (9, 0), (9, 0), (9, 0), (9, 0)] [] μ = gI v2 12 (gI v3 12 ((C 80 [(0, μ (o4 + 4) v2.toNat), (0, μ (o5 + 4) v3.toNat), (2, ((o5 : Nat) : Int))] μ).bind fun q1 => (bif decide (q1.1 = 0) then (gI v3 12 (g_W_attack_81 E v1 v2 v3 o4 o5 q1.1 (q1.2 (o5 + 4) v3.toNat) q1.2)) else (gI v2 12 (g_W_attack_81 E v1 v2 v3 o4 o5 q1.1 (q1.2 (o4 + 4) v2.toNat) q1.2))))) := by
    intro C E
    rcases ho4 with rfl | rfl <;> rcases ho5 with rfl | rfl <;> (rfl)
  exact key _ _
set_option maxRecDepth 100000 in
theorem e_W_attack_81 (z : zZ) (d : Nat) (v1 : Int) (v2 : Int) (v3 : Int) (o4 : Nat) (o5 : Nat) (v6 : Int) (v100 : Int) (μ : Mu) (ho4 : o4 = 4 ∨ o4 = 13) (ho5 : o5 = 4 ∨ o5 = 13) : f_W_attack_81 z d v1 v2 v3 o4 o5 v6 v100 μ = bif decide (v6 = 0) then (gI v2 12 (f_W_attack_105 z d v1 v2 v3 o4 o5 v6 v100 (μ (o4 + 4) v2.toNat) μ)) else (gI v3 12 (f_W_attack_105 z d v1 v2 v3 o4 o5 v6 v100 (μ (o5 + 4) v3.toNat) μ)) := by
  show mE z d q_W_attack 81 [(2, 0), (0, v1), (0, v2), (0, v3), (2, ((o4 : Nat) : Int)), (2, ((o5 : Nat) : Int)), (0, v6), (9, 0), (9, 0), (9, 0), (9, 0)] [(0, v100)] μ = _
  rw [mE_bk (M := q_W_attack) k_W_attack.1 k_W_attack.2 [36, 38, 81, 105, 120, 162, 176, 221] 400]
  have key : ∀ (C : Nat → List zv → Mu → mR) (E : Nat → List zv → List zv → Mu → mR), mbk C E q_W_attack.1 q_W_attack.2.1 z q_W_attack.2.2.2 [36, 38, 81, 105, 120, 162, 176, 221] 400 (zfind q_W_attack.2.2.2 81) [(2, 0), (0, v1), (0, v2), (0, v3), (2, ((o4 : Nat) : Int)), (2, ((o5 : Nat) : Int)), (0, v6), (9, 0), (9, 0), (9, 0), (9, 0)] [(0, v100)] μ = bif decide (v6 = 0) then (gI v2 12 (g_W_attack_105 E v1 v2 v3 o4 o5 v6 v100 (μ (o4 + 4) v2.toNat) μ)) else (gI v3 12 (g_W_attack_105 E v1 v2 v3 o4 o5 v6 v100 (μ (o5 + 4) v3.toNat) μ)) := by
    intro C E
    rcases ho4 with rfl | rfl <;> rcases ho5 with rfl | rfl <;> (rfl)
  exact key _ _
set_option maxRecDepth 100000 in
theorem e_W_attack_105 (z : zZ) (d : Nat) (v1 : Int) (v2 : Int) (v3 : Int) (o4 : Nat) (o5 : Nat) (v6 : Int) (v7 : Int) (v100 : Int) (μ : Mu) (ho4 : o4 = 4 ∨ o4 = 13) (ho5 : o5 = 4 ∨ o5 = 13) : f_W_attack_105 z d v1 v2 v3 o4 o5 v6 v7 v100 μ = bif decide (v6 = 0) then (f_W_attack_120 z d v2 v3 o4 o5 v6 v7 v100 v1 μ) else (f_W_attack_120 z d v2 v3 o4 o5 v6 v7 v100 (zw (1 - v1)) μ) := by
  show mE z d q_W_attack 105 [(2, 0), (0, v1), (0, v2), (0, v3), (2, ((o4 : Nat) : Int)), (2, ((o5 : Nat) : Int)), (0, v6), (0, v7), (9, 0), (9, 0), (9, 0)] [(0, v100)] μ = _
  rw [mE_bk (M := q_W_attack) k_W_attack.1 k_W_attack.2 [36, 38, 81, 105, 120, 162, 176, 221] 400]
  have key : ∀ (C : Nat → List zv → Mu → mR) (E : Nat → List zv → List zv → Mu → mR), mbk C E q_W_attack.1 q_W_attack.2.1 z q_W_attack.2.2.2 [36, 38, 81, 105, 120, 162, 176, 221] 400 (zfind q_W_attack.2.2.2 105) [(2, 0), (0, v1), (0, v2), (0, v3), (2, ((o4 : Nat) : Int)), (2, ((o5 : Nat) : Int)), (0, v6), (0, v7), (9, 0), (9, 0), (9, 0)] [(0, v100)] μ = bif decide (v6 = 0) then (g_W_attack_120 E v2 v3 o4 o5 v6 v7 v100 v1 μ) else (g_W_attack_120 E v2 v3 o4 o5 v6 v7 v100 (zw (1 - v1)) μ) := by
    intro C E
    rcases ho4 with rfl | rfl <;> rcases ho5 with rfl | rfl <;> (rfl)
  exact key _ _
set_option maxRecDepth 100000 in
theorem e_W_attack_120 (z : zZ) (d : Nat) (v2 : Int) (v3 : Int) (o4 : Nat) (o5 : Nat) (v6 : Int) (v7 : Int) (v8 : Int) (v101 : Int) (μ : Mu) (ho4 : o4 = 4 ∨ o4 = 13) (ho5 : o5 = 4 ∨ o5 = 13) : f_W_attack_120 z d v2 v3 o4 o5 v6 v7 v8 v101 μ = (mC z d 82 [(2, 0), (0, v101)] μ).bind fun q1 => ((mC z d 83 [(2, 0), (0, v8)] q1.2).bind fun q2 => ((mC z d 68 [(0, v7)] q2.2).bind fun q3 => ((mC z d 84 [(2, 0), (0, v7)] (zup q3.2 53 4 q3.1)).bind fun q4 => ((mC z d 85 [(2, 0)] (zup q4.2 53 5 q4.1)).bind fun q5 => (f_W_attack_162 z d v2 v3 o4 o5 v6 v7 v8 6 q5.1 q5.2))))) := by
  show mE z d q_W_attack 120 [(2, 0), (9, 0), (0, v2), (0, v3), (2, ((o4 : Nat) : Int)), (2, ((o5 : Nat) : Int)), (0, v6), (0, v7), (0, v8), (9, 0), (9, 0)] [(0, v101), (2, 0)] μ = _
  rw [mE_bk (M := q_W_attack) k_W_attack.1 k_W_attack.2 [36, 38, 81, 105, 120, 162, 176, 221] 400]
  have key : ∀ (C : Nat → List zv → Mu → mR) (E : Nat → List zv → List zv → Mu → mR), mbk C E q_W_attack.1 q_W_attack.2.1 z q_W_attack.2.2.2 [36, 38, 81, 105, 120, 162, 176, 221] 400 (zfind q_W_attack.2.2.2 120) [(2, 0), (9, 0), (0, v2), (0, v3), (2, ((o4 : Nat) : Int)), (2, ((o5 : Nat) : Int)), (0, v6), (0, v7), (0, v8), (9, 0), (9, 0)] [(0, v101), (2, 0)] μ = (C 82 [(2, 0), (0, v101)] μ).bind fun q1 => ((C 83 [(2, 0), (0, v8)] q1.2).bind fun q2 => ((C 68 [(0, v7)] q2.2).bind fun q3 => ((C 84 [(2, 0), (0, v7)] (zup q3.2 53 4 q3.1)).bind fun q4 => ((C 85 [(2, 0)] (zup q4.2 53 5 q4.1)).bind fun q5 => (g_W_attack_162 E v2 v3 o4 o5 v6 v7 v8 6 q5.1 q5.2))))) := by
    intro C E
    rcases ho4 with rfl | rfl <;> rcases ho5 with rfl | rfl <;> (rfl)
  exact key _ _
set_option maxRecDepth 100000 in
theorem e_W_attack_162 (z : zZ) (d : Nat) (v2 : Int) (v3 : Int) (o4 : Nat) (o5 : Nat) (v6 : Int) (v7 : Int) (v8 : Int) (v101 : Int) (v102 : Int) (μ : Mu) (ho4 : o4 = 4 ∨ o4 = 13) (ho5 : o5 = 4 ∨ o5 = 13) (m0_6 : Nat) (hcm0_6 : m0_6 = 41 ∨ m0_6 = 47) (hm0_6 : μ 0 6 = ((m0_6 : Nat) : Int) + 1) : f_W_attack_162 z d v2 v3 o4 o5 v6 v7 v8 v101 v102 μ = gI v101 10 ((mC z d 86 [(2, ((m0_6 : Nat) : Int)), (0, 102), (2, 53)] (zup μ 53 v101.toNat v102)).bind fun q1 => (f_W_attack_176 z d v2 v3 o4 o5 v6 v7 v8 q1.1 q1.2)) := by
  show mE z d q_W_attack 162 [(2, 0), (9, 0), (0, v2), (0, v3), (2, ((o4 : Nat) : Int)), (2, ((o5 : Nat) : Int)), (0, v6), (0, v7), (0, v8), (9, 0), (9, 0)] [(0, v102), (0, v101), (2, 53)] μ = _
  rw [mE_bk (M := q_W_attack) k_W_attack.1 k_W_attack.2 [36, 38, 81, 105, 120, 162, 176, 221] 400]
  have key : ∀ (C : Nat → List zv → Mu → mR) (E : Nat → List zv → List zv → Mu → mR), mbk C E q_W_attack.1 q_W_attack.2.1 z q_W_attack.2.2.2 [36, 38, 81, 105, 120, 162, 176, 221] 400 (zfind q_W_attack.2.2.2 162) [(2, 0), (9, 0), (0, v2), (0, v3), (2, ((o4 : Nat) : Int)), (2, ((o5 : Nat) : Int)), (0, v6), (0, v7), (0, v8), (9, 0), (9, 0)] [(0, v102), (0, v101), (2, 53)] μ = gI v101 10 ((C 86 [(2, ((m0_6 : Nat) : Int)), (0, 102), (2, 53)] (zup μ 53 v101.toNat v102)).bind fun q1 => (g_W_attack_176 E v2 v3 o4 o5 v6 v7 v8 q1.1 q1.2)) := by
    intro C E
    rcases ho4 with rfl | rfl <;> rcases ho5 with rfl | rfl <;> rcases hcm0_6 with rfl | rfl <;> (rw [← zup_self hm0_6]; rfl)
  exact key _ _
set_option maxRecDepth 100000 in
theorem e_W_attack_176 (z : zZ) (d : Nat) (v2 : Int) (v3 : Int) (o4 : Nat) (o5 : Nat) (v6 : Int) (v7 : Int) (v8 : Int) (v100 : Int) (μ : Mu) (ho4 : o4 = 4 ∨ o4 = 13) (ho5 : o5 = 4 ∨ o5 = 13) (m0_6 : Nat) (hcm0_6 : m0_6 = 41 ∨ m0_6 = 47) (hm0_6 : μ 0 6 = ((m0_6 : Nat) : Int) + 1) : f_W_attack_176 z d v2 v3 o4 o5 v6 v7 v8 v100 μ = (mC z d 86 [(2, ((m0_6 : Nat) : Int)), (0, 112), (2, 53)] μ).bind fun q1 => (bif decide (v6 = 0) then ((mC z d 93 [(2, ((o4 : Nat) : Int)), (0, v2), (0, v100), (0, q1.1)] q1.2).bind fun q2 => (f_W_attack_221 z d q2.2)) else ((mC z d 93 [(2, ((o5 : Nat) : Int)), (0, v3), (0, v100), (0, q1.1)] q1.2).bind fun q3 => (f_W_attack_221 z d q3.2))) := by
  show mE z d q_W_attack 176 [(2, 0), (9, 0), (0, v2), (0, v3), (2, ((o4 : Nat) : Int)), (2, ((o5 : Nat) : Int)), (0, v6), (0, v7), (0, v8), (9, 0), (9, 0)] [(0, v100)] μ = _
  rw [mE_bk (M := q_W_attack) k_W_attack.1 k_W_attack.2 [36, 38, 81, 105, 120, 162, 176, 221] 400]
  have key : ∀ (C : Nat → List zv → Mu → mR) (E : Nat → List zv → List zv → Mu → mR), mbk C E q_W_attack.1 q_W_attack.2.1 z q_W_attack.2.2.2 [36, 38, 81, 105, 120, 162, 176, 221] 400 (zfind q_W_attack.2.2.2 176) [(2, 0), (9, 0), (0, v2), (0, v3), (2, ((o4 : Nat) : Int)), (2, ((o5 : Nat) : Int)), (0, v6), (0, v7), (0, v8), (9, 0), (9, 0)] [(0, v100)] μ = (C 86 [(2, ((m0_6 : Nat) : Int)), (0, 112), (2, 53)] μ).bind fun q1 => (bif decide (v6 = 0) then ((C 93 [(2, ((o4 : Nat) : Int)), (0, v2), (0, v100), (0, q1.1)] q1.2).bind fun q2 => (g_W_attack_221 E q2.2)) else ((C 93 [(2, ((o5 : Nat) : Int)), (0, v3), (0, v100), (0, q1.1)] q1.2).bind fun q3 => (g_W_attack_221 E q3.2))) := by
    intro C E
    rcases ho4 with rfl | rfl <;> rcases ho5 with rfl | rfl <;> rcases hcm0_6 with rfl | rfl <;> (rw [← zup_self hm0_6]; rfl)
  exact key _ _
set_option maxRecDepth 100000 in
theorem e_W_attack_221 (z : zZ) (d : Nat) (μ : Mu) : f_W_attack_221 z d μ = some (1, μ) := by
  show mE z d q_W_attack 221 [(9, 0), (9, 0), (9, 0), (9, 0), (9, 0), (9, 0), (9, 0), (9, 0), (9, 0), (9, 0), (9, 0)] [] μ = _
  rw [mE_bk (M := q_W_attack) k_W_attack.1 k_W_attack.2 [36, 38, 81, 105, 120, 162, 176, 221] 400]
  have key : ∀ (C : Nat → List zv → Mu → mR) (E : Nat → List zv → List zv → Mu → mR), mbk C E q_W_attack.1 q_W_attack.2.1 z q_W_attack.2.2.2 [36, 38, 81, 105, 120, 162, 176, 221] 400 (zfind q_W_attack.2.2.2 221) [(9, 0), (9, 0), (9, 0), (9, 0), (9, 0), (9, 0), (9, 0), (9, 0), (9, 0), (9, 0), (9, 0)] [] μ = some (1, μ) := by
    intro C E
    rfl
  exact key _ _
def g_W_isAhead_25 (E : Nat → List zv → List zv → Mu → mR) (v100 : Int) (μ : Mu) : mR := E 25 [(9, 0), (9, 0), (9, 0)] [(0, v100)] μ
noncomputable def f_W_isAhead_25 (z : zZ) (d : Nat) (v100 : Int) (μ : Mu) : mR := g_W_isAhead_25 (fun pc ls st μ => mE z d q_W_isAhead pc ls st μ) v100 μ
theorem k_W_isAhead : zprK q_W_isAhead.2.2.2 = true ∧ zinc q_W_isAhead.2.2.2 = true := by decide +kernel
set_option maxRecDepth 100000 in
theorem c_W_isAhead (z : zZ) (d : Nat) (v0 : Int) (v1 : Int) (o2 : Nat) (μ : Mu) (ho2 : o2 = 4 ∨ o2 = 13) : mC z (d + 1) 80 [(0, v0), (0, v1), (2, ((o2 : Nat) : Int))] μ = (mC z d 81 [(0, v0), (2, (((o2 + 2) : Nat) : Int))] μ).bind fun q1 => ((mC z d 81 [(0, v1), (2, (((o2 + 2) : Nat) : Int))] q1.2).bind fun q2 => (bif decide (0 ≤ z_lcmp q1.1 q2.1) then (f_W_isAhead_25 z d 0 q2.2) else (f_W_isAhead_25 z d 1 q2.2))) := by
  rw [mC_succ q_W_isAhead rfl rfl rfl]
  rw [mE_bk (M := q_W_isAhead) k_W_isAhead.1 k_W_isAhead.2 [25] 400]
  have key : ∀ (C : Nat → List zv → Mu → mR) (E : Nat → List zv → List zv → Mu → mR), mbk C E q_W_isAhead.1 q_W_isAhead.2.1 z q_W_isAhead.2.2.2 [25] 400 (zfind q_W_isAhead.2.2.2 0) (zentry q_W_isAhead.2.2.1 [(0, v0), (0, v1), (2, ((o2 : Nat) : Int))]) [] μ = (C 81 [(0, v0), (2, (((o2 + 2) : Nat) : Int))] μ).bind fun q1 => ((C 81 [(0, v1), (2, (((o2 + 2) : Nat) : Int))] q1.2).bind fun q2 => (bif decide (0 ≤ z_lcmp q1.1 q2.1) then (g_W_isAhead_25 E 0 q2.2) else (g_W_isAhead_25 E 1 q2.2))) := by
    intro C E
    rcases ho2 with rfl | rfl <;> (rfl)
  exact key _ _
set_option maxRecDepth 100000 in
theorem e_W_isAhead_25 (z : zZ) (d : Nat) (v100 : Int) (μ : Mu) : f_W_isAhead_25 z d v100 μ = g01 v100 (some (v100, μ)) := by
  show mE z d q_W_isAhead 25 [(9, 0), (9, 0), (9, 0)] [(0, v100)] μ = _
  rw [mE_bk (M := q_W_isAhead) k_W_isAhead.1 k_W_isAhead.2 [25] 400]
  have key : ∀ (C : Nat → List zv → Mu → mR) (E : Nat → List zv → List zv → Mu → mR), mbk C E q_W_isAhead.1 q_W_isAhead.2.1 z q_W_isAhead.2.2.2 [25] 400 (zfind q_W_isAhead.2.2.2 25) [(9, 0), (9, 0), (9, 0)] [(0, v100)] μ = g01 v100 (some (v100, μ)) := by
    intro C E
    rfl
  exact key _ _
def g_Wrd_keyOf_5 (E : Nat → List zv → List zv → Mu → mR) (v0 : Int) (v1 : Int) (v2 : Int) (v4 : Int) (μ : Mu) : mR := E 5 [(0, v0), (2, v1), (1, v2), (9, 0), (0, v4), (9, 0)] [] μ
noncomputable def f_Wrd_keyOf_5 (z : zZ) (d : Nat) (v0 : Int) (v1 : Int) (v2 : Int) (v4 : Int) (μ : Mu) : mR := g_Wrd_keyOf_5 (fun pc ls st μ => mE z d q_Wrd_keyOf pc ls st μ) v0 v1 v2 v4 μ
def g_Wrd_keyOf_40 (E : Nat → List zv → List zv → Mu → mR) (v0 : Int) (v1 : Int) (v4 : Int) (v100 : Int) (μ : Mu) : mR := E 40 [(0, v0), (2, v1), (9, 0), (9, 0), (0, v4), (9, 0)] [(1, v100)] μ
noncomputable def f_Wrd_keyOf_40 (z : zZ) (d : Nat) (v0 : Int) (v1 : Int) (v4 : Int) (v100 : Int) (μ : Mu) : mR := g_Wrd_keyOf_40 (fun pc ls st μ => mE z d q_Wrd_keyOf pc ls st μ) v0 v1 v4 v100 μ
def g_Wrd_keyOf_41 (E : Nat → List zv → List zv → Mu → mR) (v0 : Int) (v1 : Int) (v4 : Int) (v100 : Int) (v101 : Int) (μ : Mu) : mR := E 41 [(0, v0), (2, v1), (9, 0), (9, 0), (0, v4), (9, 0)] [(0, v101), (1, v100)] μ
noncomputable def f_Wrd_keyOf_41 (z : zZ) (d : Nat) (v0 : Int) (v1 : Int) (v4 : Int) (v100 : Int) (v101 : Int) (μ : Mu) : mR := g_Wrd_keyOf_41 (fun pc ls st μ => mE z d q_Wrd_keyOf pc ls st μ) v0 v1 v4 v100 v101 μ
theorem k_Wrd_keyOf : zprK q_Wrd_keyOf.2.2.2 = true ∧ zinc q_Wrd_keyOf.2.2.2 = true := by decide +kernel
set_option maxRecDepth 100000 in
theorem c_Wrd_keyOf (z : zZ) (d : Nat) (v0 : Int) (v1 : Int) (μ : Mu) : mC z (d + 1) 81 [(0, v0), (2, v1)] μ = f_Wrd_keyOf_5 z d v0 v1 0 0 μ := by
  rw [mC_succ q_Wrd_keyOf rfl rfl rfl]
  rw [mE_bk (M := q_Wrd_keyOf) k_Wrd_keyOf.1 k_Wrd_keyOf.2 [5, 40, 41] 400]
  have key : ∀ (C : Nat → List zv → Mu → mR) (E : Nat → List zv → List zv → Mu → mR), mbk C E q_Wrd_keyOf.1 q_Wrd_keyOf.2.1 z q_Wrd_keyOf.2.2.2 [5, 40, 41] 400 (zfind q_Wrd_keyOf.2.2.2 0) (zentry q_Wrd_keyOf.2.2.1 [(0, v0), (2, v1)]) [] μ = g_Wrd_keyOf_5 E v0 v1 0 0 μ := by
    intro C E
    rfl
  exact key _ _
set_option maxRecDepth 100000 in
theorem e_Wrd_keyOf_5 (z : zZ) (d : Nat) (v0 : Int) (v1 : Int) (v2 : Int) (v4 : Int) (μ : Mu) : f_Wrd_keyOf_5 z d v0 v1 v2 v4 μ = bif decide (8 ≤ v4) then (some (v2, μ)) else ((mC z d 41 [(0, v0), (0, v4)] μ).bind fun q1 => ((mC z d 13 [(0, q1.1)] q1.2).bind fun q2 => (bif decide (q2.1 = 0) then (f_Wrd_keyOf_40 z d v0 v1 v4 (z_lshl v2 4) q2.2) else (gA v1 q1.1 (f_Wrd_keyOf_41 z d v0 v1 v4 (z_lshl v2 4) (zw ((q2.2 v1.toNat q1.1.toNat) + 1)) q2.2))))) := by
  show mE z d q_Wrd_keyOf 5 [(0, v0), (2, v1), (1, v2), (9, 0), (0, v4), (9, 0)] [] μ = _
  rw [mE_bk (M := q_Wrd_keyOf) k_Wrd_keyOf.1 k_Wrd_keyOf.2 [5, 40, 41] 400]
  have key : ∀ (C : Nat → List zv → Mu → mR) (E : Nat → List zv → List zv → Mu → mR), mbk C E q_Wrd_keyOf.1 q_Wrd_keyOf.2.1 z q_Wrd_keyOf.2.2.2 [5, 40, 41] 400 (zfind q_Wrd_keyOf.2.2.2 5) [(0, v0), (2, v1), (1, v2), (9, 0), (0, v4), (9, 0)] [] μ = bif decide (8 ≤ v4) then (some (v2, μ)) else ((C 41 [(0, v0), (0, v4)] μ).bind fun q1 => ((C 13 [(0, q1.1)] q1.2).bind fun q2 => (bif decide (q2.1 = 0) then (g_Wrd_keyOf_40 E v0 v1 v4 (z_lshl v2 4) q2.2) else (gA v1 q1.1 (g_Wrd_keyOf_41 E v0 v1 v4 (z_lshl v2 4) (zw ((q2.2 v1.toNat q1.1.toNat) + 1)) q2.2))))) := by
    intro C E
    rfl
  exact key _ _
set_option maxRecDepth 100000 in
theorem e_Wrd_keyOf_40 (z : zZ) (d : Nat) (v0 : Int) (v1 : Int) (v4 : Int) (v100 : Int) (μ : Mu) : f_Wrd_keyOf_40 z d v0 v1 v4 v100 μ = f_Wrd_keyOf_41 z d v0 v1 v4 v100 0 μ := by
  show mE z d q_Wrd_keyOf 40 [(0, v0), (2, v1), (9, 0), (9, 0), (0, v4), (9, 0)] [(1, v100)] μ = _
  rw [mE_bk (M := q_Wrd_keyOf) k_Wrd_keyOf.1 k_Wrd_keyOf.2 [5, 40, 41] 400]
  have key : ∀ (C : Nat → List zv → Mu → mR) (E : Nat → List zv → List zv → Mu → mR), mbk C E q_Wrd_keyOf.1 q_Wrd_keyOf.2.1 z q_Wrd_keyOf.2.2.2 [5, 40, 41] 400 (zfind q_Wrd_keyOf.2.2.2 40) [(0, v0), (2, v1), (9, 0), (9, 0), (0, v4), (9, 0)] [(1, v100)] μ = g_Wrd_keyOf_41 E v0 v1 v4 v100 0 μ := by
    intro C E
    rfl
  exact key _ _
set_option maxRecDepth 100000 in
theorem e_Wrd_keyOf_41 (z : zZ) (d : Nat) (v0 : Int) (v1 : Int) (v4 : Int) (v100 : Int) (v101 : Int) (μ : Mu) : f_Wrd_keyOf_41 z d v0 v1 v4 v100 v101 μ = f_Wrd_keyOf_5 z d v0 v1 (z_lor v100 v101) (zw (v4 + 1)) μ := by
  show mE z d q_Wrd_keyOf 41 [(0, v0), (2, v1), (9, 0), (9, 0), (0, v4), (9, 0)] [(0, v101), (1, v100)] μ = _
  rw [mE_bk (M := q_Wrd_keyOf) k_Wrd_keyOf.1 k_Wrd_keyOf.2 [5, 40, 41] 400]
  have key : ∀ (C : Nat → List zv → Mu → mR) (E : Nat → List zv → List zv → Mu → mR), mbk C E q_Wrd_keyOf.1 q_Wrd_keyOf.2.1 z q_Wrd_keyOf.2.2.2 [5, 40, 41] 400 (zfind q_Wrd_keyOf.2.2.2 41) [(0, v0), (2, v1), (9, 0), (9, 0), (0, v4), (9, 0)] [(0, v101), (1, v100)] μ = g_Wrd_keyOf_5 E v0 v1 (z_lor v100 v101) (zw (v4 + 1)) μ := by
    intro C E
    rfl
  exact key _ _
theorem k_W_tell : zprK q_W_tell.2.2.2 = true ∧ zinc q_W_tell.2.2.2 = true := by decide +kernel
set_option maxRecDepth 100000 in
theorem c_W_tell (z : zZ) (d : Nat) (v1 : Int) (μ : Mu) : mC z (d + 1) 82 [(2, 0), (0, v1)] μ = (mC z d 5 [(2, 53), (0, 0)] μ).bind fun q1 => (some (0, zup (zup q1.2 53 0 (q1.2 0 18)) 53 1 v1)) := by
  rw [mC_succ q_W_tell rfl rfl rfl]
  rw [mE_bk (M := q_W_tell) k_W_tell.1 k_W_tell.2 [] 400]
  have key : ∀ (C : Nat → List zv → Mu → mR) (E : Nat → List zv → List zv → Mu → mR), mbk C E q_W_tell.1 q_W_tell.2.1 z q_W_tell.2.2.2 [] 400 (zfind q_W_tell.2.2.2 0) (zentry q_W_tell.2.2.1 [(2, 0), (0, v1)]) [] μ = (C 5 [(2, 53), (0, 0)] μ).bind fun q1 => (some (0, zup (zup q1.2 53 0 (q1.2 0 18)) 53 1 v1)) := by
    intro C E
    rfl
  exact key _ _
theorem k_W_tellWord : zprK q_W_tellWord.2.2.2 = true ∧ zinc q_W_tellWord.2.2.2 = true := by decide +kernel
set_option maxRecDepth 100000 in
theorem c_W_tellWord (z : zZ) (d : Nat) (v1 : Int) (μ : Mu) : mC z (d + 1) 83 [(2, 0), (0, v1)] μ = (mC z d 68 [(0, v1)] μ).bind fun q1 => ((mC z d 84 [(2, 0), (0, v1)] (zup q1.2 53 2 q1.1)).bind fun q2 => (some (0, zup q2.2 53 3 q2.1))) := by
  rw [mC_succ q_W_tellWord rfl rfl rfl]
  rw [mE_bk (M := q_W_tellWord) k_W_tellWord.1 k_W_tellWord.2 [] 400]
  have key : ∀ (C : Nat → List zv → Mu → mR) (E : Nat → List zv → List zv → Mu → mR), mbk C E q_W_tellWord.1 q_W_tellWord.2.1 z q_W_tellWord.2.2.2 [] 400 (zfind q_W_tellWord.2.2.2 0) (zentry q_W_tellWord.2.2.1 [(2, 0), (0, v1)]) [] μ = (C 68 [(0, v1)] μ).bind fun q1 => ((C 84 [(2, 0), (0, v1)] (zup q1.2 53 2 q1.1)).bind fun q2 => (some (0, zup q2.2 53 3 q2.1))) := by
    intro C E
    rfl
  exact key _ _
def g_W_strengthOf_4 (E : Nat → List zv → List zv → Mu → mR) (v1 : Int) (v2 : Int) (v3 : Int) (μ : Mu) : mR := E 4 [(2, 0), (0, v1), (0, v2), (0, v3), (9, 0)] [] μ
noncomputable def f_W_strengthOf_4 (z : zZ) (d : Nat) (v1 : Int) (v2 : Int) (v3 : Int) (μ : Mu) : mR := g_W_strengthOf_4 (fun pc ls st μ => mE z d q_W_strengthOf pc ls st μ) v1 v2 v3 μ
def g_W_strengthOf_35 (E : Nat → List zv → List zv → Mu → mR) (v1 : Int) (v2 : Int) (v3 : Int) (μ : Mu) : mR := E 35 [(2, 0), (0, v1), (0, v2), (0, v3), (9, 0)] [] μ
noncomputable def f_W_strengthOf_35 (z : zZ) (d : Nat) (v1 : Int) (v2 : Int) (v3 : Int) (μ : Mu) : mR := g_W_strengthOf_35 (fun pc ls st μ => mE z d q_W_strengthOf pc ls st μ) v1 v2 v3 μ
theorem k_W_strengthOf : zprK q_W_strengthOf.2.2.2 = true ∧ zinc q_W_strengthOf.2.2.2 = true := by decide +kernel
set_option maxRecDepth 100000 in
theorem c_W_strengthOf (z : zZ) (d : Nat) (v1 : Int) (μ : Mu) : mC z (d + 1) 84 [(2, 0), (0, v1)] μ = f_W_strengthOf_4 z d v1 0 0 μ := by
  rw [mC_succ q_W_strengthOf rfl rfl rfl]
  rw [mE_bk (M := q_W_strengthOf) k_W_strengthOf.1 k_W_strengthOf.2 [4, 35] 400]
  have key : ∀ (C : Nat → List zv → Mu → mR) (E : Nat → List zv → List zv → Mu → mR), mbk C E q_W_strengthOf.1 q_W_strengthOf.2.1 z q_W_strengthOf.2.2.2 [4, 35] 400 (zfind q_W_strengthOf.2.2.2 0) (zentry q_W_strengthOf.2.2.1 [(2, 0), (0, v1)]) [] μ = g_W_strengthOf_4 E v1 0 0 μ := by
    intro C E
    rfl
  exact key _ _
set_option maxRecDepth 100000 in
theorem e_W_strengthOf_4 (z : zZ) (d : Nat) (v1 : Int) (v2 : Int) (v3 : Int) (μ : Mu) : f_W_strengthOf_4 z d v1 v2 v3 μ = bif decide (8 ≤ v3) then (some (v2, μ)) else ((mC z d 41 [(0, v1), (0, v3)] μ).bind fun q1 => ((mC z d 13 [(0, q1.1)] q1.2).bind fun q2 => (bif decide (q2.1 = 0) then (f_W_strengthOf_35 z d v1 v2 v3 q2.2) else (gI q1.1 12 (f_W_strengthOf_35 z d v1 (zw (v2 + (q2.2 35 q1.1.toNat))) v3 q2.2))))) := by
  show mE z d q_W_strengthOf 4 [(2, 0), (0, v1), (0, v2), (0, v3), (9, 0)] [] μ = _
  rw [mE_bk (M := q_W_strengthOf) k_W_strengthOf.1 k_W_strengthOf.2 [4, 35] 400]
  have key : ∀ (C : Nat → List zv → Mu → mR) (E : Nat → List zv → List zv → Mu → mR), mbk C E q_W_strengthOf.1 q_W_strengthOf.2.1 z q_W_strengthOf.2.2.2 [4, 35] 400 (zfind q_W_strengthOf.2.2.2 4) [(2, 0), (0, v1), (0, v2), (0, v3), (9, 0)] [] μ = bif decide (8 ≤ v3) then (some (v2, μ)) else ((C 41 [(0, v1), (0, v3)] μ).bind fun q1 => ((C 13 [(0, q1.1)] q1.2).bind fun q2 => (bif decide (q2.1 = 0) then (g_W_strengthOf_35 E v1 v2 v3 q2.2) else (gI q1.1 12 (g_W_strengthOf_35 E v1 (zw (v2 + (q2.2 35 q1.1.toNat))) v3 q2.2))))) := by
    intro C E
    rfl
  exact key _ _
set_option maxRecDepth 100000 in
theorem e_W_strengthOf_35 (z : zZ) (d : Nat) (v1 : Int) (v2 : Int) (v3 : Int) (μ : Mu) : f_W_strengthOf_35 z d v1 v2 v3 μ = f_W_strengthOf_4 z d v1 v2 (zw (v3 + 1)) μ := by
  show mE z d q_W_strengthOf 35 [(2, 0), (0, v1), (0, v2), (0, v3), (9, 0)] [] μ = _
  rw [mE_bk (M := q_W_strengthOf) k_W_strengthOf.1 k_W_strengthOf.2 [4, 35] 400]
  have key : ∀ (C : Nat → List zv → Mu → mR) (E : Nat → List zv → List zv → Mu → mR), mbk C E q_W_strengthOf.1 q_W_strengthOf.2.1 z q_W_strengthOf.2.2.2 [4, 35] 400 (zfind q_W_strengthOf.2.2.2 35) [(2, 0), (0, v1), (0, v2), (0, v3), (9, 0)] [] μ = g_W_strengthOf_4 E v1 v2 (zw (v3 + 1)) μ := by
    intro C E
    rfl
  exact key _ _
theorem k_W_nextDraw : zprK q_W_nextDraw.2.2.2 = true ∧ zinc q_W_nextDraw.2.2.2 = true := by decide +kernel
set_option maxRecDepth 100000 in
theorem c_W_nextDraw (z : zZ) (d : Nat) (μ : Mu) : mC z (d + 1) 85 [(2, 0)] μ = some (z_rem (z_and (zw ((zw (25173 * (μ 0 19))) + 13849)) 65535) 10, zup μ 0 19 (z_and (zw ((zw (25173 * (μ 0 19))) + 13849)) 65535)) := by
  rw [mC_succ q_W_nextDraw rfl rfl rfl]
  rw [mE_bk (M := q_W_nextDraw) k_W_nextDraw.1 k_W_nextDraw.2 [] 400]
  have key : ∀ (C : Nat → List zv → Mu → mR) (E : Nat → List zv → List zv → Mu → mR), mbk C E q_W_nextDraw.1 q_W_nextDraw.2.1 z q_W_nextDraw.2.2.2 [] 400 (zfind q_W_nextDraw.2.2.2 0) (zentry q_W_nextDraw.2.2.1 [(2, 0)]) [] μ = some (z_rem (z_and (zw ((zw (25173 * (μ 0 19))) + 13849)) 65535) 10, zup μ 0 19 (z_and (zw ((zw (25173 * (μ 0 19))) + 13849)) 65535)) := by
    intro C E
    rfl
  exact key _ _
def g_Law_ask_2 (E : Nat → List zv → List zv → Mu → mR) (o0 : Nat) (v1 : Int) (v2 : Int) (v3 : Int) (μ : Mu) : mR := E 2 [(2, ((o0 : Nat) : Int)), (0, v1), (2, v2), (0, v3)] [] μ
noncomputable def f_Law_ask_2 (z : zZ) (d : Nat) (o0 : Nat) (v1 : Int) (v2 : Int) (v3 : Int) (μ : Mu) : mR := g_Law_ask_2 (fun pc ls st μ => mE z d q_Law_ask pc ls st μ) o0 v1 v2 v3 μ
def g_Law_ask_63 (E : Nat → List zv → List zv → Mu → mR) (o0 : Nat) (v1 : Int) (v2 : Int) (v3 : Int) (μ : Mu) : mR := E 63 [(2, ((o0 : Nat) : Int)), (0, v1), (2, v2), (0, v3)] [] μ
noncomputable def f_Law_ask_63 (z : zZ) (d : Nat) (o0 : Nat) (v1 : Int) (v2 : Int) (v3 : Int) (μ : Mu) : mR := g_Law_ask_63 (fun pc ls st μ => mE z d q_Law_ask pc ls st μ) o0 v1 v2 v3 μ
def g_Law_ask_69 (E : Nat → List zv → List zv → Mu → mR) (μ : Mu) : mR := E 69 [(9, 0), (9, 0), (9, 0), (9, 0)] [] μ
noncomputable def f_Law_ask_69 (z : zZ) (d : Nat) (μ : Mu) : mR := g_Law_ask_69 (fun pc ls st μ => mE z d q_Law_ask pc ls st μ) μ
theorem k_Law_ask : zprK q_Law_ask.2.2.2 = true ∧ zinc q_Law_ask.2.2.2 = true := by decide +kernel
set_option maxRecDepth 100000 in
theorem c_Law_ask (z : zZ) (d : Nat) (o0 : Nat) (v1 : Int) (v2 : Int) (μ : Mu) (ho0 : o0 = 41 ∨ o0 = 47) : mC z (d + 1) 86 [(2, ((o0 : Nat) : Int)), (0, v1), (2, v2)] μ = f_Law_ask_2 z d o0 v1 v2 0 μ := by
  rw [mC_succ q_Law_ask rfl rfl rfl]
  rw [mE_bk (M := q_Law_ask) k_Law_ask.1 k_Law_ask.2 [2, 63, 69] 400]
  have key : ∀ (C : Nat → List zv → Mu → mR) (E : Nat → List zv → List zv → Mu → mR), mbk C E q_Law_ask.1 q_Law_ask.2.1 z q_Law_ask.2.2.2 [2, 63, 69] 400 (zfind q_Law_ask.2.2.2 0) (zentry q_Law_ask.2.2.1 [(2, ((o0 : Nat) : Int)), (0, v1), (2, v2)]) [] μ = g_Law_ask_2 E o0 v1 v2 0 μ := by
    intro C E
    rcases ho0 with rfl | rfl <;> (rfl)
  exact key _ _
set_option maxRecDepth 100000 in
theorem e_Law_ask_2 (z : zZ) (d : Nat) (o0 : Nat) (v1 : Int) (v2 : Int) (v3 : Int) (μ : Mu) (ho0 : o0 = 41 ∨ o0 = 47) : f_Law_ask_2 z d o0 v1 v2 v3 μ = bif decide (μ o0 3 ≤ v3) then (f_Law_ask_69 z d μ) else (bif decide (14 ≤ v3) then (f_Law_ask_69 z d μ) else (gI v3 14 (bif !decide (μ (o0 + 1) v3.toNat = v1) then (f_Law_ask_63 z d o0 v1 v2 v3 μ) else (gI v3 14 ((mC z d 87 [(2, ((o0 : Nat) : Int)), (0, μ (o0 + 3) v3.toNat), (2, v2)] μ).bind fun q1 => (bif decide (q1.1 = 0) then (f_Law_ask_63 z d o0 v1 v2 v3 q1.2) else ((mC z d 92 [(0, v1)] q1.2).bind fun q2 => (gI v3 14 ((mC z d 87 [(2, ((o0 : Nat) : Int)), (0, q2.2 (o0 + 2) v3.toNat), (2, v2)] q2.2).bind fun q3 => (some (if 0 < if q3.1 < q2.1 then q3.1 else q2.1 then if q3.1 < q2.1 then q3.1 else q2.1 else 0, q3.2))))))))))) := by
  show mE z d q_Law_ask 2 [(2, ((o0 : Nat) : Int)), (0, v1), (2, v2), (0, v3)] [] μ = _
  rw [mE_bk (M := q_Law_ask) k_Law_ask.1 k_Law_ask.2 [2, 63, 69] 400]
  have key : ∀ (C : Nat → List zv → Mu → mR) (E : Nat → List zv → List zv → Mu → mR), mbk C E q_Law_ask.1 q_Law_ask.2.1 z q_Law_ask.2.2.2 [2, 63, 69] 400 (zfind q_Law_ask.2.2.2 2) [(2, ((o0 : Nat) : Int)), (0, v1), (2, v2), (0, v3)] [] μ = bif decide (μ o0 3 ≤ v3) then (g_Law_ask_69 E μ) else (bif decide (14 ≤ v3) then (g_Law_ask_69 E μ) else (gI v3 14 (bif !decide (μ (o0 + 1) v3.toNat = v1) then (g_Law_ask_63 E o0 v1 v2 v3 μ) else (gI v3 14 ((C 87 [(2, ((o0 : Nat) : Int)), (0, μ (o0 + 3) v3.toNat), (2, v2)] μ).bind fun q1 => (bif decide (q1.1 = 0) then (g_Law_ask_63 E o0 v1 v2 v3 q1.2) else ((C 92 [(0, v1)] q1.2).bind fun q2 => (gI v3 14 ((C 87 [(2, ((o0 : Nat) : Int)), (0, q2.2 (o0 + 2) v3.toNat), (2, v2)] q2.2).bind fun q3 => (some (if 0 < if q3.1 < q2.1 then q3.1 else q2.1 then if q3.1 < q2.1 then q3.1 else q2.1 else 0, q3.2))))))))))) := by
    intro C E
    rcases ho0 with rfl | rfl <;> (rfl)
  exact key _ _
set_option maxRecDepth 100000 in
theorem e_Law_ask_69 (z : zZ) (d : Nat) (μ : Mu) : f_Law_ask_69 z d μ = some (0, μ) := by
  show mE z d q_Law_ask 69 [(9, 0), (9, 0), (9, 0), (9, 0)] [] μ = _
  rw [mE_bk (M := q_Law_ask) k_Law_ask.1 k_Law_ask.2 [2, 63, 69] 400]
  have key : ∀ (C : Nat → List zv → Mu → mR) (E : Nat → List zv → List zv → Mu → mR), mbk C E q_Law_ask.1 q_Law_ask.2.1 z q_Law_ask.2.2.2 [2, 63, 69] 400 (zfind q_Law_ask.2.2.2 69) [(9, 0), (9, 0), (9, 0), (9, 0)] [] μ = some (0, μ) := by
    intro C E
    rfl
  exact key _ _
set_option maxRecDepth 100000 in
theorem e_Law_ask_63 (z : zZ) (d : Nat) (o0 : Nat) (v1 : Int) (v2 : Int) (v3 : Int) (μ : Mu) (ho0 : o0 = 41 ∨ o0 = 47) : f_Law_ask_63 z d o0 v1 v2 v3 μ = f_Law_ask_2 z d o0 v1 v2 (zw (v3 + 1)) μ := by
  show mE z d q_Law_ask 63 [(2, ((o0 : Nat) : Int)), (0, v1), (2, v2), (0, v3)] [] μ = _
  rw [mE_bk (M := q_Law_ask) k_Law_ask.1 k_Law_ask.2 [2, 63, 69] 400]
  have key : ∀ (C : Nat → List zv → Mu → mR) (E : Nat → List zv → List zv → Mu → mR), mbk C E q_Law_ask.1 q_Law_ask.2.1 z q_Law_ask.2.2.2 [2, 63, 69] 400 (zfind q_Law_ask.2.2.2 63) [(2, ((o0 : Nat) : Int)), (0, v1), (2, v2), (0, v3)] [] μ = g_Law_ask_2 E o0 v1 v2 (zw (v3 + 1)) μ := by
    intro C E
    rcases ho0 with rfl | rfl <;> (rfl)
  exact key _ _
