def g_Wrd_firstOf_10 (E : Nat → List zv → List zv → Mu → mR) (v0 : Int) (v1 : Int) (μ : Mu) : mR := E 10 [(0, v0), (0, v1)] [] μ
noncomputable def f_Wrd_firstOf_10 (z : zZ) (d : Nat) (v0 : Int) (v1 : Int) (μ : Mu) : mR := g_Wrd_firstOf_10 (fun pc ls st μ => mE z d q_Wrd_firstOf pc ls st μ) v0 v1 μ
def g_Wrd_firstOf_19 (E : Nat → List zv → List zv → Mu → mR) (v100 : Int) (μ : Mu) : mR := E 19 [(9, 0), (9, 0)] [(0, v100)] μ
noncomputable def f_Wrd_firstOf_19 (z : zZ) (d : Nat) (v100 : Int) (μ : Mu) : mR := g_Wrd_firstOf_19 (fun pc ls st μ => mE z d q_Wrd_firstOf pc ls st μ) v100 μ
theorem k_Wrd_firstOf : zprK q_Wrd_firstOf.2.2.2 = true ∧ zinc q_Wrd_firstOf.2.2.2 = true := by decide +kernel
set_option maxRecDepth 100000 in
theorem c_Wrd_firstOf (z : zZ) (d : Nat) (v0 : Int) (v1 : Int) (μ : Mu) : mC z (d + 1) 94 [(0, v0), (0, v1)] μ = bif decide (v1 < 8) then (f_Wrd_firstOf_10 z d v0 v1 μ) else (f_Wrd_firstOf_19 z d v0 μ) := by
  rw [mC_succ q_Wrd_firstOf rfl rfl rfl]
  rw [mE_bk (M := q_Wrd_firstOf) k_Wrd_firstOf.1 k_Wrd_firstOf.2 [10, 19] 400]
  have key : ∀ (C : Nat → List zv → Mu → mR) (E : Nat → List zv → List zv → Mu → mR), mbk C E q_Wrd_firstOf.1 q_Wrd_firstOf.2.1 z q_Wrd_firstOf.2.2.2 [10, 19] 400 (zfind q_Wrd_firstOf.2.2.2 0) (zentry q_Wrd_firstOf.2.2.1 [(0, v0), (0, v1)]) [] μ = bif decide (v1 < 8) then (g_Wrd_firstOf_10 E v0 v1 μ) else (g_Wrd_firstOf_19 E v0 μ) := by
    intro C E
    rfl
  exact key _ _
set_option maxRecDepth 100000 in
theorem e_Wrd_firstOf_10 (z : zZ) (d : Nat) (v0 : Int) (v1 : Int) (μ : Mu) : f_Wrd_firstOf_10 z d v0 v1 μ = f_Wrd_firstOf_19 z d (z_and v0 (zw ((z_shl 1 (zw (4 * v1))) - 1))) μ := by
  show mE z d q_Wrd_firstOf 10 [(0, v0), (0, v1)] [] μ = _
  rw [mE_bk (M := q_Wrd_firstOf) k_Wrd_firstOf.1 k_Wrd_firstOf.2 [10, 19] 400]
  have key : ∀ (C : Nat → List zv → Mu → mR) (E : Nat → List zv → List zv → Mu → mR), mbk C E q_Wrd_firstOf.1 q_Wrd_firstOf.2.1 z q_Wrd_firstOf.2.2.2 [10, 19] 400 (zfind q_Wrd_firstOf.2.2.2 10) [(0, v0), (0, v1)] [] μ = g_Wrd_firstOf_19 E (z_and v0 (zw ((z_shl 1 (zw (4 * v1))) - 1))) μ := by
    intro C E
    rfl
  exact key _ _
set_option maxRecDepth 100000 in
theorem e_Wrd_firstOf_19 (z : zZ) (d : Nat) (v100 : Int) (μ : Mu) : f_Wrd_firstOf_19 z d v100 μ = some (v100, μ) := by
  show mE z d q_Wrd_firstOf 19 [(9, 0), (9, 0)] [(0, v100)] μ = _
  rw [mE_bk (M := q_Wrd_firstOf) k_Wrd_firstOf.1 k_Wrd_firstOf.2 [10, 19] 400]
  have key : ∀ (C : Nat → List zv → Mu → mR) (E : Nat → List zv → List zv → Mu → mR), mbk C E q_Wrd_firstOf.1 q_Wrd_firstOf.2.1 z q_Wrd_firstOf.2.2.2 [10, 19] 400 (zfind q_Wrd_firstOf.2.2.2 19) [(9, 0), (9, 0)] [(0, v100)] μ = some (v100, μ) := by
    intro C E
    rfl
  exact key _ _
def g_W_changeBySpy_77 (E : Nat → List zv → List zv → Mu → mR) (μ : Mu) : mR := E 77 [(9, 0), (9, 0), (9, 0), (9, 0), (9, 0), (9, 0), (9, 0), (9, 0)] [] μ
noncomputable def f_W_changeBySpy_77 (z : zZ) (d : Nat) (μ : Mu) : mR := g_W_changeBySpy_77 (fun pc ls st μ => mE z d q_W_changeBySpy pc ls st μ) μ
def g_W_changeBySpy_79 (E : Nat → List zv → List zv → Mu → mR) (o1 : Nat) (o2 : Nat) (v4 : Int) (v5 : Int) (v6 : Int) (v7 : Int) (μ : Mu) : mR := E 79 [(9, 0), (2, ((o1 : Nat) : Int)), (2, ((o2 : Nat) : Int)), (9, 0), (0, v4), (0, v5), (0, v6), (0, v7)] [] μ
noncomputable def f_W_changeBySpy_79 (z : zZ) (d : Nat) (o1 : Nat) (o2 : Nat) (v4 : Int) (v5 : Int) (v6 : Int) (v7 : Int) (μ : Mu) : mR := g_W_changeBySpy_79 (fun pc ls st μ => mE z d q_W_changeBySpy pc ls st μ) o1 o2 v4 v5 v6 v7 μ
def g_W_changeBySpy_107 (E : Nat → List zv → List zv → Mu → mR) (o1 : Nat) (o2 : Nat) (v5 : Int) (v7 : Int) (μ : Mu) : mR := E 107 [(9, 0), (2, ((o1 : Nat) : Int)), (2, ((o2 : Nat) : Int)), (9, 0), (9, 0), (0, v5), (9, 0), (0, v7)] [] μ
noncomputable def f_W_changeBySpy_107 (z : zZ) (d : Nat) (o1 : Nat) (o2 : Nat) (v5 : Int) (v7 : Int) (μ : Mu) : mR := g_W_changeBySpy_107 (fun pc ls st μ => mE z d q_W_changeBySpy pc ls st μ) o1 o2 v5 v7 μ
theorem k_W_changeBySpy : zprK q_W_changeBySpy.2.2.2 = true ∧ zinc q_W_changeBySpy.2.2.2 = true := by decide +kernel
set_option maxRecDepth 100000 in
theorem c_W_changeBySpy (z : zZ) (d : Nat) (o1 : Nat) (o2 : Nat) (v3 : Int) (μ : Mu) (ho1 : o1 = 4 ∨ o1 = 13) (ho2 : o2 = 4 ∨ o2 = 13) : mC z (d + 1) 95 [(2, 0), (2, ((o1 : Nat) : Int)), (2, ((o2 : Nat) : Int)), (0, v3)] μ = gI v3 12 (gI v3 12 (gI v3 12 ((mC z d 41 [(0, μ 38 v3.toNat), (0, z_div (μ 39 v3.toNat) 16)] μ).bind fun q1 => ((mC z d 13 [(0, z_rem (μ 39 v3.toNat) 16)] q1.2).bind fun q2 => (bif decide (q2.1 = 0) then (f_W_changeBySpy_77 z d q2.2) else ((mC z d 13 [(0, q1.1)] q2.2).bind fun q3 => (bif decide (q3.1 = 0) then (f_W_changeBySpy_77 z d q3.2) else (gI (zw (0 + (z_rem (μ 39 v3.toNat) 16))) 36 (bif decide (1 ≤ q3.2 (o1 + 3) ((zw (0 + (z_rem (μ 39 v3.toNat) 16))).toNat)) then (f_W_changeBySpy_79 z d o1 o2 (z_div (μ 39 v3.toNat) 16) (z_rem (μ 39 v3.toNat) 16) (μ 38 v3.toNat) q1.1 q3.2) else (f_W_changeBySpy_77 z d q3.2)))))))))) := by
  rw [mC_succ q_W_changeBySpy rfl rfl rfl]
  rw [mE_bk (M := q_W_changeBySpy) k_W_changeBySpy.1 k_W_changeBySpy.2 [77, 79, 107] 400]
  have key : ∀ (C : Nat → List zv → Mu → mR) (E : Nat → List zv → List zv → Mu → mR), mbk C E q_W_changeBySpy.1 q_W_changeBySpy.2.1 z q_W_changeBySpy.2.2.2 [77, 79, 107] 400 (zfind q_W_changeBySpy.2.2.2 0) (zentry q_W_changeBySpy.2.2.1 [(2, 0), (2, ((o1 : Nat) : Int)), (2, ((o2 : Nat) : Int)), (0, v3)]) [] μ = gI v3 12 (gI v3 12 (gI v3 12 ((C 41 [(0, μ 38 v3.toNat), (0, z_div (μ 39 v3.toNat) 16)] μ).bind fun q1 => ((C 13 [(0, z_rem (μ 39 v3.toNat) 16)] q1.2).bind fun q2 => (bif decide (q2.1 = 0) then (g_W_changeBySpy_77 E q2.2) else ((C 13 [(0, q1.1)] q2.2).bind fun q3 => (bif decide (q3.1 = 0) then (g_W_changeBySpy_77 E q3.2) else (gI (zw (0 + (z_rem (μ 39 v3.toNat) 16))) 36 (bif decide (1 ≤ q3.2 (o1 + 3) ((zw (0 + (z_rem (μ 39 v3.toNat) 16))).toNat)) then (g_W_changeBySpy_79 E o1 o2 (z_div (μ 39 v3.toNat) 16) (z_rem (μ 39 v3.toNat) 16) (μ 38 v3.toNat) q1.1 q3.2) else (g_W_changeBySpy_77 E q3.2)))))))))) := by
    intro C E
    rcases ho1 with rfl | rfl <;> rcases ho2 with rfl | rfl <;> (rfl)
  exact key _ _
set_option maxRecDepth 100000 in
theorem e_W_changeBySpy_77 (z : zZ) (d : Nat) (μ : Mu) : f_W_changeBySpy_77 z d μ = some (0, μ) := by
  show mE z d q_W_changeBySpy 77 [(9, 0), (9, 0), (9, 0), (9, 0), (9, 0), (9, 0), (9, 0), (9, 0)] [] μ = _
  rw [mE_bk (M := q_W_changeBySpy) k_W_changeBySpy.1 k_W_changeBySpy.2 [77, 79, 107] 400]
  have key : ∀ (C : Nat → List zv → Mu → mR) (E : Nat → List zv → List zv → Mu → mR), mbk C E q_W_changeBySpy.1 q_W_changeBySpy.2.1 z q_W_changeBySpy.2.2.2 [77, 79, 107] 400 (zfind q_W_changeBySpy.2.2.2 77) [(9, 0), (9, 0), (9, 0), (9, 0), (9, 0), (9, 0), (9, 0), (9, 0)] [] μ = some (0, μ) := by
    intro C E
    rfl
  exact key _ _
set_option maxRecDepth 100000 in
theorem e_W_changeBySpy_79 (z : zZ) (d : Nat) (o1 : Nat) (o2 : Nat) (v4 : Int) (v5 : Int) (v6 : Int) (v7 : Int) (μ : Mu) (ho1 : o1 = 4 ∨ o1 = 13) (ho2 : o2 = 4 ∨ o2 = 13) : f_W_changeBySpy_79 z d o1 o2 v4 v5 v6 v7 μ = (mC z d 39 [(2, ((o2 : Nat) : Int)), (0, v6)] μ).bind fun q1 => ((mC z d 31 [(0, v6), (0, v4), (0, v5)] q1.2).bind fun q2 => ((mC z d 39 [(2, ((o2 : Nat) : Int)), (0, q2.1)] q2.2).bind fun q3 => ((mC z d 78 [(2, ((o2 : Nat) : Int)), (0, q1.1), (0, q3.1)] q3.2).bind fun q4 => (bif !decide (q4.1 = 0) then (f_W_changeBySpy_107 z d o1 o2 v5 v7 q4.2) else (some (0, q4.2)))))) := by
  show mE z d q_W_changeBySpy 79 [(9, 0), (2, ((o1 : Nat) : Int)), (2, ((o2 : Nat) : Int)), (9, 0), (0, v4), (0, v5), (0, v6), (0, v7)] [] μ = _
  rw [mE_bk (M := q_W_changeBySpy) k_W_changeBySpy.1 k_W_changeBySpy.2 [77, 79, 107] 400]
  have key : ∀ (C : Nat → List zv → Mu → mR) (E : Nat → List zv → List zv → Mu → mR), mbk C E q_W_changeBySpy.1 q_W_changeBySpy.2.1 z q_W_changeBySpy.2.2.2 [77, 79, 107] 400 (zfind q_W_changeBySpy.2.2.2 79) [(9, 0), (2, ((o1 : Nat) : Int)), (2, ((o2 : Nat) : Int)), (9, 0), (0, v4), (0, v5), (0, v6), (0, v7)] [] μ = (C 39 [(2, ((o2 : Nat) : Int)), (0, v6)] μ).bind fun q1 => ((C 31 [(0, v6), (0, v4), (0, v5)] q1.2).bind fun q2 => ((C 39 [(2, ((o2 : Nat) : Int)), (0, q2.1)] q2.2).bind fun q3 => ((C 78 [(2, ((o2 : Nat) : Int)), (0, q1.1), (0, q3.1)] q3.2).bind fun q4 => (bif !decide (q4.1 = 0) then (g_W_changeBySpy_107 E o1 o2 v5 v7 q4.2) else (some (0, q4.2)))))) := by
    intro C E
    rcases ho1 with rfl | rfl <;> rcases ho2 with rfl | rfl <;> (rfl)
  exact key _ _
set_option maxRecDepth 100000 in
theorem e_W_changeBySpy_107 (z : zZ) (d : Nat) (o1 : Nat) (o2 : Nat) (v5 : Int) (v7 : Int) (μ : Mu) (ho1 : o1 = 4 ∨ o1 = 13) (ho2 : o2 = 4 ∨ o2 = 13) : f_W_changeBySpy_107 z d o1 o2 v5 v7 μ = gI (zw (0 + v5)) 36 (gI (zw (0 + v5)) 36 ((mC z d 42 [(2, ((o2 : Nat) : Int)), (0, 12), (0, v7), (0, 1)] (zup μ (o1 + 3) ((zw (0 + v5)).toNat) (zw ((μ (o1 + 3) ((zw (0 + v5)).toNat)) - 1)))).bind fun q1 => (some (1, q1.2)))) := by
  show mE z d q_W_changeBySpy 107 [(9, 0), (2, ((o1 : Nat) : Int)), (2, ((o2 : Nat) : Int)), (9, 0), (9, 0), (0, v5), (9, 0), (0, v7)] [] μ = _
  rw [mE_bk (M := q_W_changeBySpy) k_W_changeBySpy.1 k_W_changeBySpy.2 [77, 79, 107] 400]
  have key : ∀ (C : Nat → List zv → Mu → mR) (E : Nat → List zv → List zv → Mu → mR), mbk C E q_W_changeBySpy.1 q_W_changeBySpy.2.1 z q_W_changeBySpy.2.2.2 [77, 79, 107] 400 (zfind q_W_changeBySpy.2.2.2 107) [(9, 0), (2, ((o1 : Nat) : Int)), (2, ((o2 : Nat) : Int)), (9, 0), (9, 0), (0, v5), (9, 0), (0, v7)] [] μ = gI (zw (0 + v5)) 36 (gI (zw (0 + v5)) 36 ((C 42 [(2, ((o2 : Nat) : Int)), (0, 12), (0, v7), (0, 1)] (zup μ (o1 + 3) ((zw (0 + v5)).toNat) (zw ((μ (o1 + 3) ((zw (0 + v5)).toNat)) - 1)))).bind fun q1 => (some (1, q1.2)))) := by
    intro C E
    rcases ho1 with rfl | rfl <;> rcases ho2 with rfl | rfl <;> (rfl)
  exact key _ _
def g_W_judged_13 (E : Nat → List zv → List zv → Mu → mR) (v1 : Int) (μ : Mu) : mR := E 13 [(2, 0), (0, v1), (9, 0), (9, 0), (9, 0), (9, 0)] [] μ
noncomputable def f_W_judged_13 (z : zZ) (d : Nat) (v1 : Int) (μ : Mu) : mR := g_W_judged_13 (fun pc ls st μ => mE z d q_W_judged pc ls st μ) v1 μ
def g_W_judged_52 (E : Nat → List zv → List zv → Mu → mR) (v1 : Int) (v4 : Int) (v5 : Int) (μ : Mu) : mR := E 52 [(2, 0), (0, v1), (9, 0), (9, 0), (0, v4), (0, v5)] [] μ
noncomputable def f_W_judged_52 (z : zZ) (d : Nat) (v1 : Int) (v4 : Int) (v5 : Int) (μ : Mu) : mR := g_W_judged_52 (fun pc ls st μ => mE z d q_W_judged pc ls st μ) v1 v4 v5 μ
def g_W_judged_80 (E : Nat → List zv → List zv → Mu → mR) (v4 : Int) (v5 : Int) (μ : Mu) : mR := E 80 [(2, 0), (9, 0), (9, 0), (9, 0), (0, v4), (0, v5)] [] μ
noncomputable def f_W_judged_80 (z : zZ) (d : Nat) (v4 : Int) (v5 : Int) (μ : Mu) : mR := g_W_judged_80 (fun pc ls st μ => mE z d q_W_judged pc ls st μ) v4 v5 μ
theorem k_W_judged : zprK q_W_judged.2.2.2 = true ∧ zinc q_W_judged.2.2.2 = true := by decide +kernel
set_option maxRecDepth 100000 in
theorem c_W_judged (z : zZ) (d : Nat) (v1 : Int) (v2 : Int) (μ : Mu) : mC z (d + 1) 96 [(2, 0), (0, v1), (0, v2)] μ = (mC z d 64 [(2, 0), (0, v1), (0, v2)] μ).bind fun q1 => (bif decide (q1.1 = 0) then (f_W_judged_13 z d v1 q1.2) else (some (q1.1, q1.2))) := by
  rw [mC_succ q_W_judged rfl rfl rfl]
  rw [mE_bk (M := q_W_judged) k_W_judged.1 k_W_judged.2 [13, 52, 80] 400]
  have key : ∀ (C : Nat → List zv → Mu → mR) (E : Nat → List zv → List zv → Mu → mR), mbk C E q_W_judged.1 q_W_judged.2.1 z q_W_judged.2.2.2 [13, 52, 80] 400 (zfind q_W_judged.2.2.2 0) (zentry q_W_judged.2.2.1 [(2, 0), (0, v1), (0, v2)]) [] μ = (C 64 [(2, 0), (0, v1), (0, v2)] μ).bind fun q1 => (bif decide (q1.1 = 0) then (g_W_judged_13 E v1 q1.2) else (some (q1.1, q1.2))) := by
    intro C E
    rfl
  exact key _ _
set_option maxRecDepth 100000 in
theorem e_W_judged_13 (z : zZ) (d : Nat) (v1 : Int) (μ : Mu) : f_W_judged_13 z d v1 μ = (mC z d 35 [(2, 4), (2, 80)] μ).bind fun q1 => ((mC z d 35 [(2, 13), (2, 83)] q1.2).bind fun q2 => (f_W_judged_52 z d v1 (μ 0 19) 0 q2.2)) := by
  show mE z d q_W_judged 13 [(2, 0), (0, v1), (9, 0), (9, 0), (9, 0), (9, 0)] [] μ = _
  rw [mE_bk (M := q_W_judged) k_W_judged.1 k_W_judged.2 [13, 52, 80] 400]
  have key : ∀ (C : Nat → List zv → Mu → mR) (E : Nat → List zv → List zv → Mu → mR), mbk C E q_W_judged.1 q_W_judged.2.1 z q_W_judged.2.2.2 [13, 52, 80] 400 (zfind q_W_judged.2.2.2 13) [(2, 0), (0, v1), (9, 0), (9, 0), (9, 0), (9, 0)] [] μ = (C 35 [(2, 4), (2, 80)] μ).bind fun q1 => ((C 35 [(2, 13), (2, 83)] q1.2).bind fun q2 => (g_W_judged_52 E v1 (μ 0 19) 0 q2.2)) := by
    intro C E
    rfl
  exact key _ _
set_option maxRecDepth 100000 in
theorem e_W_judged_52 (z : zZ) (d : Nat) (v1 : Int) (v4 : Int) (v5 : Int) (μ : Mu) : f_W_judged_52 z d v1 v4 v5 μ = bif decide (μ 36 3 ≤ v5) then (f_W_judged_80 z d v4 v5 μ) else ((mC z d 70 [(2, 0), (0, v1), (0, v5)] μ).bind fun q1 => (bif decide (q1.1 = 0) then (f_W_judged_80 z d v4 v5 q1.2) else (f_W_judged_52 z d v1 v4 (zw (v5 + 1)) q1.2))) := by
  show mE z d q_W_judged 52 [(2, 0), (0, v1), (9, 0), (9, 0), (0, v4), (0, v5)] [] μ = _
  rw [mE_bk (M := q_W_judged) k_W_judged.1 k_W_judged.2 [13, 52, 80] 400]
  have key : ∀ (C : Nat → List zv → Mu → mR) (E : Nat → List zv → List zv → Mu → mR), mbk C E q_W_judged.1 q_W_judged.2.1 z q_W_judged.2.2.2 [13, 52, 80] 400 (zfind q_W_judged.2.2.2 52) [(2, 0), (0, v1), (9, 0), (9, 0), (0, v4), (0, v5)] [] μ = bif decide (μ 36 3 ≤ v5) then (g_W_judged_80 E v4 v5 μ) else ((C 70 [(2, 0), (0, v1), (0, v5)] μ).bind fun q1 => (bif decide (q1.1 = 0) then (g_W_judged_80 E v4 v5 q1.2) else (g_W_judged_52 E v1 v4 (zw (v5 + 1)) q1.2))) := by
    intro C E
    rfl
  exact key _ _
set_option maxRecDepth 100000 in
theorem e_W_judged_80 (z : zZ) (d : Nat) (v4 : Int) (v5 : Int) (μ : Mu) : f_W_judged_80 z d v4 v5 μ = (mC z d 38 [(2, 4), (2, 80)] μ).bind fun q1 => ((mC z d 38 [(2, 13), (2, 83)] q1.2).bind fun q2 => (some (v5, zup q2.2 0 19 v4))) := by
  show mE z d q_W_judged 80 [(2, 0), (9, 0), (9, 0), (9, 0), (0, v4), (0, v5)] [] μ = _
  rw [mE_bk (M := q_W_judged) k_W_judged.1 k_W_judged.2 [13, 52, 80] 400]
  have key : ∀ (C : Nat → List zv → Mu → mR) (E : Nat → List zv → List zv → Mu → mR), mbk C E q_W_judged.1 q_W_judged.2.1 z q_W_judged.2.2.2 [13, 52, 80] 400 (zfind q_W_judged.2.2.2 80) [(2, 0), (9, 0), (9, 0), (9, 0), (0, v4), (0, v5)] [] μ = (C 38 [(2, 4), (2, 80)] μ).bind fun q1 => ((C 38 [(2, 13), (2, 83)] q1.2).bind fun q2 => (some (v5, zup q2.2 0 19 v4))) := by
    intro C E
    rfl
  exact key _ _
def g_W_turn_4 (E : Nat → List zv → List zv → Mu → mR) (v1 : Int) (v2 : Int) (μ : Mu) : mR := E 4 [(2, 0), (0, v1), (0, v2), (9, 0)] [] μ
noncomputable def f_W_turn_4 (z : zZ) (d : Nat) (v1 : Int) (v2 : Int) (μ : Mu) : mR := g_W_turn_4 (fun pc ls st μ => mE z d q_W_turn pc ls st μ) v1 v2 μ
def g_W_turn_11 (E : Nat → List zv → List zv → Mu → mR) (v1 : Int) (v2 : Int) (v3 : Int) (μ : Mu) : mR := E 11 [(2, 0), (0, v1), (0, v2), (0, v3)] [] μ
noncomputable def f_W_turn_11 (z : zZ) (d : Nat) (v1 : Int) (v2 : Int) (v3 : Int) (μ : Mu) : mR := g_W_turn_11 (fun pc ls st μ => mE z d q_W_turn pc ls st μ) v1 v2 v3 μ
def g_W_turn_60 (E : Nat → List zv → List zv → Mu → mR) (v1 : Int) (v2 : Int) (v3 : Int) (μ : Mu) : mR := E 60 [(2, 0), (0, v1), (0, v2), (0, v3)] [] μ
noncomputable def f_W_turn_60 (z : zZ) (d : Nat) (v1 : Int) (v2 : Int) (v3 : Int) (μ : Mu) : mR := g_W_turn_60 (fun pc ls st μ => mE z d q_W_turn pc ls st μ) v1 v2 v3 μ
def g_W_turn_66 (E : Nat → List zv → List zv → Mu → mR) (v1 : Int) (v2 : Int) (μ : Mu) : mR := E 66 [(2, 0), (0, v1), (0, v2), (9, 0)] [] μ
noncomputable def f_W_turn_66 (z : zZ) (d : Nat) (v1 : Int) (v2 : Int) (μ : Mu) : mR := g_W_turn_66 (fun pc ls st μ => mE z d q_W_turn pc ls st μ) v1 v2 μ
def g_W_turn_72 (E : Nat → List zv → List zv → Mu → mR) (v1 : Int) (μ : Mu) : mR := E 72 [(2, 0), (0, v1), (9, 0), (9, 0)] [] μ
noncomputable def f_W_turn_72 (z : zZ) (d : Nat) (v1 : Int) (μ : Mu) : mR := g_W_turn_72 (fun pc ls st μ => mE z d q_W_turn pc ls st μ) v1 μ
theorem k_W_turn : zprK q_W_turn.2.2.2 = true ∧ zinc q_W_turn.2.2.2 = true := by decide +kernel
set_option maxRecDepth 100000 in
theorem c_W_turn (z : zZ) (d : Nat) (μ : Mu) : mC z (d + 1) 97 [(2, 0)] μ = f_W_turn_4 z d 0 0 μ := by
  rw [mC_succ q_W_turn rfl rfl rfl]
  rw [mE_bk (M := q_W_turn) k_W_turn.1 k_W_turn.2 [4, 11, 60, 66, 72] 400]
  have key : ∀ (C : Nat → List zv → Mu → mR) (E : Nat → List zv → List zv → Mu → mR), mbk C E q_W_turn.1 q_W_turn.2.1 z q_W_turn.2.2.2 [4, 11, 60, 66, 72] 400 (zfind q_W_turn.2.2.2 0) (zentry q_W_turn.2.2.1 [(2, 0)]) [] μ = g_W_turn_4 E 0 0 μ := by
    intro C E
    rfl
  exact key _ _
set_option maxRecDepth 100000 in
theorem e_W_turn_4 (z : zZ) (d : Nat) (v1 : Int) (v2 : Int) (μ : Mu) : f_W_turn_4 z d v1 v2 μ = bif decide (2 ≤ v2) then (f_W_turn_72 z d v1 μ) else (f_W_turn_11 z d v1 v2 0 μ) := by
  show mE z d q_W_turn 4 [(2, 0), (0, v1), (0, v2), (9, 0)] [] μ = _
  rw [mE_bk (M := q_W_turn) k_W_turn.1 k_W_turn.2 [4, 11, 60, 66, 72] 400]
  have key : ∀ (C : Nat → List zv → Mu → mR) (E : Nat → List zv → List zv → Mu → mR), mbk C E q_W_turn.1 q_W_turn.2.1 z q_W_turn.2.2.2 [4, 11, 60, 66, 72] 400 (zfind q_W_turn.2.2.2 4) [(2, 0), (0, v1), (0, v2), (9, 0)] [] μ = bif decide (2 ≤ v2) then (g_W_turn_72 E v1 μ) else (g_W_turn_11 E v1 v2 0 μ) := by
    intro C E
    rfl
  exact key _ _
set_option maxRecDepth 100000 in
theorem e_W_turn_72 (z : zZ) (d : Nat) (v1 : Int) (μ : Mu) : f_W_turn_72 z d v1 μ = some (v1, zup μ 0 18 (zw ((μ 0 18) + 1))) := by
  show mE z d q_W_turn 72 [(2, 0), (0, v1), (9, 0), (9, 0)] [] μ = _
  rw [mE_bk (M := q_W_turn) k_W_turn.1 k_W_turn.2 [4, 11, 60, 66, 72] 400]
  have key : ∀ (C : Nat → List zv → Mu → mR) (E : Nat → List zv → List zv → Mu → mR), mbk C E q_W_turn.1 q_W_turn.2.1 z q_W_turn.2.2.2 [4, 11, 60, 66, 72] 400 (zfind q_W_turn.2.2.2 72) [(2, 0), (0, v1), (9, 0), (9, 0)] [] μ = some (v1, zup μ 0 18 (zw ((μ 0 18) + 1))) := by
    intro C E
    rfl
  exact key _ _
set_option maxRecDepth 100000 in
theorem e_W_turn_11 (z : zZ) (d : Nat) (v1 : Int) (v2 : Int) (v3 : Int) (μ : Mu) (hv2 : v2 = 0 ∨ v2 = 1) : f_W_turn_11 z d v1 v2 v3 μ = bif decide (12 ≤ v3) then (f_W_turn_66 z d v1 v2 μ) else ((mC z d 98 [(2, 0), (0, v2), (0, v3)] μ).bind fun q1 => (bif decide (q1.1 = 0) then (f_W_turn_60 z d v1 v2 v3 q1.2) else (gI (zw (0 + v3)) 36 (gI (zw (0 + v3)) 36 ((mC z d 42 [(2, (((4 + 9 * (zw (1 - v2)).toNat) : Nat) : Int)), (0, 0), (0, v3), (0, 1)] (zup q1.2 ((4 + 9 * v2.toNat) + 3) ((zw (0 + v3)).toNat) (zw ((q1.2 ((4 + 9 * v2.toNat) + 3) ((zw (0 + v3)).toNat)) - 1)))).bind fun q2 => (f_W_turn_60 z d (zw (v1 + 1)) v2 v3 q2.2)))))) := by
  show mE z d q_W_turn 11 [(2, 0), (0, v1), (0, v2), (0, v3)] [] μ = _
  rw [mE_bk (M := q_W_turn) k_W_turn.1 k_W_turn.2 [4, 11, 60, 66, 72] 400]
  have key : ∀ (C : Nat → List zv → Mu → mR) (E : Nat → List zv → List zv → Mu → mR), mbk C E q_W_turn.1 q_W_turn.2.1 z q_W_turn.2.2.2 [4, 11, 60, 66, 72] 400 (zfind q_W_turn.2.2.2 11) [(2, 0), (0, v1), (0, v2), (0, v3)] [] μ = bif decide (12 ≤ v3) then (g_W_turn_66 E v1 v2 μ) else ((C 98 [(2, 0), (0, v2), (0, v3)] μ).bind fun q1 => (bif decide (q1.1 = 0) then (g_W_turn_60 E v1 v2 v3 q1.2) else (gI (zw (0 + v3)) 36 (gI (zw (0 + v3)) 36 ((C 42 [(2, (((4 + 9 * (zw (1 - v2)).toNat) : Nat) : Int)), (0, 0), (0, v3), (0, 1)] (zup q1.2 ((4 + 9 * v2.toNat) + 3) ((zw (0 + v3)).toNat) (zw ((q1.2 ((4 + 9 * v2.toNat) + 3) ((zw (0 + v3)).toNat)) - 1)))).bind fun q2 => (g_W_turn_60 E (zw (v1 + 1)) v2 v3 q2.2)))))) := by
    intro C E
    rcases hv2 with rfl | rfl <;> (rfl)
  exact key _ _
set_option maxRecDepth 100000 in
theorem e_W_turn_66 (z : zZ) (d : Nat) (v1 : Int) (v2 : Int) (μ : Mu) : f_W_turn_66 z d v1 v2 μ = f_W_turn_4 z d v1 (zw (v2 + 1)) μ := by
  show mE z d q_W_turn 66 [(2, 0), (0, v1), (0, v2), (9, 0)] [] μ = _
  rw [mE_bk (M := q_W_turn) k_W_turn.1 k_W_turn.2 [4, 11, 60, 66, 72] 400]
  have key : ∀ (C : Nat → List zv → Mu → mR) (E : Nat → List zv → List zv → Mu → mR), mbk C E q_W_turn.1 q_W_turn.2.1 z q_W_turn.2.2.2 [4, 11, 60, 66, 72] 400 (zfind q_W_turn.2.2.2 66) [(2, 0), (0, v1), (0, v2), (9, 0)] [] μ = g_W_turn_4 E v1 (zw (v2 + 1)) μ := by
    intro C E
    rfl
  exact key _ _
set_option maxRecDepth 100000 in
theorem e_W_turn_60 (z : zZ) (d : Nat) (v1 : Int) (v2 : Int) (v3 : Int) (μ : Mu) : f_W_turn_60 z d v1 v2 v3 μ = f_W_turn_11 z d v1 v2 (zw (v3 + 1)) μ := by
  show mE z d q_W_turn 60 [(2, 0), (0, v1), (0, v2), (0, v3)] [] μ = _
  rw [mE_bk (M := q_W_turn) k_W_turn.1 k_W_turn.2 [4, 11, 60, 66, 72] 400]
  have key : ∀ (C : Nat → List zv → Mu → mR) (E : Nat → List zv → List zv → Mu → mR), mbk C E q_W_turn.1 q_W_turn.2.1 z q_W_turn.2.2.2 [4, 11, 60, 66, 72] 400 (zfind q_W_turn.2.2.2 60) [(2, 0), (0, v1), (0, v2), (0, v3)] [] μ = g_W_turn_11 E v1 v2 (zw (v3 + 1)) μ := by
    intro C E
    rfl
  exact key _ _
def g_W_deserts_25 (E : Nat → List zv → List zv → Mu → mR) (v1 : Int) (v2 : Int) (v3 : Int) (v4 : Int) (μ : Mu) : mR := E 25 [(2, 0), (0, v1), (0, v2), (0, v3), (0, v4)] [] μ
noncomputable def f_W_deserts_25 (z : zZ) (d : Nat) (v1 : Int) (v2 : Int) (v3 : Int) (v4 : Int) (μ : Mu) : mR := g_W_deserts_25 (fun pc ls st μ => mE z d q_W_deserts pc ls st μ) v1 v2 v3 v4 μ
def g_W_deserts_68 (E : Nat → List zv → List zv → Mu → mR) (μ : Mu) : mR := E 68 [(9, 0), (9, 0), (9, 0), (9, 0), (9, 0)] [] μ
noncomputable def f_W_deserts_68 (z : zZ) (d : Nat) (μ : Mu) : mR := g_W_deserts_68 (fun pc ls st μ => mE z d q_W_deserts pc ls st μ) μ
def g_W_deserts_69 (E : Nat → List zv → List zv → Mu → mR) (v100 : Int) (μ : Mu) : mR := E 69 [(9, 0), (9, 0), (9, 0), (9, 0), (9, 0)] [(0, v100)] μ
noncomputable def f_W_deserts_69 (z : zZ) (d : Nat) (v100 : Int) (μ : Mu) : mR := g_W_deserts_69 (fun pc ls st μ => mE z d q_W_deserts pc ls st μ) v100 μ
theorem k_W_deserts : zprK q_W_deserts.2.2.2 = true ∧ zinc q_W_deserts.2.2.2 = true := by decide +kernel
set_option maxRecDepth 100000 in
theorem c_W_deserts (z : zZ) (d : Nat) (v1 : Int) (v2 : Int) (μ : Mu) (hv1 : v1 = 0 ∨ v1 = 1) : mC z (d + 1) 98 [(2, 0), (0, v1), (0, v2)] μ = (mC z d 85 [(2, 0)] μ).bind fun q1 => (gI (zw (0 + v2)) 36 ((mC z d 82 [(2, 0), (0, v1)] q1.2).bind fun q2 => (f_W_deserts_25 z d v1 v2 q1.1 (q1.2 ((4 + 9 * v1.toNat) + 3) ((zw (0 + v2)).toNat)) q2.2))) := by
  rw [mC_succ q_W_deserts rfl rfl rfl]
  rw [mE_bk (M := q_W_deserts) k_W_deserts.1 k_W_deserts.2 [25, 68, 69] 400]
  have key : ∀ (C : Nat → List zv → Mu → mR) (E : Nat → List zv → List zv → Mu → mR), mbk C E q_W_deserts.1 q_W_deserts.2.1 z q_W_deserts.2.2.2 [25, 68, 69] 400 (zfind q_W_deserts.2.2.2 0) (zentry q_W_deserts.2.2.1 [(2, 0), (0, v1), (0, v2)]) [] μ = (C 85 [(2, 0)] μ).bind fun q1 => (gI (zw (0 + v2)) 36 ((C 82 [(2, 0), (0, v1)] q1.2).bind fun q2 => (g_W_deserts_25 E v1 v2 q1.1 (q1.2 ((4 + 9 * v1.toNat) + 3) ((zw (0 + v2)).toNat)) q2.2))) := by
    intro C E
    rcases hv1 with rfl | rfl <;> (rfl)
  exact key _ _
set_option maxRecDepth 100000 in
theorem e_W_deserts_25 (z : zZ) (d : Nat) (v1 : Int) (v2 : Int) (v3 : Int) (v4 : Int) (μ : Mu) (m0_6 : Nat) (hcm0_6 : m0_6 = 41 ∨ m0_6 = 47) (hm0_6 : μ 0 6 = ((m0_6 : Nat) : Int) + 1) : f_W_deserts_25 z d v1 v2 v3 v4 μ = (mC z d 86 [(2, ((m0_6 : Nat) : Int)), (0, 100), (2, 53)] (zup (zup μ 53 7 v2) 53 8 v4)).bind fun q1 => (bif decide (q1.1 ≤ v3) then (f_W_deserts_68 z d q1.2) else (bif decide (v4 ≤ 0) then (f_W_deserts_68 z d q1.2) else (f_W_deserts_69 z d 1 q1.2))) := by
  show mE z d q_W_deserts 25 [(2, 0), (0, v1), (0, v2), (0, v3), (0, v4)] [] μ = _
  rw [mE_bk (M := q_W_deserts) k_W_deserts.1 k_W_deserts.2 [25, 68, 69] 400]
  have key : ∀ (C : Nat → List zv → Mu → mR) (E : Nat → List zv → List zv → Mu → mR), mbk C E q_W_deserts.1 q_W_deserts.2.1 z q_W_deserts.2.2.2 [25, 68, 69] 400 (zfind q_W_deserts.2.2.2 25) [(2, 0), (0, v1), (0, v2), (0, v3), (0, v4)] [] μ = (C 86 [(2, ((m0_6 : Nat) : Int)), (0, 100), (2, 53)] (zup (zup μ 53 7 v2) 53 8 v4)).bind fun q1 => (bif decide (q1.1 ≤ v3) then (g_W_deserts_68 E q1.2) else (bif decide (v4 ≤ 0) then (g_W_deserts_68 E q1.2) else (g_W_deserts_69 E 1 q1.2))) := by
    intro C E
    rcases hcm0_6 with rfl | rfl <;> (rw [← zup_self hm0_6]; rfl)
  exact key _ _
set_option maxRecDepth 100000 in
theorem e_W_deserts_68 (z : zZ) (d : Nat) (μ : Mu) : f_W_deserts_68 z d μ = f_W_deserts_69 z d 0 μ := by
  show mE z d q_W_deserts 68 [(9, 0), (9, 0), (9, 0), (9, 0), (9, 0)] [] μ = _
  rw [mE_bk (M := q_W_deserts) k_W_deserts.1 k_W_deserts.2 [25, 68, 69] 400]
  have key : ∀ (C : Nat → List zv → Mu → mR) (E : Nat → List zv → List zv → Mu → mR), mbk C E q_W_deserts.1 q_W_deserts.2.1 z q_W_deserts.2.2.2 [25, 68, 69] 400 (zfind q_W_deserts.2.2.2 68) [(9, 0), (9, 0), (9, 0), (9, 0), (9, 0)] [] μ = g_W_deserts_69 E 0 μ := by
    intro C E
    rfl
  exact key _ _
set_option maxRecDepth 100000 in
theorem e_W_deserts_69 (z : zZ) (d : Nat) (v100 : Int) (μ : Mu) : f_W_deserts_69 z d v100 μ = g01 v100 (some (v100, μ)) := by
  show mE z d q_W_deserts 69 [(9, 0), (9, 0), (9, 0), (9, 0), (9, 0)] [(0, v100)] μ = _
  rw [mE_bk (M := q_W_deserts) k_W_deserts.1 k_W_deserts.2 [25, 68, 69] 400]
  have key : ∀ (C : Nat → List zv → Mu → mR) (E : Nat → List zv → List zv → Mu → mR), mbk C E q_W_deserts.1 q_W_deserts.2.1 z q_W_deserts.2.2.2 [25, 68, 69] 400 (zfind q_W_deserts.2.2.2 69) [(9, 0), (9, 0), (9, 0), (9, 0), (9, 0)] [(0, v100)] μ = g01 v100 (some (v100, μ)) := by
    intro C E
    rfl
  exact key _ _
