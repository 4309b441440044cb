def g_W_doAct_22 (E : Nat → List zv → List zv → Mu → mR) (μ : Mu) : mR := E 22 [(9, 0), (9, 0), (9, 0), (9, 0), (9, 0), (9, 0)] [] μ
noncomputable def f_W_doAct_22 (z : zZ) (d : Nat) (μ : Mu) : mR := g_W_doAct_22 (fun pc ls st μ => mE z d q_W_doAct pc ls st μ) μ
def g_W_doAct_24 (E : Nat → List zv → List zv → Mu → mR) (v1 : Int) (v2 : Int) (μ : Mu) : mR := E 24 [(2, 0), (0, v1), (0, v2), (9, 0), (9, 0), (9, 0)] [] μ
noncomputable def f_W_doAct_24 (z : zZ) (d : Nat) (v1 : Int) (v2 : Int) (μ : Mu) : mR := g_W_doAct_24 (fun pc ls st μ => mE z d q_W_doAct pc ls st μ) v1 v2 μ
def g_W_doAct_108 (E : Nat → List zv → List zv → Mu → mR) (o3 : Nat) (v5 : Int) (μ : Mu) : mR := E 108 [(9, 0), (9, 0), (9, 0), (2, ((o3 : Nat) : Int)), (9, 0), (0, v5)] [] μ
noncomputable def f_W_doAct_108 (z : zZ) (d : Nat) (o3 : Nat) (v5 : Int) (μ : Mu) : mR := g_W_doAct_108 (fun pc ls st μ => mE z d q_W_doAct pc ls st μ) o3 v5 μ
def g_W_doAct_115 (E : Nat → List zv → List zv → Mu → mR) (o3 : Nat) (v5 : Int) (μ : Mu) : mR := E 115 [(9, 0), (9, 0), (9, 0), (2, ((o3 : Nat) : Int)), (9, 0), (0, v5)] [] μ
noncomputable def f_W_doAct_115 (z : zZ) (d : Nat) (o3 : Nat) (v5 : Int) (μ : Mu) : mR := g_W_doAct_115 (fun pc ls st μ => mE z d q_W_doAct pc ls st μ) o3 v5 μ
def g_W_doAct_122 (E : Nat → List zv → List zv → Mu → mR) (v2 : Int) (o3 : Nat) (v5 : Int) (μ : Mu) : mR := E 122 [(2, 0), (9, 0), (0, v2), (2, ((o3 : Nat) : Int)), (9, 0), (0, v5)] [] μ
noncomputable def f_W_doAct_122 (z : zZ) (d : Nat) (v2 : Int) (o3 : Nat) (v5 : Int) (μ : Mu) : mR := g_W_doAct_122 (fun pc ls st μ => mE z d q_W_doAct pc ls st μ) v2 o3 v5 μ
def g_W_doAct_145 (E : Nat → List zv → List zv → Mu → mR) (v1 : Int) (v2 : Int) (o4 : Nat) (v5 : Int) (μ : Mu) : mR := E 145 [(2, 0), (0, v1), (0, v2), (9, 0), (2, ((o4 : Nat) : Int)), (0, v5)] [] μ
noncomputable def f_W_doAct_145 (z : zZ) (d : Nat) (v1 : Int) (v2 : Int) (o4 : Nat) (v5 : Int) (μ : Mu) : mR := g_W_doAct_145 (fun pc ls st μ => mE z d q_W_doAct pc ls st μ) v1 v2 o4 v5 μ
def g_W_doAct_167 (E : Nat → List zv → List zv → Mu → mR) (v2 : Int) (o3 : Nat) (o4 : Nat) (μ : Mu) : mR := E 167 [(2, 0), (9, 0), (0, v2), (2, ((o3 : Nat) : Int)), (2, ((o4 : Nat) : Int)), (9, 0)] [] μ
noncomputable def f_W_doAct_167 (z : zZ) (d : Nat) (v2 : Int) (o3 : Nat) (o4 : Nat) (μ : Mu) : mR := g_W_doAct_167 (fun pc ls st μ => mE z d q_W_doAct pc ls st μ) v2 o3 o4 μ
theorem k_W_doAct : zprK q_W_doAct.2.2.2 = true ∧ zinc q_W_doAct.2.2.2 = true := by decide +kernel
set_option maxRecDepth 100000 in
theorem c_W_doAct (z : zZ) (d : Nat) (v1 : Int) (v2 : Int) (μ : Mu) : mC z (d + 1) 70 [(2, 0), (0, v1), (0, v2)] μ = (mC z d 15 [(0, v1)] μ).bind fun q1 => (bif decide (q1.1 = 0) then (f_W_doAct_22 z d q1.2) else (bif decide (v2 < 0) then (f_W_doAct_22 z d q1.2) else (bif decide (v2 < q1.2 36 3) then (f_W_doAct_24 z d v1 v2 q1.2) else (f_W_doAct_22 z d q1.2)))) := by
  rw [mC_succ q_W_doAct rfl rfl rfl]
  rw [mE_bk (M := q_W_doAct) k_W_doAct.1 k_W_doAct.2 [22, 24, 108, 115, 122, 145, 167] 400]
  have key : ∀ (C : Nat → List zv → Mu → mR) (E : Nat → List zv → List zv → Mu → mR), mbk C E q_W_doAct.1 q_W_doAct.2.1 z q_W_doAct.2.2.2 [22, 24, 108, 115, 122, 145, 167] 400 (zfind q_W_doAct.2.2.2 0) (zentry q_W_doAct.2.2.1 [(2, 0), (0, v1), (0, v2)]) [] μ = (C 15 [(0, v1)] μ).bind fun q1 => (bif decide (q1.1 = 0) then (g_W_doAct_22 E q1.2) else (bif decide (v2 < 0) then (g_W_doAct_22 E q1.2) else (bif decide (v2 < q1.2 36 3) then (g_W_doAct_24 E v1 v2 q1.2) else (g_W_doAct_22 E q1.2)))) := by
    intro C E
    rfl
  exact key _ _
set_option maxRecDepth 100000 in
theorem e_W_doAct_22 (z : zZ) (d : Nat) (μ : Mu) : f_W_doAct_22 z d μ = some (0, μ) := by
  show mE z d q_W_doAct 22 [(9, 0), (9, 0), (9, 0), (9, 0), (9, 0), (9, 0)] [] μ = _
  rw [mE_bk (M := q_W_doAct) k_W_doAct.1 k_W_doAct.2 [22, 24, 108, 115, 122, 145, 167] 400]
  have key : ∀ (C : Nat → List zv → Mu → mR) (E : Nat → List zv → List zv → Mu → mR), mbk C E q_W_doAct.1 q_W_doAct.2.1 z q_W_doAct.2.2.2 [22, 24, 108, 115, 122, 145, 167] 400 (zfind q_W_doAct.2.2.2 22) [(9, 0), (9, 0), (9, 0), (9, 0), (9, 0), (9, 0)] [] μ = some (0, μ) := by
    intro C E
    rfl
  exact key _ _
set_option maxRecDepth 100000 in
theorem e_W_doAct_24 (z : zZ) (d : Nat) (v1 : Int) (v2 : Int) (μ : Mu) (hv1 : v1 = 0 ∨ v1 = 1) : f_W_doAct_24 z d v1 v2 μ = gI v2 12 ((mC z d 39 [(2, (((4 + 9 * v1.toNat) : Nat) : Int)), (0, μ 38 v2.toNat)] μ).bind fun q1 => (gI v2 12 (bif decide (q1.2 37 v2.toNat = 43) then (f_W_doAct_108 z d (4 + 9 * v1.toNat) q1.1 q1.2) else bif decide (q1.2 37 v2.toNat = 45) then (f_W_doAct_115 z d (4 + 9 * v1.toNat) q1.1 q1.2) else bif decide (q1.2 37 v2.toNat = 62) then (f_W_doAct_145 z d v1 v2 (4 + 9 * (zw (1 - v1)).toNat) q1.1 q1.2) else bif decide (q1.2 37 v2.toNat = 126) then (f_W_doAct_122 z d v2 (4 + 9 * v1.toNat) q1.1 q1.2) else (f_W_doAct_167 z d v2 (4 + 9 * v1.toNat) (4 + 9 * (zw (1 - v1)).toNat) q1.2)))) := by
  show mE z d q_W_doAct 24 [(2, 0), (0, v1), (0, v2), (9, 0), (9, 0), (9, 0)] [] μ = _
  rw [mE_bk (M := q_W_doAct) k_W_doAct.1 k_W_doAct.2 [22, 24, 108, 115, 122, 145, 167] 400]
  have key : ∀ (C : Nat → List zv → Mu → mR) (E : Nat → List zv → List zv → Mu → mR), mbk C E q_W_doAct.1 q_W_doAct.2.1 z q_W_doAct.2.2.2 [22, 24, 108, 115, 122, 145, 167] 400 (zfind q_W_doAct.2.2.2 24) [(2, 0), (0, v1), (0, v2), (9, 0), (9, 0), (9, 0)] [] μ = gI v2 12 ((C 39 [(2, (((4 + 9 * v1.toNat) : Nat) : Int)), (0, μ 38 v2.toNat)] μ).bind fun q1 => (gI v2 12 (bif decide (q1.2 37 v2.toNat = 43) then (g_W_doAct_108 E (4 + 9 * v1.toNat) q1.1 q1.2) else bif decide (q1.2 37 v2.toNat = 45) then (g_W_doAct_115 E (4 + 9 * v1.toNat) q1.1 q1.2) else bif decide (q1.2 37 v2.toNat = 62) then (g_W_doAct_145 E v1 v2 (4 + 9 * (zw (1 - v1)).toNat) q1.1 q1.2) else bif decide (q1.2 37 v2.toNat = 126) then (g_W_doAct_122 E v2 (4 + 9 * v1.toNat) q1.1 q1.2) else (g_W_doAct_167 E v2 (4 + 9 * v1.toNat) (4 + 9 * (zw (1 - v1)).toNat) q1.2)))) := by
    intro C E
    rcases hv1 with rfl | rfl <;> (rfl)
  exact key _ _
set_option maxRecDepth 100000 in
theorem e_W_doAct_108 (z : zZ) (d : Nat) (o3 : Nat) (v5 : Int) (μ : Mu) (ho3 : o3 = 4 ∨ o3 = 13) : f_W_doAct_108 z d o3 v5 μ = (mC z d 71 [(2, ((o3 : Nat) : Int)), (0, v5)] μ).bind fun q1 => (g01 q1.1 (some (q1.1, q1.2))) := by
  show mE z d q_W_doAct 108 [(9, 0), (9, 0), (9, 0), (2, ((o3 : Nat) : Int)), (9, 0), (0, v5)] [] μ = _
  rw [mE_bk (M := q_W_doAct) k_W_doAct.1 k_W_doAct.2 [22, 24, 108, 115, 122, 145, 167] 400]
  have key : ∀ (C : Nat → List zv → Mu → mR) (E : Nat → List zv → List zv → Mu → mR), mbk C E q_W_doAct.1 q_W_doAct.2.1 z q_W_doAct.2.2.2 [22, 24, 108, 115, 122, 145, 167] 400 (zfind q_W_doAct.2.2.2 108) [(9, 0), (9, 0), (9, 0), (2, ((o3 : Nat) : Int)), (9, 0), (0, v5)] [] μ = (C 71 [(2, ((o3 : Nat) : Int)), (0, v5)] μ).bind fun q1 => (g01 q1.1 (some (q1.1, q1.2))) := by
    intro C E
    rcases ho3 with rfl | rfl <;> (rfl)
  exact key _ _
set_option maxRecDepth 100000 in
theorem e_W_doAct_115 (z : zZ) (d : Nat) (o3 : Nat) (v5 : Int) (μ : Mu) (ho3 : o3 = 4 ∨ o3 = 13) : f_W_doAct_115 z d o3 v5 μ = (mC z d 76 [(2, ((o3 : Nat) : Int)), (0, v5)] μ).bind fun q1 => (g01 q1.1 (some (q1.1, q1.2))) := by
  show mE z d q_W_doAct 115 [(9, 0), (9, 0), (9, 0), (2, ((o3 : Nat) : Int)), (9, 0), (0, v5)] [] μ = _
  rw [mE_bk (M := q_W_doAct) k_W_doAct.1 k_W_doAct.2 [22, 24, 108, 115, 122, 145, 167] 400]
  have key : ∀ (C : Nat → List zv → Mu → mR) (E : Nat → List zv → List zv → Mu → mR), mbk C E q_W_doAct.1 q_W_doAct.2.1 z q_W_doAct.2.2.2 [22, 24, 108, 115, 122, 145, 167] 400 (zfind q_W_doAct.2.2.2 115) [(9, 0), (9, 0), (9, 0), (2, ((o3 : Nat) : Int)), (9, 0), (0, v5)] [] μ = (C 76 [(2, ((o3 : Nat) : Int)), (0, v5)] μ).bind fun q1 => (g01 q1.1 (some (q1.1, q1.2))) := by
    intro C E
    rcases ho3 with rfl | rfl <;> (rfl)
  exact key _ _
set_option maxRecDepth 100000 in
theorem e_W_doAct_145 (z : zZ) (d : Nat) (v1 : Int) (v2 : Int) (o4 : Nat) (v5 : Int) (μ : Mu) (ho4 : o4 = 4 ∨ o4 = 13) : f_W_doAct_145 z d v1 v2 o4 v5 μ = gI v2 12 ((mC z d 39 [(2, ((o4 : Nat) : Int)), (0, μ 39 v2.toNat)] μ).bind fun q1 => ((mC z d 79 [(2, 0), (0, v1), (0, v5), (0, q1.1)] q1.2).bind fun q2 => (g01 q2.1 (some (q2.1, q2.2))))) := by
  show mE z d q_W_doAct 145 [(2, 0), (0, v1), (0, v2), (9, 0), (2, ((o4 : Nat) : Int)), (0, v5)] [] μ = _
  rw [mE_bk (M := q_W_doAct) k_W_doAct.1 k_W_doAct.2 [22, 24, 108, 115, 122, 145, 167] 400]
  have key : ∀ (C : Nat → List zv → Mu → mR) (E : Nat → List zv → List zv → Mu → mR), mbk C E q_W_doAct.1 q_W_doAct.2.1 z q_W_doAct.2.2.2 [22, 24, 108, 115, 122, 145, 167] 400 (zfind q_W_doAct.2.2.2 145) [(2, 0), (0, v1), (0, v2), (9, 0), (2, ((o4 : Nat) : Int)), (0, v5)] [] μ = gI v2 12 ((C 39 [(2, ((o4 : Nat) : Int)), (0, μ 39 v2.toNat)] μ).bind fun q1 => ((C 79 [(2, 0), (0, v1), (0, v5), (0, q1.1)] q1.2).bind fun q2 => (g01 q2.1 (some (q2.1, q2.2))))) := by
    intro C E
    rcases ho4 with rfl | rfl <;> (rfl)
  exact key _ _
set_option maxRecDepth 100000 in
theorem e_W_doAct_122 (z : zZ) (d : Nat) (v2 : Int) (o3 : Nat) (v5 : Int) (μ : Mu) (ho3 : o3 = 4 ∨ o3 = 13) : f_W_doAct_122 z d v2 o3 v5 μ = gI v2 12 ((mC z d 77 [(0, μ 38 v2.toNat)] μ).bind fun q1 => ((mC z d 39 [(2, ((o3 : Nat) : Int)), (0, q1.1)] q1.2).bind fun q2 => ((mC z d 78 [(2, ((o3 : Nat) : Int)), (0, v5), (0, q2.1)] q2.2).bind fun q3 => (g01 q3.1 (some (q3.1, q3.2)))))) := by
  show mE z d q_W_doAct 122 [(2, 0), (9, 0), (0, v2), (2, ((o3 : Nat) : Int)), (9, 0), (0, v5)] [] μ = _
  rw [mE_bk (M := q_W_doAct) k_W_doAct.1 k_W_doAct.2 [22, 24, 108, 115, 122, 145, 167] 400]
  have key : ∀ (C : Nat → List zv → Mu → mR) (E : Nat → List zv → List zv → Mu → mR), mbk C E q_W_doAct.1 q_W_doAct.2.1 z q_W_doAct.2.2.2 [22, 24, 108, 115, 122, 145, 167] 400 (zfind q_W_doAct.2.2.2 122) [(2, 0), (9, 0), (0, v2), (2, ((o3 : Nat) : Int)), (9, 0), (0, v5)] [] μ = gI v2 12 ((C 77 [(0, μ 38 v2.toNat)] μ).bind fun q1 => ((C 39 [(2, ((o3 : Nat) : Int)), (0, q1.1)] q1.2).bind fun q2 => ((C 78 [(2, ((o3 : Nat) : Int)), (0, v5), (0, q2.1)] q2.2).bind fun q3 => (g01 q3.1 (some (q3.1, q3.2)))))) := by
    intro C E
    rcases ho3 with rfl | rfl <;> (rfl)
  exact key _ _
set_option maxRecDepth 100000 in
theorem e_W_doAct_167 (z : zZ) (d : Nat) (v2 : Int) (o3 : Nat) (o4 : Nat) (μ : Mu) (ho3 : o3 = 4 ∨ o3 = 13) (ho4 : o4 = 4 ∨ o4 = 13) : f_W_doAct_167 z d v2 o3 o4 μ = (mC z d 95 [(2, 0), (2, ((o3 : Nat) : Int)), (2, ((o4 : Nat) : Int)), (0, v2)] μ).bind fun q1 => (g01 q1.1 (some (q1.1, q1.2))) := by
  show mE z d q_W_doAct 167 [(2, 0), (9, 0), (0, v2), (2, ((o3 : Nat) : Int)), (2, ((o4 : Nat) : Int)), (9, 0)] [] μ = _
  rw [mE_bk (M := q_W_doAct) k_W_doAct.1 k_W_doAct.2 [22, 24, 108, 115, 122, 145, 167] 400]
  have key : ∀ (C : Nat → List zv → Mu → mR) (E : Nat → List zv → List zv → Mu → mR), mbk C E q_W_doAct.1 q_W_doAct.2.1 z q_W_doAct.2.2.2 [22, 24, 108, 115, 122, 145, 167] 400 (zfind q_W_doAct.2.2.2 167) [(2, 0), (9, 0), (0, v2), (2, ((o3 : Nat) : Int)), (2, ((o4 : Nat) : Int)), (9, 0)] [] μ = (C 95 [(2, 0), (2, ((o3 : Nat) : Int)), (2, ((o4 : Nat) : Int)), (0, v2)] μ).bind fun q1 => (g01 q1.1 (some (q1.1, q1.2))) := by
    intro C E
    rcases ho3 with rfl | rfl <;> rcases ho4 with rfl | rfl <;> (rfl)
  exact key _ _
def g_Army_form_12 (E : Nat → List zv → List zv → Mu → mR) (o0 : Nat) (v1 : Int) (v2 : Int) (μ : Mu) : mR := E 12 [(2, ((o0 : Nat) : Int)), (0, v1), (0, v2), (9, 0)] [] μ
noncomputable def f_Army_form_12 (z : zZ) (d : Nat) (o0 : Nat) (v1 : Int) (v2 : Int) (μ : Mu) : mR := g_Army_form_12 (fun pc ls st μ => mE z d q_Army_form pc ls st μ) o0 v1 v2 μ
def g_Army_form_48 (E : Nat → List zv → List zv → Mu → mR) (o0 : Nat) (v1 : Int) (v2 : Int) (μ : Mu) : mR := E 48 [(2, ((o0 : Nat) : Int)), (0, v1), (0, v2), (9, 0)] [] μ
noncomputable def f_Army_form_48 (z : zZ) (d : Nat) (o0 : Nat) (v1 : Int) (v2 : Int) (μ : Mu) : mR := g_Army_form_48 (fun pc ls st μ => mE z d q_Army_form pc ls st μ) o0 v1 v2 μ
theorem k_Army_form : zprK q_Army_form.2.2.2 = true ∧ zinc q_Army_form.2.2.2 = true := by decide +kernel
set_option maxRecDepth 100000 in
theorem c_Army_form (z : zZ) (d : Nat) (o0 : Nat) (v1 : Int) (μ : Mu) (ho0 : o0 = 4 ∨ o0 = 13) : mC z (d + 1) 71 [(2, ((o0 : Nat) : Int)), (0, v1)] μ = (mC z d 72 [(2, ((o0 : Nat) : Int)), (0, v1)] μ).bind fun q1 => (bif !decide (q1.1 = 0) then (f_Army_form_12 z d o0 v1 0 q1.2) else (some (0, q1.2))) := by
  rw [mC_succ q_Army_form rfl rfl rfl]
  rw [mE_bk (M := q_Army_form) k_Army_form.1 k_Army_form.2 [12, 48] 400]
  have key : ∀ (C : Nat → List zv → Mu → mR) (E : Nat → List zv → List zv → Mu → mR), mbk C E q_Army_form.1 q_Army_form.2.1 z q_Army_form.2.2.2 [12, 48] 400 (zfind q_Army_form.2.2.2 0) (zentry q_Army_form.2.2.1 [(2, ((o0 : Nat) : Int)), (0, v1)]) [] μ = (C 72 [(2, ((o0 : Nat) : Int)), (0, v1)] μ).bind fun q1 => (bif !decide (q1.1 = 0) then (g_Army_form_12 E o0 v1 0 q1.2) else (some (0, q1.2))) := by
    intro C E
    rcases ho0 with rfl | rfl <;> (rfl)
  exact key _ _
set_option maxRecDepth 100000 in
theorem e_Army_form_12 (z : zZ) (d : Nat) (o0 : Nat) (v1 : Int) (v2 : Int) (μ : Mu) (ho0 : o0 = 4 ∨ o0 = 13) : f_Army_form_12 z d o0 v1 v2 μ = bif decide (8 ≤ v2) then (some (1, zup μ o0 7 (z_or (μ o0 7) (z_shl 1 v1)))) else (gI v1 12 ((mC z d 41 [(0, μ (o0 + 4) v1.toNat), (0, v2)] μ).bind fun q1 => ((mC z d 13 [(0, q1.1)] q1.2).bind fun q2 => (bif decide (q2.1 = 0) then (f_Army_form_48 z d o0 v1 v2 q2.2) else (gI (zw (0 + q1.1)) 36 (gI (zw (0 + q1.1)) 36 (f_Army_form_48 z d o0 v1 v2 (zup q2.2 (o0 + 3) ((zw (0 + q1.1)).toNat) (zw ((q2.2 (o0 + 3) ((zw (0 + q1.1)).toNat)) - 1)))))))))) := by
  show mE z d q_Army_form 12 [(2, ((o0 : Nat) : Int)), (0, v1), (0, v2), (9, 0)] [] μ = _
  rw [mE_bk (M := q_Army_form) k_Army_form.1 k_Army_form.2 [12, 48] 400]
  have key : ∀ (C : Nat → List zv → Mu → mR) (E : Nat → List zv → List zv → Mu → mR), mbk C E q_Army_form.1 q_Army_form.2.1 z q_Army_form.2.2.2 [12, 48] 400 (zfind q_Army_form.2.2.2 12) [(2, ((o0 : Nat) : Int)), (0, v1), (0, v2), (9, 0)] [] μ = bif decide (8 ≤ v2) then (some (1, zup μ o0 7 (z_or (μ o0 7) (z_shl 1 v1)))) else (gI v1 12 ((C 41 [(0, μ (o0 + 4) v1.toNat), (0, v2)] μ).bind fun q1 => ((C 13 [(0, q1.1)] q1.2).bind fun q2 => (bif decide (q2.1 = 0) then (g_Army_form_48 E o0 v1 v2 q2.2) else (gI (zw (0 + q1.1)) 36 (gI (zw (0 + q1.1)) 36 (g_Army_form_48 E o0 v1 v2 (zup q2.2 (o0 + 3) ((zw (0 + q1.1)).toNat) (zw ((q2.2 (o0 + 3) ((zw (0 + q1.1)).toNat)) - 1)))))))))) := by
    intro C E
    rcases ho0 with rfl | rfl <;> (rfl)
  exact key _ _
set_option maxRecDepth 100000 in
theorem e_Army_form_48 (z : zZ) (d : Nat) (o0 : Nat) (v1 : Int) (v2 : Int) (μ : Mu) (ho0 : o0 = 4 ∨ o0 = 13) : f_Army_form_48 z d o0 v1 v2 μ = f_Army_form_12 z d o0 v1 (zw (v2 + 1)) μ := by
  show mE z d q_Army_form 48 [(2, ((o0 : Nat) : Int)), (0, v1), (0, v2), (9, 0)] [] μ = _
  rw [mE_bk (M := q_Army_form) k_Army_form.1 k_Army_form.2 [12, 48] 400]
  have key : ∀ (C : Nat → List zv → Mu → mR) (E : Nat → List zv → List zv → Mu → mR), mbk C E q_Army_form.1 q_Army_form.2.1 z q_Army_form.2.2.2 [12, 48] 400 (zfind q_Army_form.2.2.2 48) [(2, ((o0 : Nat) : Int)), (0, v1), (0, v2), (9, 0)] [] μ = g_Army_form_12 E o0 v1 (zw (v2 + 1)) μ := by
    intro C E
    rcases ho0 with rfl | rfl <;> (rfl)
  exact key _ _
def g_Army_canForm_24 (E : Nat → List zv → List zv → Mu → mR) (μ : Mu) : mR := E 24 [(9, 0), (9, 0), (9, 0), (9, 0)] [] μ
noncomputable def f_Army_canForm_24 (z : zZ) (d : Nat) (μ : Mu) : mR := g_Army_canForm_24 (fun pc ls st μ => mE z d q_Army_canForm pc ls st μ) μ
def g_Army_canForm_28 (E : Nat → List zv → List zv → Mu → mR) (o0 : Nat) (v1 : Int) (v2 : Int) (μ : Mu) : mR := E 28 [(2, ((o0 : Nat) : Int)), (0, v1), (0, v2), (9, 0)] [] μ
noncomputable def f_Army_canForm_28 (z : zZ) (d : Nat) (o0 : Nat) (v1 : Int) (v2 : Int) (μ : Mu) : mR := g_Army_canForm_28 (fun pc ls st μ => mE z d q_Army_canForm pc ls st μ) o0 v1 v2 μ
def g_Army_canForm_75 (E : Nat → List zv → List zv → Mu → mR) (o0 : Nat) (v1 : Int) (v2 : Int) (μ : Mu) : mR := E 75 [(2, ((o0 : Nat) : Int)), (0, v1), (0, v2), (9, 0)] [] μ
noncomputable def f_Army_canForm_75 (z : zZ) (d : Nat) (o0 : Nat) (v1 : Int) (v2 : Int) (μ : Mu) : mR := g_Army_canForm_75 (fun pc ls st μ => mE z d q_Army_canForm pc ls st μ) o0 v1 v2 μ
theorem k_Army_canForm : zprK q_Army_canForm.2.2.2 = true ∧ zinc q_Army_canForm.2.2.2 = true := by decide +kernel
set_option maxRecDepth 100000 in
theorem c_Army_canForm (z : zZ) (d : Nat) (o0 : Nat) (v1 : Int) (μ : Mu) (ho0 : o0 = 4 ∨ o0 = 13) : mC z (d + 1) 72 [(2, ((o0 : Nat) : Int)), (0, v1)] μ = (mC z d 37 [(2, ((o0 : Nat) : Int)), (0, v1)] μ).bind fun q1 => (bif decide (q1.1 = 0) then (f_Army_canForm_24 z d q1.2) else ((mC z d 36 [(2, ((o0 : Nat) : Int)), (0, v1)] q1.2).bind fun q2 => (bif !decide (q2.1 = 0) then (f_Army_canForm_24 z d q2.2) else ((mC z d 73 [(2, ((o0 : Nat) : Int))] q2.2).bind fun q3 => (bif decide (1 ≤ q3.1) then (f_Army_canForm_28 z d o0 v1 0 q3.2) else (f_Army_canForm_24 z d q3.2)))))) := by
  rw [mC_succ q_Army_canForm rfl rfl rfl]
  rw [mE_bk (M := q_Army_canForm) k_Army_canForm.1 k_Army_canForm.2 [24, 28, 75] 400]
  have key : ∀ (C : Nat → List zv → Mu → mR) (E : Nat → List zv → List zv → Mu → mR), mbk C E q_Army_canForm.1 q_Army_canForm.2.1 z q_Army_canForm.2.2.2 [24, 28, 75] 400 (zfind q_Army_canForm.2.2.2 0) (zentry q_Army_canForm.2.2.1 [(2, ((o0 : Nat) : Int)), (0, v1)]) [] μ = (C 37 [(2, ((o0 : Nat) : Int)), (0, v1)] μ).bind fun q1 => (bif decide (q1.1 = 0) then (g_Army_canForm_24 E q1.2) else ((C 36 [(2, ((o0 : Nat) : Int)), (0, v1)] q1.2).bind fun q2 => (bif !decide (q2.1 = 0) then (g_Army_canForm_24 E q2.2) else ((C 73 [(2, ((o0 : Nat) : Int))] q2.2).bind fun q3 => (bif decide (1 ≤ q3.1) then (g_Army_canForm_28 E o0 v1 0 q3.2) else (g_Army_canForm_24 E q3.2)))))) := by
    intro C E
    rcases ho0 with rfl | rfl <;> (rfl)
  exact key _ _
set_option maxRecDepth 100000 in
theorem e_Army_canForm_24 (z : zZ) (d : Nat) (μ : Mu) : f_Army_canForm_24 z d μ = some (0, μ) := by
  show mE z d q_Army_canForm 24 [(9, 0), (9, 0), (9, 0), (9, 0)] [] μ = _
  rw [mE_bk (M := q_Army_canForm) k_Army_canForm.1 k_Army_canForm.2 [24, 28, 75] 400]
  have key : ∀ (C : Nat → List zv → Mu → mR) (E : Nat → List zv → List zv → Mu → mR), mbk C E q_Army_canForm.1 q_Army_canForm.2.1 z q_Army_canForm.2.2.2 [24, 28, 75] 400 (zfind q_Army_canForm.2.2.2 24) [(9, 0), (9, 0), (9, 0), (9, 0)] [] μ = some (0, μ) := by
    intro C E
    rfl
  exact key _ _
set_option maxRecDepth 100000 in
theorem e_Army_canForm_28 (z : zZ) (d : Nat) (o0 : Nat) (v1 : Int) (v2 : Int) (μ : Mu) (ho0 : o0 = 4 ∨ o0 = 13) : f_Army_canForm_28 z d o0 v1 v2 μ = bif decide (8 ≤ v2) then (some (1, μ)) else (gI v1 12 ((mC z d 41 [(0, μ (o0 + 4) v1.toNat), (0, v2)] μ).bind fun q1 => ((mC z d 13 [(0, q1.1)] q1.2).bind fun q2 => (bif decide (q2.1 = 0) then (f_Army_canForm_75 z d o0 v1 v2 q2.2) else (gI (zw (0 + q1.1)) 36 (gI v1 12 ((mC z d 75 [(0, q2.2 (o0 + 4) v1.toNat), (0, q1.1)] q2.2).bind fun q3 => (bif decide (q3.1 ≤ q2.2 (o0 + 3) ((zw (0 + q1.1)).toNat)) then (f_Army_canForm_75 z d o0 v1 v2 q3.2) else (some (0, q3.2)))))))))) := by
  show mE z d q_Army_canForm 28 [(2, ((o0 : Nat) : Int)), (0, v1), (0, v2), (9, 0)] [] μ = _
  rw [mE_bk (M := q_Army_canForm) k_Army_canForm.1 k_Army_canForm.2 [24, 28, 75] 400]
  have key : ∀ (C : Nat → List zv → Mu → mR) (E : Nat → List zv → List zv → Mu → mR), mbk C E q_Army_canForm.1 q_Army_canForm.2.1 z q_Army_canForm.2.2.2 [24, 28, 75] 400 (zfind q_Army_canForm.2.2.2 28) [(2, ((o0 : Nat) : Int)), (0, v1), (0, v2), (9, 0)] [] μ = bif decide (8 ≤ v2) then (some (1, μ)) else (gI v1 12 ((C 41 [(0, μ (o0 + 4) v1.toNat), (0, v2)] μ).bind fun q1 => ((C 13 [(0, q1.1)] q1.2).bind fun q2 => (bif decide (q2.1 = 0) then (g_Army_canForm_75 E o0 v1 v2 q2.2) else (gI (zw (0 + q1.1)) 36 (gI v1 12 ((C 75 [(0, q2.2 (o0 + 4) v1.toNat), (0, q1.1)] q2.2).bind fun q3 => (bif decide (q3.1 ≤ q2.2 (o0 + 3) ((zw (0 + q1.1)).toNat)) then (g_Army_canForm_75 E o0 v1 v2 q3.2) else (some (0, q3.2)))))))))) := by
    intro C E
    rcases ho0 with rfl | rfl <;> (rfl)
  exact key _ _
set_option maxRecDepth 100000 in
theorem e_Army_canForm_75 (z : zZ) (d : Nat) (o0 : Nat) (v1 : Int) (v2 : Int) (μ : Mu) (ho0 : o0 = 4 ∨ o0 = 13) : f_Army_canForm_75 z d o0 v1 v2 μ = f_Army_canForm_28 z d o0 v1 (zw (v2 + 1)) μ := by
  show mE z d q_Army_canForm 75 [(2, ((o0 : Nat) : Int)), (0, v1), (0, v2), (9, 0)] [] μ = _
  rw [mE_bk (M := q_Army_canForm) k_Army_canForm.1 k_Army_canForm.2 [24, 28, 75] 400]
  have key : ∀ (C : Nat → List zv → Mu → mR) (E : Nat → List zv → List zv → Mu → mR), mbk C E q_Army_canForm.1 q_Army_canForm.2.1 z q_Army_canForm.2.2.2 [24, 28, 75] 400 (zfind q_Army_canForm.2.2.2 75) [(2, ((o0 : Nat) : Int)), (0, v1), (0, v2), (9, 0)] [] μ = g_Army_canForm_28 E o0 v1 (zw (v2 + 1)) μ := by
    intro C E
    rcases ho0 with rfl | rfl <;> (rfl)
  exact key _ _
theorem k_Army_room : zprK q_Army_room.2.2.2 = true ∧ zinc q_Army_room.2.2.2 = true := by decide +kernel
set_option maxRecDepth 100000 in
theorem c_Army_room (z : zZ) (d : Nat) (o0 : Nat) (μ : Mu) (ho0 : o0 = 4 ∨ o0 = 13) : mC z (d + 1) 73 [(2, ((o0 : Nat) : Int))] μ = (mC z d 74 [(0, μ o0 7)] μ).bind fun q1 => (some (zw (6 - q1.1), q1.2)) := by
  rw [mC_succ q_Army_room rfl rfl rfl]
  rw [mE_bk (M := q_Army_room) k_Army_room.1 k_Army_room.2 [] 400]
  have key : ∀ (C : Nat → List zv → Mu → mR) (E : Nat → List zv → List zv → Mu → mR), mbk C E q_Army_room.1 q_Army_room.2.1 z q_Army_room.2.2.2 [] 400 (zfind q_Army_room.2.2.2 0) (zentry q_Army_room.2.2.1 [(2, ((o0 : Nat) : Int))]) [] μ = (C 74 [(0, μ o0 7)] μ).bind fun q1 => (some (zw (6 - q1.1), q1.2)) := by
    intro C E
    rcases ho0 with rfl | rfl <;> (rfl)
  exact key _ _
theorem k_Int_bitCount : zprK q_Int_bitCount.2.2.2 = true ∧ zinc q_Int_bitCount.2.2.2 = true := by decide +kernel
set_option maxRecDepth 100000 in
theorem c_Int_bitCount (z : zZ) (d : Nat) (v0 : Int) (μ : Mu) : mC z (d + 1) 74 [(0, v0)] μ = some (z_and (zw ((zw ((z_and (zw ((zw ((z_and (zw (v0 - (z_and (z_ushr v0 1) 1431655765))) 858993459) + (z_and (z_ushr (zw (v0 - (z_and (z_ushr v0 1) 1431655765))) 2) 858993459))) + (z_ushr (zw ((z_and (zw (v0 - (z_and (z_ushr v0 1) 1431655765))) 858993459) + (z_and (z_ushr (zw (v0 - (z_and (z_ushr v0 1) 1431655765))) 2) 858993459))) 4))) 252645135) + (z_ushr (z_and (zw ((zw ((z_and (zw (v0 - (z_and (z_ushr v0 1) 1431655765))) 858993459) + (z_and (z_ushr (zw (v0 - (z_and (z_ushr v0 1) 1431655765))) 2) 858993459))) + (z_ushr (zw ((z_and (zw (v0 - (z_and (z_ushr v0 1) 1431655765))) 858993459) + (z_and (z_ushr (zw (v0 - (z_and (z_ushr v0 1) 1431655765))) 2) 858993459))) 4))) 252645135) 8))) + (z_ushr (zw ((z_and (zw ((zw ((z_and (zw (v0 - (z_and (z_ushr v0 1) 1431655765))) 858993459) + (z_and (z_ushr (zw (v0 - (z_and (z_ushr v0 1) 1431655765))) 2) 858993459))) + (z_ushr (zw ((z_and (zw (v0 - (z_and (z_ushr v0 1) 1431655765))) 858993459) + (z_and (z_ushr (zw (v0 - (z_and (z_ushr v0 1) 1431655765))) 2) 858993459))) 4))) 252645135) + (z_ushr (z_and (zw ((zw ((z_and (zw (v0 - (z_and (z_ushr v0 1) 1431655765))) 858993459) + (z_and (z_ushr (zw (v0 - (z_and (z_ushr v0 1) 1431655765))) 2) 858993459))) + (z_ushr (zw ((z_and (zw (v0 - (z_and (z_ushr v0 1) 1431655765))) 858993459) + (z_and (z_ushr (zw (v0 - (z_and (z_ushr v0 1) 1431655765))) 2) 858993459))) 4))) 252645135) 8))) 16))) 63, μ) := by
  rw [mC_succ q_Int_bitCount rfl rfl rfl]
  rw [mE_bk (M := q_Int_bitCount) k_Int_bitCount.1 k_Int_bitCount.2 [] 400]
  have key : ∀ (C : Nat → List zv → Mu → mR) (E : Nat → List zv → List zv → Mu → mR), mbk C E q_Int_bitCount.1 q_Int_bitCount.2.1 z q_Int_bitCount.2.2.2 [] 400 (zfind q_Int_bitCount.2.2.2 0) (zentry q_Int_bitCount.2.2.1 [(0, v0)]) [] μ = some (z_and (zw ((zw ((z_and (zw ((zw ((z_and (zw (v0 - (z_and (z_ushr v0 1) 1431655765))) 858993459) + (z_and (z_ushr (zw (v0 - (z_and (z_ushr v0 1) 1431655765))) 2) 858993459))) + (z_ushr (zw ((z_and (zw (v0 - (z_and (z_ushr v0 1) 1431655765))) 858993459) + (z_and (z_ushr (zw (v0 - (z_and (z_ushr v0 1) 1431655765))) 2) 858993459))) 4))) 252645135) + (z_ushr (z_and (zw ((zw ((z_and (zw (v0 - (z_and (z_ushr v0 1) 1431655765))) 858993459) + (z_and (z_ushr (zw (v0 - (z_and (z_ushr v0 1) 1431655765))) 2) 858993459))) + (z_ushr (zw ((z_and (zw (v0 - (z_and (z_ushr v0 1) 1431655765))) 858993459) + (z_and (z_ushr (zw (v0 - (z_and (z_ushr v0 1) 1431655765))) 2) 858993459))) 4))) 252645135) 8))) + (z_ushr (zw ((z_and (zw ((zw ((z_and (zw (v0 - (z_and (z_ushr v0 1) 1431655765))) 858993459) + (z_and (z_ushr (zw (v0 - (z_and (z_ushr v0 1) 1431655765))) 2) 858993459))) + (z_ushr (zw ((z_and (zw (v0 - (z_and (z_ushr v0 1) 1431655765))) 858993459) + (z_and (z_ushr (zw (v0 - (z_and (z_ushr v0 1) 1431655765))) 2) 858993459))) 4))) 252645135) + (z_ushr (z_and (zw ((zw ((z_and (zw (v0 - (z_and (z_ushr v0 1) 1431655765))) 858993459) + (z_and (z_ushr (zw (v0 - (z_and (z_ushr v0 1) 1431655765))) 2) 858993459))) + (z_ushr (zw ((z_and (zw (v0 - (z_and (z_ushr v0 1) 1431655765))) 858993459) + (z_and (z_ushr (zw (v0 - (z_and (z_ushr v0 1) 1431655765))) 2) 858993459))) 4))) 252645135) 8))) 16))) 63, μ) := by
    intro C E
    rfl
  exact key _ _
def g_Wrd_times_4 (E : Nat → List zv → List zv → Mu → mR) (v0 : Int) (v1 : Int) (v2 : Int) (v3 : Int) (μ : Mu) : mR := E 4 [(0, v0), (0, v1), (0, v2), (0, v3)] [] μ
noncomputable def f_Wrd_times_4 (z : zZ) (d : Nat) (v0 : Int) (v1 : Int) (v2 : Int) (v3 : Int) (μ : Mu) : mR := g_Wrd_times_4 (fun pc ls st μ => mE z d q_Wrd_times pc ls st μ) v0 v1 v2 v3 μ
def g_Wrd_times_22 (E : Nat → List zv → List zv → Mu → mR) (v0 : Int) (v1 : Int) (v2 : Int) (v3 : Int) (μ : Mu) : mR := E 22 [(0, v0), (0, v1), (0, v2), (0, v3)] [] μ
noncomputable def f_Wrd_times_22 (z : zZ) (d : Nat) (v0 : Int) (v1 : Int) (v2 : Int) (v3 : Int) (μ : Mu) : mR := g_Wrd_times_22 (fun pc ls st μ => mE z d q_Wrd_times pc ls st μ) v0 v1 v2 v3 μ
theorem k_Wrd_times : zprK q_Wrd_times.2.2.2 = true ∧ zinc q_Wrd_times.2.2.2 = true := by decide +kernel
set_option maxRecDepth 100000 in
theorem c_Wrd_times (z : zZ) (d : Nat) (v0 : Int) (v1 : Int) (μ : Mu) : mC z (d + 1) 75 [(0, v0), (0, v1)] μ = f_Wrd_times_4 z d v0 v1 0 0 μ := by
  rw [mC_succ q_Wrd_times rfl rfl rfl]
  rw [mE_bk (M := q_Wrd_times) k_Wrd_times.1 k_Wrd_times.2 [4, 22] 400]
  have key : ∀ (C : Nat → List zv → Mu → mR) (E : Nat → List zv → List zv → Mu → mR), mbk C E q_Wrd_times.1 q_Wrd_times.2.1 z q_Wrd_times.2.2.2 [4, 22] 400 (zfind q_Wrd_times.2.2.2 0) (zentry q_Wrd_times.2.2.1 [(0, v0), (0, v1)]) [] μ = g_Wrd_times_4 E v0 v1 0 0 μ := by
    intro C E
    rfl
  exact key _ _
set_option maxRecDepth 100000 in
theorem e_Wrd_times_4 (z : zZ) (d : Nat) (v0 : Int) (v1 : Int) (v2 : Int) (v3 : Int) (μ : Mu) : f_Wrd_times_4 z d v0 v1 v2 v3 μ = bif decide (8 ≤ v3) then (some (v2, μ)) else ((mC z d 41 [(0, v0), (0, v3)] μ).bind fun q1 => (bif !decide (q1.1 = v1) then (f_Wrd_times_22 z d v0 v1 v2 v3 q1.2) else (f_Wrd_times_22 z d v0 v1 (zw (v2 + 1)) v3 q1.2))) := by
  show mE z d q_Wrd_times 4 [(0, v0), (0, v1), (0, v2), (0, v3)] [] μ = _
  rw [mE_bk (M := q_Wrd_times) k_Wrd_times.1 k_Wrd_times.2 [4, 22] 400]
  have key : ∀ (C : Nat → List zv → Mu → mR) (E : Nat → List zv → List zv → Mu → mR), mbk C E q_Wrd_times.1 q_Wrd_times.2.1 z q_Wrd_times.2.2.2 [4, 22] 400 (zfind q_Wrd_times.2.2.2 4) [(0, v0), (0, v1), (0, v2), (0, v3)] [] μ = bif decide (8 ≤ v3) then (some (v2, μ)) else ((C 41 [(0, v0), (0, v3)] μ).bind fun q1 => (bif !decide (q1.1 = v1) then (g_Wrd_times_22 E v0 v1 v2 v3 q1.2) else (g_Wrd_times_22 E v0 v1 (zw (v2 + 1)) v3 q1.2))) := by
    intro C E
    rfl
  exact key _ _
set_option maxRecDepth 100000 in
theorem e_Wrd_times_22 (z : zZ) (d : Nat) (v0 : Int) (v1 : Int) (v2 : Int) (v3 : Int) (μ : Mu) : f_Wrd_times_22 z d v0 v1 v2 v3 μ = f_Wrd_times_4 z d v0 v1 v2 (zw (v3 + 1)) μ := by
  show mE z d q_Wrd_times 22 [(0, v0), (0, v1), (0, v2), (0, v3)] [] μ = _
  rw [mE_bk (M := q_Wrd_times) k_Wrd_times.1 k_Wrd_times.2 [4, 22] 400]
  have key : ∀ (C : Nat → List zv → Mu → mR) (E : Nat → List zv → List zv → Mu → mR), mbk C E q_Wrd_times.1 q_Wrd_times.2.1 z q_Wrd_times.2.2.2 [4, 22] 400 (zfind q_Wrd_times.2.2.2 22) [(0, v0), (0, v1), (0, v2), (0, v3)] [] μ = g_Wrd_times_4 E v0 v1 v2 (zw (v3 + 1)) μ := by
    intro C E
    rfl
  exact key _ _
theorem k_Army_dissolve : zprK q_Army_dissolve.2.2.2 = true ∧ zinc q_Army_dissolve.2.2.2 = true := by decide +kernel
set_option maxRecDepth 100000 in
theorem c_Army_dissolve (z : zZ) (d : Nat) (o0 : Nat) (v1 : Int) (μ : Mu) (ho0 : o0 = 4 ∨ o0 = 13) : mC z (d + 1) 76 [(2, ((o0 : Nat) : Int)), (0, v1)] μ = (mC z d 36 [(2, ((o0 : Nat) : Int)), (0, v1)] μ).bind fun q1 => (bif !decide (q1.1 = 0) then (gI v1 12 ((mC z d 40 [(2, ((o0 : Nat) : Int)), (0, q1.2 (o0 + 4) v1.toNat)] (zup q1.2 o0 7 (z_and (q1.2 o0 7) (z_xor (z_shl 1 v1) ((-1)))))).bind fun q2 => (some (1, q2.2)))) else (some (0, q1.2))) := by
  rw [mC_succ q_Army_dissolve rfl rfl rfl]
  rw [mE_bk (M := q_Army_dissolve) k_Army_dissolve.1 k_Army_dissolve.2 [] 400]
  have key : ∀ (C : Nat → List zv → Mu → mR) (E : Nat → List zv → List zv → Mu → mR), mbk C E q_Army_dissolve.1 q_Army_dissolve.2.1 z q_Army_dissolve.2.2.2 [] 400 (zfind q_Army_dissolve.2.2.2 0) (zentry q_Army_dissolve.2.2.1 [(2, ((o0 : Nat) : Int)), (0, v1)]) [] μ = (C 36 [(2, ((o0 : Nat) : Int)), (0, v1)] μ).bind fun q1 => (bif !decide (q1.1 = 0) then (gI v1 12 ((C 40 [(2, ((o0 : Nat) : Int)), (0, q1.2 (o0 + 4) v1.toNat)] (zup q1.2 o0 7 (z_and (q1.2 o0 7) (z_xor (z_shl 1 v1) ((-1)))))).bind fun q2 => (some (1, q2.2)))) else (some (0, q1.2))) := by
    intro C E
    rcases ho0 with rfl | rfl <;> (rfl)
  exact key _ _
def g_Wrd_backwards_9 (E : Nat → List zv → List zv → Mu → mR) (v0 : Int) (v1 : Int) (v2 : Int) (v3 : Int) (μ : Mu) : mR := E 9 [(0, v0), (0, v1), (0, v2), (0, v3)] [] μ
noncomputable def f_Wrd_backwards_9 (z : zZ) (d : Nat) (v0 : Int) (v1 : Int) (v2 : Int) (v3 : Int) (μ : Mu) : mR := g_Wrd_backwards_9 (fun pc ls st μ => mE z d q_Wrd_backwards pc ls st μ) v0 v1 v2 v3 μ
theorem k_Wrd_backwards : zprK q_Wrd_backwards.2.2.2 = true ∧ zinc q_Wrd_backwards.2.2.2 = true := by decide +kernel
set_option maxRecDepth 100000 in
theorem c_Wrd_backwards (z : zZ) (d : Nat) (v0 : Int) (μ : Mu) : mC z (d + 1) 77 [(0, v0)] μ = (mC z d 68 [(0, v0)] μ).bind fun q1 => (f_Wrd_backwards_9 z d v0 q1.1 0 0 q1.2) := by
  rw [mC_succ q_Wrd_backwards rfl rfl rfl]
  rw [mE_bk (M := q_Wrd_backwards) k_Wrd_backwards.1 k_Wrd_backwards.2 [9] 400]
  have key : ∀ (C : Nat → List zv → Mu → mR) (E : Nat → List zv → List zv → Mu → mR), mbk C E q_Wrd_backwards.1 q_Wrd_backwards.2.1 z q_Wrd_backwards.2.2.2 [9] 400 (zfind q_Wrd_backwards.2.2.2 0) (zentry q_Wrd_backwards.2.2.1 [(0, v0)]) [] μ = (C 68 [(0, v0)] μ).bind fun q1 => (g_Wrd_backwards_9 E v0 q1.1 0 0 q1.2) := by
    intro C E
    rfl
  exact key _ _
set_option maxRecDepth 100000 in
theorem e_Wrd_backwards_9 (z : zZ) (d : Nat) (v0 : Int) (v1 : Int) (v2 : Int) (v3 : Int) (μ : Mu) : f_Wrd_backwards_9 z d v0 v1 v2 v3 μ = bif decide (v1 ≤ v3) then (some (v2, μ)) else ((mC z d 41 [(0, v0), (0, v3)] μ).bind fun q1 => ((mC z d 31 [(0, v2), (0, zw ((zw (v1 - 1)) - v3)), (0, q1.1)] q1.2).bind fun q2 => (f_Wrd_backwards_9 z d v0 v1 q2.1 (zw (v3 + 1)) q2.2))) := by
  show mE z d q_Wrd_backwards 9 [(0, v0), (0, v1), (0, v2), (0, v3)] [] μ = _
  rw [mE_bk (M := q_Wrd_backwards) k_Wrd_backwards.1 k_Wrd_backwards.2 [9] 400]
  have key : ∀ (C : Nat → List zv → Mu → mR) (E : Nat → List zv → List zv → Mu → mR), mbk C E q_Wrd_backwards.1 q_Wrd_backwards.2.1 z q_Wrd_backwards.2.2.2 [9] 400 (zfind q_Wrd_backwards.2.2.2 9) [(0, v0), (0, v1), (0, v2), (0, v3)] [] μ = bif decide (v1 ≤ v3) then (some (v2, μ)) else ((C 41 [(0, v0), (0, v3)] μ).bind fun q1 => ((C 31 [(0, v2), (0, zw ((zw (v1 - 1)) - v3)), (0, q1.1)] q1.2).bind fun q2 => (g_Wrd_backwards_9 E v0 v1 q2.1 (zw (v3 + 1)) q2.2))) := by
    intro C E
    rfl
  exact key _ _
def g_Army_replace_24 (E : Nat → List zv → List zv → Mu → mR) (μ : Mu) : mR := E 24 [(9, 0), (9, 0), (9, 0)] [] μ
noncomputable def f_Army_replace_24 (z : zZ) (d : Nat) (μ : Mu) : mR := g_Army_replace_24 (fun pc ls st μ => mE z d q_Army_replace pc ls st μ) μ
theorem k_Army_replace : zprK q_Army_replace.2.2.2 = true ∧ zinc q_Army_replace.2.2.2 = true := by decide +kernel
set_option maxRecDepth 100000 in
theorem c_Army_replace (z : zZ) (d : Nat) (o0 : Nat) (v1 : Int) (v2 : Int) (μ : Mu) (ho0 : o0 = 4 ∨ o0 = 13) : mC z (d + 1) 78 [(2, ((o0 : Nat) : Int)), (0, v1), (0, v2)] μ = (mC z d 36 [(2, ((o0 : Nat) : Int)), (0, v1)] μ).bind fun q1 => (bif decide (q1.1 = 0) then (f_Army_replace_24 z d q1.2) else ((mC z d 37 [(2, ((o0 : Nat) : Int)), (0, v2)] q1.2).bind fun q2 => (bif decide (q2.1 = 0) then (f_Army_replace_24 z d q2.2) else ((mC z d 36 [(2, ((o0 : Nat) : Int)), (0, v2)] q2.2).bind fun q3 => (bif decide (q3.1 = 0) then (some (1, zup q3.2 o0 7 (z_or (z_and (q3.2 o0 7) (z_xor (z_shl 1 v1) ((-1)))) (z_shl 1 v2)))) else (f_Army_replace_24 z d q3.2)))))) := by
  rw [mC_succ q_Army_replace rfl rfl rfl]
  rw [mE_bk (M := q_Army_replace) k_Army_replace.1 k_Army_replace.2 [24] 400]
  have key : ∀ (C : Nat → List zv → Mu → mR) (E : Nat → List zv → List zv → Mu → mR), mbk C E q_Army_replace.1 q_Army_replace.2.1 z q_Army_replace.2.2.2 [24] 400 (zfind q_Army_replace.2.2.2 0) (zentry q_Army_replace.2.2.1 [(2, ((o0 : Nat) : Int)), (0, v1), (0, v2)]) [] μ = (C 36 [(2, ((o0 : Nat) : Int)), (0, v1)] μ).bind fun q1 => (bif decide (q1.1 = 0) then (g_Army_replace_24 E q1.2) else ((C 37 [(2, ((o0 : Nat) : Int)), (0, v2)] q1.2).bind fun q2 => (bif decide (q2.1 = 0) then (g_Army_replace_24 E q2.2) else ((C 36 [(2, ((o0 : Nat) : Int)), (0, v2)] q2.2).bind fun q3 => (bif decide (q3.1 = 0) then (some (1, zup q3.2 o0 7 (z_or (z_and (q3.2 o0 7) (z_xor (z_shl 1 v1) ((-1)))) (z_shl 1 v2)))) else (g_Army_replace_24 E q3.2)))))) := by
    intro C E
    rcases ho0 with rfl | rfl <;> (rfl)
  exact key _ _
set_option maxRecDepth 100000 in
theorem e_Army_replace_24 (z : zZ) (d : Nat) (μ : Mu) : f_Army_replace_24 z d μ = some (0, μ) := by
  show mE z d q_Army_replace 24 [(9, 0), (9, 0), (9, 0)] [] μ = _
  rw [mE_bk (M := q_Army_replace) k_Army_replace.1 k_Army_replace.2 [24] 400]
  have key : ∀ (C : Nat → List zv → Mu → mR) (E : Nat → List zv → List zv → Mu → mR), mbk C E q_Army_replace.1 q_Army_replace.2.1 z q_Army_replace.2.2.2 [24] 400 (zfind q_Army_replace.2.2.2 24) [(9, 0), (9, 0), (9, 0)] [] μ = some (0, μ) := by
    intro C E
    rfl
  exact key _ _
