def g_M_canForm_52 (E : Nat → List zv → List zv → Mu → mR) (μ : Mu) : mR := E 52 [(9, 0), (9, 0), (9, 0)] [] μ
noncomputable def f_M_canForm_52 (z : zZ) (d : Nat) (μ : Mu) : mR := g_M_canForm_52 (fun pc ls st μ => mE z d q_M_canForm pc ls st μ) μ
def g_M_canForm_53 (E : Nat → List zv → List zv → Mu → mR) (v100 : Int) (μ : Mu) : mR := E 53 [(9, 0), (9, 0), (9, 0)] [(0, v100)] μ
noncomputable def f_M_canForm_53 (z : zZ) (d : Nat) (v100 : Int) (μ : Mu) : mR := g_M_canForm_53 (fun pc ls st μ => mE z d q_M_canForm pc ls st μ) v100 μ
theorem k_M_canForm : zprK q_M_canForm.2.2.2 = true ∧ zinc q_M_canForm.2.2.2 = true := by decide +kernel
set_option maxRecDepth 100000 in
theorem c_M_canForm (z : zZ) (d : Nat) (v1 : Int) (v2 : Int) (μ : Mu) : mC z (d + 1) 235 [(2, 86), (0, v1), (0, v2)] μ = (mC z d 199 [(2, 86), (0, v1)] μ).bind fun q1 => ((mC z d 189 [(0, q1.1), (0, v2)] q1.2).bind fun q2 => (bif !decide (q2.1 = 0) then (f_M_canForm_52 z d q2.2) else ((mC z d 199 [(2, 86), (0, v1)] q2.2).bind fun q3 => ((mC z d 236 [(0, q3.1)] q3.2).bind fun q4 => (bif decide (6 ≤ q4.1) then (f_M_canForm_52 z d q4.2) else ((mC z d 201 [(0, v1), (0, v2)] q4.2).bind fun q5 => ((mC z d 202 [(2, 86), (0, v1), (0, v2)] q5.2).bind fun q6 => ((mC z d 237 [(2, 86), (0, v1), (2, 94), (0, q5.1), (0, q6.1)] q6.2).bind fun q7 => (bif decide (q7.1 = 0) then (f_M_canForm_52 z d q7.2) else (f_M_canForm_53 z d 1 q7.2)))))))))) := by
  rw [mC_succ q_M_canForm rfl rfl rfl]
  rw [mE_bk (M := q_M_canForm) k_M_canForm.1 k_M_canForm.2 [52, 53] 400]
  have key : ∀ (C : Nat → List zv → Mu → mR) (E : Nat → List zv → List zv → Mu → mR), mbk C E q_M_canForm.1 q_M_canForm.2.1 z q_M_canForm.2.2.2 [52, 53] 400 (zfind q_M_canForm.2.2.2 0) (zentry q_M_canForm.2.2.1 [(2, 86), (0, v1), (0, v2)]) [] μ = (C 199 [(2, 86), (0, v1)] μ).bind fun q1 => ((C 189 [(0, q1.1), (0, v2)] q1.2).bind fun q2 => (bif !decide (q2.1 = 0) then (g_M_canForm_52 E q2.2) else ((C 199 [(2, 86), (0, v1)] q2.2).bind fun q3 => ((C 236 [(0, q3.1)] q3.2).bind fun q4 => (bif decide (6 ≤ q4.1) then (g_M_canForm_52 E q4.2) else ((C 201 [(0, v1), (0, v2)] q4.2).bind fun q5 => ((C 202 [(2, 86), (0, v1), (0, v2)] q5.2).bind fun q6 => ((C 237 [(2, 86), (0, v1), (2, 94), (0, q5.1), (0, q6.1)] q6.2).bind fun q7 => (bif decide (q7.1 = 0) then (g_M_canForm_52 E q7.2) else (g_M_canForm_53 E 1 q7.2)))))))))) := by
    intro C E
    rfl
  exact key _ _
set_option maxRecDepth 100000 in
theorem e_M_canForm_52 (z : zZ) (d : Nat) (μ : Mu) : f_M_canForm_52 z d μ = f_M_canForm_53 z d 0 μ := by
  show mE z d q_M_canForm 52 [(9, 0), (9, 0), (9, 0)] [] μ = _
  rw [mE_bk (M := q_M_canForm) k_M_canForm.1 k_M_canForm.2 [52, 53] 400]
  have key : ∀ (C : Nat → List zv → Mu → mR) (E : Nat → List zv → List zv → Mu → mR), mbk C E q_M_canForm.1 q_M_canForm.2.1 z q_M_canForm.2.2.2 [52, 53] 400 (zfind q_M_canForm.2.2.2 52) [(9, 0), (9, 0), (9, 0)] [] μ = g_M_canForm_53 E 0 μ := by
    intro C E
    rfl
  exact key _ _
set_option maxRecDepth 100000 in
theorem e_M_canForm_53 (z : zZ) (d : Nat) (v100 : Int) (μ : Mu) : f_M_canForm_53 z d v100 μ = g01 v100 (some (v100, μ)) := by
  show mE z d q_M_canForm 53 [(9, 0), (9, 0), (9, 0)] [(0, v100)] μ = _
  rw [mE_bk (M := q_M_canForm) k_M_canForm.1 k_M_canForm.2 [52, 53] 400]
  have key : ∀ (C : Nat → List zv → Mu → mR) (E : Nat → List zv → List zv → Mu → mR), mbk C E q_M_canForm.1 q_M_canForm.2.1 z q_M_canForm.2.2.2 [52, 53] 400 (zfind q_M_canForm.2.2.2 53) [(9, 0), (9, 0), (9, 0)] [(0, v100)] μ = g01 v100 (some (v100, μ)) := by
    intro C E
    rfl
  exact key _ _
def g_M_bits_4 (E : Nat → List zv → List zv → Mu → mR) (v0 : Int) (v1 : Int) (v2 : Int) (μ : Mu) : mR := E 4 [(0, v0), (0, v1), (0, v2)] [] μ
noncomputable def f_M_bits_4 (z : zZ) (d : Nat) (v0 : Int) (v1 : Int) (v2 : Int) (μ : Mu) : mR := g_M_bits_4 (fun pc ls st μ => mE z d q_M_bits pc ls st μ) v0 v1 v2 μ
theorem k_M_bits : zprK q_M_bits.2.2.2 = true ∧ zinc q_M_bits.2.2.2 = true := by decide +kernel
set_option maxRecDepth 100000 in
theorem c_M_bits (z : zZ) (d : Nat) (v0 : Int) (μ : Mu) : mC z (d + 1) 236 [(0, v0)] μ = f_M_bits_4 z d v0 0 0 μ := by
  rw [mC_succ q_M_bits rfl rfl rfl]
  rw [mE_bk (M := q_M_bits) k_M_bits.1 k_M_bits.2 [4] 400]
  have key : ∀ (C : Nat → List zv → Mu → mR) (E : Nat → List zv → List zv → Mu → mR), mbk C E q_M_bits.1 q_M_bits.2.1 z q_M_bits.2.2.2 [4] 400 (zfind q_M_bits.2.2.2 0) (zentry q_M_bits.2.2.1 [(0, v0)]) [] μ = g_M_bits_4 E v0 0 0 μ := by
    intro C E
    rfl
  exact key _ _
set_option maxRecDepth 100000 in
theorem e_M_bits_4 (z : zZ) (d : Nat) (v0 : Int) (v1 : Int) (v2 : Int) (μ : Mu) : f_M_bits_4 z d v0 v1 v2 μ = bif decide (12 ≤ v2) then (some (v1, μ)) else (f_M_bits_4 z d v0 (zw (v1 + (z_and (z_shr v0 v2) 1))) (zw (v2 + 1)) μ) := by
  show mE z d q_M_bits 4 [(0, v0), (0, v1), (0, v2)] [] μ = _
  rw [mE_bk (M := q_M_bits) k_M_bits.1 k_M_bits.2 [4] 400]
  have key : ∀ (C : Nat → List zv → Mu → mR) (E : Nat → List zv → List zv → Mu → mR), mbk C E q_M_bits.1 q_M_bits.2.1 z q_M_bits.2.2.2 [4] 400 (zfind q_M_bits.2.2.2 4) [(0, v0), (0, v1), (0, v2)] [] μ = bif decide (12 ≤ v2) then (some (v1, μ)) else (g_M_bits_4 E v0 (zw (v1 + (z_and (z_shr v0 v2) 1))) (zw (v2 + 1)) μ) := by
    intro C E
    rfl
  exact key _ _
def g_M_isThere_3 (E : Nat → List zv → List zv → Mu → mR) (v1 : Int) (v2 : Int) (v3 : Int) (v4 : Int) (v5 : Int) (μ : Mu) : mR := E 3 [(2, 86), (0, v1), (2, v2), (0, v3), (0, v4), (0, v5), (9, 0), (9, 0)] [] μ
noncomputable def f_M_isThere_3 (z : zZ) (d : Nat) (v1 : Int) (v2 : Int) (v3 : Int) (v4 : Int) (v5 : Int) (μ : Mu) : mR := g_M_isThere_3 (fun pc ls st μ => mE z d q_M_isThere pc ls st μ) v1 v2 v3 v4 v5 μ
def g_M_isThere_16 (E : Nat → List zv → List zv → Mu → mR) (v1 : Int) (v2 : Int) (v3 : Int) (v4 : Int) (v5 : Int) (v6 : Int) (v7 : Int) (μ : Mu) : mR := E 16 [(2, 86), (0, v1), (2, v2), (0, v3), (0, v4), (0, v5), (0, v6), (0, v7)] [] μ
noncomputable def f_M_isThere_16 (z : zZ) (d : Nat) (v1 : Int) (v2 : Int) (v3 : Int) (v4 : Int) (v5 : Int) (v6 : Int) (v7 : Int) (μ : Mu) : mR := g_M_isThere_16 (fun pc ls st μ => mE z d q_M_isThere pc ls st μ) v1 v2 v3 v4 v5 v6 v7 μ
def g_M_isThere_44 (E : Nat → List zv → List zv → Mu → mR) (v1 : Int) (v2 : Int) (v3 : Int) (v4 : Int) (v5 : Int) (v7 : Int) (v100 : Int) (μ : Mu) : mR := E 44 [(2, 86), (0, v1), (2, v2), (0, v3), (0, v4), (0, v5), (9, 0), (0, v7)] [(0, v100)] μ
noncomputable def f_M_isThere_44 (z : zZ) (d : Nat) (v1 : Int) (v2 : Int) (v3 : Int) (v4 : Int) (v5 : Int) (v7 : Int) (v100 : Int) (μ : Mu) : mR := g_M_isThere_44 (fun pc ls st μ => mE z d q_M_isThere pc ls st μ) v1 v2 v3 v4 v5 v7 v100 μ
def g_M_isThere_45 (E : Nat → List zv → List zv → Mu → mR) (v1 : Int) (v2 : Int) (v3 : Int) (v4 : Int) (v5 : Int) (v7 : Int) (v100 : Int) (v101 : Int) (μ : Mu) : mR := E 45 [(2, 86), (0, v1), (2, v2), (0, v3), (0, v4), (0, v5), (9, 0), (0, v7)] [(0, v101), (0, v100)] μ
noncomputable def f_M_isThere_45 (z : zZ) (d : Nat) (v1 : Int) (v2 : Int) (v3 : Int) (v4 : Int) (v5 : Int) (v7 : Int) (v100 : Int) (v101 : Int) (μ : Mu) : mR := g_M_isThere_45 (fun pc ls st μ => mE z d q_M_isThere pc ls st μ) v1 v2 v3 v4 v5 v7 v100 v101 μ
def g_M_isThere_77 (E : Nat → List zv → List zv → Mu → mR) (v1 : Int) (v2 : Int) (v3 : Int) (v4 : Int) (v5 : Int) (μ : Mu) : mR := E 77 [(2, 86), (0, v1), (2, v2), (0, v3), (0, v4), (0, v5), (9, 0), (9, 0)] [] μ
noncomputable def f_M_isThere_77 (z : zZ) (d : Nat) (v1 : Int) (v2 : Int) (v3 : Int) (v4 : Int) (v5 : Int) (μ : Mu) : mR := g_M_isThere_77 (fun pc ls st μ => mE z d q_M_isThere pc ls st μ) v1 v2 v3 v4 v5 μ
theorem k_M_isThere : zprK q_M_isThere.2.2.2 = true ∧ zinc q_M_isThere.2.2.2 = true := by decide +kernel
set_option maxRecDepth 100000 in
theorem c_M_isThere (z : zZ) (d : Nat) (v1 : Int) (v2 : Int) (v3 : Int) (v4 : Int) (μ : Mu) : mC z (d + 1) 237 [(2, 86), (0, v1), (2, v2), (0, v3), (0, v4)] μ = f_M_isThere_3 z d v1 v2 v3 v4 0 μ := by
  rw [mC_succ q_M_isThere rfl rfl rfl]
  rw [mE_bk (M := q_M_isThere) k_M_isThere.1 k_M_isThere.2 [3, 16, 44, 45, 77] 400]
  have key : ∀ (C : Nat → List zv → Mu → mR) (E : Nat → List zv → List zv → Mu → mR), mbk C E q_M_isThere.1 q_M_isThere.2.1 z q_M_isThere.2.2.2 [3, 16, 44, 45, 77] 400 (zfind q_M_isThere.2.2.2 0) (zentry q_M_isThere.2.2.1 [(2, 86), (0, v1), (2, v2), (0, v3), (0, v4)]) [] μ = g_M_isThere_3 E v1 v2 v3 v4 0 μ := by
    intro C E
    rfl
  exact key _ _
set_option maxRecDepth 100000 in
theorem e_M_isThere_3 (z : zZ) (d : Nat) (v1 : Int) (v2 : Int) (v3 : Int) (v4 : Int) (v5 : Int) (μ : Mu) : f_M_isThere_3 z d v1 v2 v3 v4 v5 μ = bif decide (v4 ≤ v5) then (some (1, μ)) else (f_M_isThere_16 z d v1 v2 v3 v4 v5 0 0 μ) := by
  show mE z d q_M_isThere 3 [(2, 86), (0, v1), (2, v2), (0, v3), (0, v4), (0, v5), (9, 0), (9, 0)] [] μ = _
  rw [mE_bk (M := q_M_isThere) k_M_isThere.1 k_M_isThere.2 [3, 16, 44, 45, 77] 400]
  have key : ∀ (C : Nat → List zv → Mu → mR) (E : Nat → List zv → List zv → Mu → mR), mbk C E q_M_isThere.1 q_M_isThere.2.1 z q_M_isThere.2.2.2 [3, 16, 44, 45, 77] 400 (zfind q_M_isThere.2.2.2 3) [(2, 86), (0, v1), (2, v2), (0, v3), (0, v4), (0, v5), (9, 0), (9, 0)] [] μ = bif decide (v4 ≤ v5) then (some (1, μ)) else (g_M_isThere_16 E v1 v2 v3 v4 v5 0 0 μ) := by
    intro C E
    rfl
  exact key _ _
set_option maxRecDepth 100000 in
theorem e_M_isThere_16 (z : zZ) (d : Nat) (v1 : Int) (v2 : Int) (v3 : Int) (v4 : Int) (v5 : Int) (v6 : Int) (v7 : Int) (μ : Mu) : f_M_isThere_16 z d v1 v2 v3 v4 v5 v6 v7 μ = bif decide (v4 ≤ v7) then (gA v2 (zw (v3 + v5)) (gI (zw ((zw (12 * v1)) + (μ v2.toNat ((zw (v3 + v5)).toNat)))) 24 (bif decide (v6 ≤ μ 90 ((zw ((zw (12 * v1)) + (μ v2.toNat ((zw (v3 + v5)).toNat)))).toNat)) then (f_M_isThere_77 z d v1 v2 v3 v4 v5 μ) else (some (0, μ))))) else (gA v2 (zw (v3 + v7)) (gA v2 (zw (v3 + v5)) (bif !decide (μ v2.toNat ((zw (v3 + v7)).toNat) = μ v2.toNat ((zw (v3 + v5)).toNat)) then (f_M_isThere_44 z d v1 v2 v3 v4 v5 v7 v6 μ) else (f_M_isThere_45 z d v1 v2 v3 v4 v5 v7 v6 1 μ)))) := by
  show mE z d q_M_isThere 16 [(2, 86), (0, v1), (2, v2), (0, v3), (0, v4), (0, v5), (0, v6), (0, v7)] [] μ = _
  rw [mE_bk (M := q_M_isThere) k_M_isThere.1 k_M_isThere.2 [3, 16, 44, 45, 77] 400]
  have key : ∀ (C : Nat → List zv → Mu → mR) (E : Nat → List zv → List zv → Mu → mR), mbk C E q_M_isThere.1 q_M_isThere.2.1 z q_M_isThere.2.2.2 [3, 16, 44, 45, 77] 400 (zfind q_M_isThere.2.2.2 16) [(2, 86), (0, v1), (2, v2), (0, v3), (0, v4), (0, v5), (0, v6), (0, v7)] [] μ = bif decide (v4 ≤ v7) then (gA v2 (zw (v3 + v5)) (gI (zw ((zw (12 * v1)) + (μ v2.toNat ((zw (v3 + v5)).toNat)))) 24 (bif decide (v6 ≤ μ 90 ((zw ((zw (12 * v1)) + (μ v2.toNat ((zw (v3 + v5)).toNat)))).toNat)) then (g_M_isThere_77 E v1 v2 v3 v4 v5 μ) else (some (0, μ))))) else (gA v2 (zw (v3 + v7)) (gA v2 (zw (v3 + v5)) (bif !decide (μ v2.toNat ((zw (v3 + v7)).toNat) = μ v2.toNat ((zw (v3 + v5)).toNat)) then (g_M_isThere_44 E v1 v2 v3 v4 v5 v7 v6 μ) else (g_M_isThere_45 E v1 v2 v3 v4 v5 v7 v6 1 μ)))) := by
    intro C E
    rfl
  exact key _ _
set_option maxRecDepth 100000 in
theorem e_M_isThere_77 (z : zZ) (d : Nat) (v1 : Int) (v2 : Int) (v3 : Int) (v4 : Int) (v5 : Int) (μ : Mu) : f_M_isThere_77 z d v1 v2 v3 v4 v5 μ = f_M_isThere_3 z d v1 v2 v3 v4 (zw (v5 + 1)) μ := by
  show mE z d q_M_isThere 77 [(2, 86), (0, v1), (2, v2), (0, v3), (0, v4), (0, v5), (9, 0), (9, 0)] [] μ = _
  rw [mE_bk (M := q_M_isThere) k_M_isThere.1 k_M_isThere.2 [3, 16, 44, 45, 77] 400]
  have key : ∀ (C : Nat → List zv → Mu → mR) (E : Nat → List zv → List zv → Mu → mR), mbk C E q_M_isThere.1 q_M_isThere.2.1 z q_M_isThere.2.2.2 [3, 16, 44, 45, 77] 400 (zfind q_M_isThere.2.2.2 77) [(2, 86), (0, v1), (2, v2), (0, v3), (0, v4), (0, v5), (9, 0), (9, 0)] [] μ = g_M_isThere_3 E v1 v2 v3 v4 (zw (v5 + 1)) μ := by
    intro C E
    rfl
  exact key _ _
set_option maxRecDepth 100000 in
theorem e_M_isThere_44 (z : zZ) (d : Nat) (v1 : Int) (v2 : Int) (v3 : Int) (v4 : Int) (v5 : Int) (v7 : Int) (v100 : Int) (μ : Mu) : f_M_isThere_44 z d v1 v2 v3 v4 v5 v7 v100 μ = f_M_isThere_45 z d v1 v2 v3 v4 v5 v7 v100 0 μ := by
  show mE z d q_M_isThere 44 [(2, 86), (0, v1), (2, v2), (0, v3), (0, v4), (0, v5), (9, 0), (0, v7)] [(0, v100)] μ = _
  rw [mE_bk (M := q_M_isThere) k_M_isThere.1 k_M_isThere.2 [3, 16, 44, 45, 77] 400]
  have key : ∀ (C : Nat → List zv → Mu → mR) (E : Nat → List zv → List zv → Mu → mR), mbk C E q_M_isThere.1 q_M_isThere.2.1 z q_M_isThere.2.2.2 [3, 16, 44, 45, 77] 400 (zfind q_M_isThere.2.2.2 44) [(2, 86), (0, v1), (2, v2), (0, v3), (0, v4), (0, v5), (9, 0), (0, v7)] [(0, v100)] μ = g_M_isThere_45 E v1 v2 v3 v4 v5 v7 v100 0 μ := by
    intro C E
    rfl
  exact key _ _
set_option maxRecDepth 100000 in
theorem e_M_isThere_45 (z : zZ) (d : Nat) (v1 : Int) (v2 : Int) (v3 : Int) (v4 : Int) (v5 : Int) (v7 : Int) (v100 : Int) (v101 : Int) (μ : Mu) : f_M_isThere_45 z d v1 v2 v3 v4 v5 v7 v100 v101 μ = f_M_isThere_16 z d v1 v2 v3 v4 v5 (zw (v100 + v101)) (zw (v7 + 1)) μ := by
  show mE z d q_M_isThere 45 [(2, 86), (0, v1), (2, v2), (0, v3), (0, v4), (0, v5), (9, 0), (0, v7)] [(0, v101), (0, v100)] μ = _
  rw [mE_bk (M := q_M_isThere) k_M_isThere.1 k_M_isThere.2 [3, 16, 44, 45, 77] 400]
  have key : ∀ (C : Nat → List zv → Mu → mR) (E : Nat → List zv → List zv → Mu → mR), mbk C E q_M_isThere.1 q_M_isThere.2.1 z q_M_isThere.2.2.2 [3, 16, 44, 45, 77] 400 (zfind q_M_isThere.2.2.2 45) [(2, 86), (0, v1), (2, v2), (0, v3), (0, v4), (0, v5), (9, 0), (0, v7)] [(0, v101), (0, v100)] μ = g_M_isThere_16 E v1 v2 v3 v4 v5 (zw (v100 + v101)) (zw (v7 + 1)) μ := by
    intro C E
    rfl
  exact key _ _
def g_M_stands_29 (E : Nat → List zv → List zv → Mu → mR) (v101 : Int) (v102 : Int) (μ : Mu) : mR := E 29 [(9, 0), (9, 0), (9, 0), (9, 0)] [(0, v102), (0, v101), (2, 86)] μ
noncomputable def f_M_stands_29 (z : zZ) (d : Nat) (v101 : Int) (v102 : Int) (μ : Mu) : mR := g_M_stands_29 (fun pc ls st μ => mE z d q_M_stands pc ls st μ) v101 v102 μ
theorem k_M_stands : zprK q_M_stands.2.2.2 = true ∧ zinc q_M_stands.2.2.2 = true := by decide +kernel
set_option maxRecDepth 100000 in
theorem c_M_stands (z : zZ) (d : Nat) (v1 : Int) (v2 : Int) (v3 : Int) (μ : Mu) : mC z (d + 1) 238 [(2, 86), (0, v1), (0, v2), (0, v3)] μ = bif decide (v3 = 0) then ((mC z d 199 [(2, 86), (0, v1)] μ).bind fun q1 => (f_M_stands_29 z d v1 (z_and q1.1 (z_xor (z_shl 1 v2) ((-1)))) q1.2)) else ((mC z d 199 [(2, 86), (0, v1)] μ).bind fun q2 => (f_M_stands_29 z d v1 (z_or q2.1 (z_shl 1 v2)) q2.2)) := by
  rw [mC_succ q_M_stands rfl rfl rfl]
  rw [mE_bk (M := q_M_stands) k_M_stands.1 k_M_stands.2 [29] 400]
  have key : ∀ (C : Nat → List zv → Mu → mR) (E : Nat → List zv → List zv → Mu → mR), mbk C E q_M_stands.1 q_M_stands.2.1 z q_M_stands.2.2.2 [29] 400 (zfind q_M_stands.2.2.2 0) (zentry q_M_stands.2.2.1 [(2, 86), (0, v1), (0, v2), (0, v3)]) [] μ = bif decide (v3 = 0) then ((C 199 [(2, 86), (0, v1)] μ).bind fun q1 => (g_M_stands_29 E v1 (z_and q1.1 (z_xor (z_shl 1 v2) ((-1)))) q1.2)) else ((C 199 [(2, 86), (0, v1)] μ).bind fun q2 => (g_M_stands_29 E v1 (z_or q2.1 (z_shl 1 v2)) q2.2)) := by
    intro C E
    rfl
  exact key _ _
set_option maxRecDepth 100000 in
theorem e_M_stands_29 (z : zZ) (d : Nat) (v101 : Int) (v102 : Int) (μ : Mu) : f_M_stands_29 z d v101 v102 μ = (mC z d 207 [(2, 86), (0, v101), (0, v102)] μ).bind fun q1 => (some (0, q1.2)) := by
  show mE z d q_M_stands 29 [(9, 0), (9, 0), (9, 0), (9, 0)] [(0, v102), (0, v101), (2, 86)] μ = _
  rw [mE_bk (M := q_M_stands) k_M_stands.1 k_M_stands.2 [29] 400]
  have key : ∀ (C : Nat → List zv → Mu → mR) (E : Nat → List zv → List zv → Mu → mR), mbk C E q_M_stands.1 q_M_stands.2.1 z q_M_stands.2.2.2 [29] 400 (zfind q_M_stands.2.2.2 29) [(9, 0), (9, 0), (9, 0), (9, 0)] [(0, v102), (0, v101), (2, 86)] μ = (C 207 [(2, 86), (0, v101), (0, v102)] μ).bind fun q1 => (some (0, q1.2)) := by
    intro C E
    rfl
  exact key _ _
def g_M_turns_10 (E : Nat → List zv → List zv → Mu → mR) (v1 : Int) (v2 : Int) (v3 : Int) (v4 : Int) (μ : Mu) : mR := E 10 [(2, 86), (0, v1), (0, v2), (0, v3), (0, v4)] [] μ
noncomputable def f_M_turns_10 (z : zZ) (d : Nat) (v1 : Int) (v2 : Int) (v3 : Int) (v4 : Int) (μ : Mu) : mR := g_M_turns_10 (fun pc ls st μ => mE z d q_M_turns pc ls st μ) v1 v2 v3 v4 μ
def g_M_turns_84 (E : Nat → List zv → List zv → Mu → mR) (μ : Mu) : mR := E 84 [(9, 0), (9, 0), (9, 0), (9, 0), (9, 0)] [] μ
noncomputable def f_M_turns_84 (z : zZ) (d : Nat) (μ : Mu) : mR := g_M_turns_84 (fun pc ls st μ => mE z d q_M_turns pc ls st μ) μ
def g_M_turns_86 (E : Nat → List zv → List zv → Mu → mR) (v1 : Int) (v2 : Int) (v4 : Int) (μ : Mu) : mR := E 86 [(2, 86), (0, v1), (0, v2), (9, 0), (0, v4)] [] μ
noncomputable def f_M_turns_86 (z : zZ) (d : Nat) (v1 : Int) (v2 : Int) (v4 : Int) (μ : Mu) : mR := g_M_turns_86 (fun pc ls st μ => mE z d q_M_turns pc ls st μ) v1 v2 v4 μ
theorem k_M_turns : zprK q_M_turns.2.2.2 = true ∧ zinc q_M_turns.2.2.2 = true := by decide +kernel
set_option maxRecDepth 100000 in
theorem c_M_turns (z : zZ) (d : Nat) (v1 : Int) (v2 : Int) (μ : Mu) : mC z (d + 1) 239 [(2, 86), (0, v1), (0, v2)] μ = (mC z d 202 [(2, 86), (0, v1), (0, v2)] μ).bind fun q1 => (f_M_turns_10 z d v1 v2 q1.1 0 q1.2) := by
  rw [mC_succ q_M_turns rfl rfl rfl]
  rw [mE_bk (M := q_M_turns) k_M_turns.1 k_M_turns.2 [10, 84, 86] 400]
  have key : ∀ (C : Nat → List zv → Mu → mR) (E : Nat → List zv → List zv → Mu → mR), mbk C E q_M_turns.1 q_M_turns.2.1 z q_M_turns.2.2.2 [10, 84, 86] 400 (zfind q_M_turns.2.2.2 0) (zentry q_M_turns.2.2.1 [(2, 86), (0, v1), (0, v2)]) [] μ = (C 202 [(2, 86), (0, v1), (0, v2)] μ).bind fun q1 => (g_M_turns_10 E v1 v2 q1.1 0 q1.2) := by
    intro C E
    rfl
  exact key _ _
set_option maxRecDepth 100000 in
theorem e_M_turns_10 (z : zZ) (d : Nat) (v1 : Int) (v2 : Int) (v3 : Int) (v4 : Int) (μ : Mu) : f_M_turns_10 z d v1 v2 v3 v4 μ = bif decide (v3 ≤ v4) then ((mC z d 206 [(2, 86), (0, v1), (2, 118), (0, 0), (0, v3)] μ).bind fun q1 => (bif decide (q1.1 = (-1)) then (f_M_turns_84 z d q1.2) else (bif decide (q1.1 = v2) then (f_M_turns_84 z d q1.2) else ((mC z d 199 [(2, 86), (0, v1)] q1.2).bind fun q2 => ((mC z d 189 [(0, q2.1), (0, q1.1)] q2.2).bind fun q3 => (bif decide (q3.1 = 0) then (f_M_turns_86 z d v1 v2 q1.1 q3.2) else (f_M_turns_84 z d q3.2))))))) else ((mC z d 201 [(0, v1), (0, v2)] μ).bind fun q4 => (gI (zw ((zw ((zw (q4.1 + v3)) - 1)) - v4)) 192 (gI v4 8 (f_M_turns_10 z d v1 v2 v3 (zw (v4 + 1)) (zup q4.2 118 v4.toNat (q4.2 94 ((zw ((zw ((zw (q4.1 + v3)) - 1)) - v4)).toNat))))))) := by
  show mE z d q_M_turns 10 [(2, 86), (0, v1), (0, v2), (0, v3), (0, v4)] [] μ = _
  rw [mE_bk (M := q_M_turns) k_M_turns.1 k_M_turns.2 [10, 84, 86] 400]
  have key : ∀ (C : Nat → List zv → Mu → mR) (E : Nat → List zv → List zv → Mu → mR), mbk C E q_M_turns.1 q_M_turns.2.1 z q_M_turns.2.2.2 [10, 84, 86] 400 (zfind q_M_turns.2.2.2 10) [(2, 86), (0, v1), (0, v2), (0, v3), (0, v4)] [] μ = bif decide (v3 ≤ v4) then ((C 206 [(2, 86), (0, v1), (2, 118), (0, 0), (0, v3)] μ).bind fun q1 => (bif decide (q1.1 = (-1)) then (g_M_turns_84 E q1.2) else (bif decide (q1.1 = v2) then (g_M_turns_84 E q1.2) else ((C 199 [(2, 86), (0, v1)] q1.2).bind fun q2 => ((C 189 [(0, q2.1), (0, q1.1)] q2.2).bind fun q3 => (bif decide (q3.1 = 0) then (g_M_turns_86 E v1 v2 q1.1 q3.2) else (g_M_turns_84 E q3.2))))))) else ((C 201 [(0, v1), (0, v2)] μ).bind fun q4 => (gI (zw ((zw ((zw (q4.1 + v3)) - 1)) - v4)) 192 (gI v4 8 (g_M_turns_10 E v1 v2 v3 (zw (v4 + 1)) (zup q4.2 118 v4.toNat (q4.2 94 ((zw ((zw ((zw (q4.1 + v3)) - 1)) - v4)).toNat))))))) := by
    intro C E
    rfl
  exact key _ _
set_option maxRecDepth 100000 in
theorem e_M_turns_84 (z : zZ) (d : Nat) (μ : Mu) : f_M_turns_84 z d μ = some (0, μ) := by
  show mE z d q_M_turns 84 [(9, 0), (9, 0), (9, 0), (9, 0), (9, 0)] [] μ = _
  rw [mE_bk (M := q_M_turns) k_M_turns.1 k_M_turns.2 [10, 84, 86] 400]
  have key : ∀ (C : Nat → List zv → Mu → mR) (E : Nat → List zv → List zv → Mu → mR), mbk C E q_M_turns.1 q_M_turns.2.1 z q_M_turns.2.2.2 [10, 84, 86] 400 (zfind q_M_turns.2.2.2 84) [(9, 0), (9, 0), (9, 0), (9, 0), (9, 0)] [] μ = some (0, μ) := by
    intro C E
    rfl
  exact key _ _
set_option maxRecDepth 100000 in
theorem e_M_turns_86 (z : zZ) (d : Nat) (v1 : Int) (v2 : Int) (v4 : Int) (μ : Mu) : f_M_turns_86 z d v1 v2 v4 μ = (mC z d 238 [(2, 86), (0, v1), (0, v2), (0, 0)] μ).bind fun q1 => ((mC z d 238 [(2, 86), (0, v1), (0, v4), (0, 1)] q1.2).bind fun q2 => (some (1, q2.2))) := by
  show mE z d q_M_turns 86 [(2, 86), (0, v1), (0, v2), (9, 0), (0, v4)] [] μ = _
  rw [mE_bk (M := q_M_turns) k_M_turns.1 k_M_turns.2 [10, 84, 86] 400]
  have key : ∀ (C : Nat → List zv → Mu → mR) (E : Nat → List zv → List zv → Mu → mR), mbk C E q_M_turns.1 q_M_turns.2.1 z q_M_turns.2.2.2 [10, 84, 86] 400 (zfind q_M_turns.2.2.2 86) [(2, 86), (0, v1), (0, v2), (9, 0), (0, v4)] [] μ = (C 238 [(2, 86), (0, v1), (0, v2), (0, 0)] μ).bind fun q1 => ((C 238 [(2, 86), (0, v1), (0, v4), (0, 1)] q1.2).bind fun q2 => (some (1, q2.2))) := by
    intro C E
    rfl
  exact key _ _
def g_M_spies_31 (E : Nat → List zv → List zv → Mu → mR) (v1 : Int) (v2 : Int) (v3 : Int) (v4 : Int) (v5 : Int) (v6 : Int) (μ : Mu) : mR := E 31 [(2, 86), (0, v1), (0, v2), (0, v3), (0, v4), (0, v5), (0, v6), (9, 0), (9, 0)] [] μ
noncomputable def f_M_spies_31 (z : zZ) (d : Nat) (v1 : Int) (v2 : Int) (v3 : Int) (v4 : Int) (v5 : Int) (v6 : Int) (μ : Mu) : mR := g_M_spies_31 (fun pc ls st μ => mE z d q_M_spies pc ls st μ) v1 v2 v3 v4 v5 v6 μ
def g_M_spies_34 (E : Nat → List zv → List zv → Mu → mR) (v1 : Int) (v2 : Int) (v3 : Int) (v4 : Int) (v5 : Int) (v6 : Int) (v7 : Int) (μ : Mu) : mR := E 34 [(2, 86), (0, v1), (0, v2), (0, v3), (0, v4), (0, v5), (0, v6), (0, v7), (9, 0)] [] μ
noncomputable def f_M_spies_34 (z : zZ) (d : Nat) (v1 : Int) (v2 : Int) (v3 : Int) (v4 : Int) (v5 : Int) (v6 : Int) (v7 : Int) (μ : Mu) : mR := g_M_spies_34 (fun pc ls st μ => mE z d q_M_spies pc ls st μ) v1 v2 v3 v4 v5 v6 v7 μ
def g_M_spies_119 (E : Nat → List zv → List zv → Mu → mR) (μ : Mu) : mR := E 119 [(9, 0), (9, 0), (9, 0), (9, 0), (9, 0), (9, 0), (9, 0), (9, 0), (9, 0)] [] μ
noncomputable def f_M_spies_119 (z : zZ) (d : Nat) (μ : Mu) : mR := g_M_spies_119 (fun pc ls st μ => mE z d q_M_spies pc ls st μ) μ
def g_M_spies_121 (E : Nat → List zv → List zv → Mu → mR) (v1 : Int) (v2 : Int) (v4 : Int) (v5 : Int) (v7 : Int) (v8 : Int) (μ : Mu) : mR := E 121 [(2, 86), (0, v1), (0, v2), (9, 0), (0, v4), (0, v5), (9, 0), (0, v7), (0, v8)] [] μ
noncomputable def f_M_spies_121 (z : zZ) (d : Nat) (v1 : Int) (v2 : Int) (v4 : Int) (v5 : Int) (v7 : Int) (v8 : Int) (μ : Mu) : mR := g_M_spies_121 (fun pc ls st μ => mE z d q_M_spies pc ls st μ) v1 v2 v4 v5 v7 v8 μ
theorem k_M_spies : zprK q_M_spies.2.2.2 = true ∧ zinc q_M_spies.2.2.2 = true := by decide +kernel
set_option maxRecDepth 100000 in
theorem c_M_spies (z : zZ) (d : Nat) (v1 : Int) (v2 : Int) (v3 : Int) (v4 : Int) (μ : Mu) : mC z (d + 1) 240 [(2, 86), (0, v1), (0, v2), (0, v3), (0, v4)] μ = (mC z d 202 [(2, 86), (0, zw (1 - v1)), (0, v2)] μ).bind fun q1 => (gI (zw ((zw (12 * v1)) + v4)) 24 (bif !decide (q1.2 90 ((zw ((zw (12 * v1)) + v4)).toNat) = 0) then (f_M_spies_31 z d v1 v2 v3 v4 (zw (1 - v1)) q1.1 q1.2) else (some (0, q1.2)))) := by
  rw [mC_succ q_M_spies rfl rfl rfl]
  rw [mE_bk (M := q_M_spies) k_M_spies.1 k_M_spies.2 [31, 34, 119, 121] 400]
  have key : ∀ (C : Nat → List zv → Mu → mR) (E : Nat → List zv → List zv → Mu → mR), mbk C E q_M_spies.1 q_M_spies.2.1 z q_M_spies.2.2.2 [31, 34, 119, 121] 400 (zfind q_M_spies.2.2.2 0) (zentry q_M_spies.2.2.1 [(2, 86), (0, v1), (0, v2), (0, v3), (0, v4)]) [] μ = (C 202 [(2, 86), (0, zw (1 - v1)), (0, v2)] μ).bind fun q1 => (gI (zw ((zw (12 * v1)) + v4)) 24 (bif !decide (q1.2 90 ((zw ((zw (12 * v1)) + v4)).toNat) = 0) then (g_M_spies_31 E v1 v2 v3 v4 (zw (1 - v1)) q1.1 q1.2) else (some (0, q1.2)))) := by
    intro C E
    rfl
  exact key _ _
set_option maxRecDepth 100000 in
theorem e_M_spies_31 (z : zZ) (d : Nat) (v1 : Int) (v2 : Int) (v3 : Int) (v4 : Int) (v5 : Int) (v6 : Int) (μ : Mu) : f_M_spies_31 z d v1 v2 v3 v4 v5 v6 μ = f_M_spies_34 z d v1 v2 v3 v4 v5 v6 0 μ := by
  show mE z d q_M_spies 31 [(2, 86), (0, v1), (0, v2), (0, v3), (0, v4), (0, v5), (0, v6), (9, 0), (9, 0)] [] μ = _
  rw [mE_bk (M := q_M_spies) k_M_spies.1 k_M_spies.2 [31, 34, 119, 121] 400]
  have key : ∀ (C : Nat → List zv → Mu → mR) (E : Nat → List zv → List zv → Mu → mR), mbk C E q_M_spies.1 q_M_spies.2.1 z q_M_spies.2.2.2 [31, 34, 119, 121] 400 (zfind q_M_spies.2.2.2 31) [(2, 86), (0, v1), (0, v2), (0, v3), (0, v4), (0, v5), (0, v6), (9, 0), (9, 0)] [] μ = g_M_spies_34 E v1 v2 v3 v4 v5 v6 0 μ := by
    intro C E
    rfl
  exact key _ _
set_option maxRecDepth 100000 in
theorem e_M_spies_34 (z : zZ) (d : Nat) (v1 : Int) (v2 : Int) (v3 : Int) (v4 : Int) (v5 : Int) (v6 : Int) (v7 : Int) (μ : Mu) : f_M_spies_34 z d v1 v2 v3 v4 v5 v6 v7 μ = bif decide (v6 ≤ v7) then (gI v3 8 (gI v3 8 ((mC z d 206 [(2, 86), (0, v5), (2, 118), (0, 0), (0, v6)] (zup μ 118 v3.toNat v4)).bind fun q1 => (bif decide (q1.1 = (-1)) then (f_M_spies_119 z d q1.2) else ((mC z d 199 [(2, 86), (0, v5)] q1.2).bind fun q2 => ((mC z d 189 [(0, q2.1), (0, q1.1)] q2.2).bind fun q3 => (bif decide (q3.1 = 0) then (f_M_spies_121 z d v1 v2 v4 v5 (μ 118 v3.toNat) q1.1 q3.2) else (f_M_spies_119 z d q3.2)))))))) else ((mC z d 201 [(0, v5), (0, v2)] μ).bind fun q4 => (gI (zw (q4.1 + v7)) 192 (gI v7 8 (f_M_spies_34 z d v1 v2 v3 v4 v5 v6 (zw (v7 + 1)) (zup q4.2 118 v7.toNat (q4.2 94 ((zw (q4.1 + v7)).toNat))))))) := by
  show mE z d q_M_spies 34 [(2, 86), (0, v1), (0, v2), (0, v3), (0, v4), (0, v5), (0, v6), (0, v7), (9, 0)] [] μ = _
  rw [mE_bk (M := q_M_spies) k_M_spies.1 k_M_spies.2 [31, 34, 119, 121] 400]
  have key : ∀ (C : Nat → List zv → Mu → mR) (E : Nat → List zv → List zv → Mu → mR), mbk C E q_M_spies.1 q_M_spies.2.1 z q_M_spies.2.2.2 [31, 34, 119, 121] 400 (zfind q_M_spies.2.2.2 34) [(2, 86), (0, v1), (0, v2), (0, v3), (0, v4), (0, v5), (0, v6), (0, v7), (9, 0)] [] μ = bif decide (v6 ≤ v7) then (gI v3 8 (gI v3 8 ((C 206 [(2, 86), (0, v5), (2, 118), (0, 0), (0, v6)] (zup μ 118 v3.toNat v4)).bind fun q1 => (bif decide (q1.1 = (-1)) then (g_M_spies_119 E q1.2) else ((C 199 [(2, 86), (0, v5)] q1.2).bind fun q2 => ((C 189 [(0, q2.1), (0, q1.1)] q2.2).bind fun q3 => (bif decide (q3.1 = 0) then (g_M_spies_121 E v1 v2 v4 v5 (μ 118 v3.toNat) q1.1 q3.2) else (g_M_spies_119 E q3.2)))))))) else ((C 201 [(0, v5), (0, v2)] μ).bind fun q4 => (gI (zw (q4.1 + v7)) 192 (gI v7 8 (g_M_spies_34 E v1 v2 v3 v4 v5 v6 (zw (v7 + 1)) (zup q4.2 118 v7.toNat (q4.2 94 ((zw (q4.1 + v7)).toNat))))))) := by
    intro C E
    rfl
  exact key _ _
set_option maxRecDepth 100000 in
theorem e_M_spies_119 (z : zZ) (d : Nat) (μ : Mu) : f_M_spies_119 z d μ = some (0, μ) := by
  show mE z d q_M_spies 119 [(9, 0), (9, 0), (9, 0), (9, 0), (9, 0), (9, 0), (9, 0), (9, 0), (9, 0)] [] μ = _
  rw [mE_bk (M := q_M_spies) k_M_spies.1 k_M_spies.2 [31, 34, 119, 121] 400]
  have key : ∀ (C : Nat → List zv → Mu → mR) (E : Nat → List zv → List zv → Mu → mR), mbk C E q_M_spies.1 q_M_spies.2.1 z q_M_spies.2.2.2 [31, 34, 119, 121] 400 (zfind q_M_spies.2.2.2 119) [(9, 0), (9, 0), (9, 0), (9, 0), (9, 0), (9, 0), (9, 0), (9, 0), (9, 0)] [] μ = some (0, μ) := by
    intro C E
    rfl
  exact key _ _
set_option maxRecDepth 100000 in
theorem e_M_spies_121 (z : zZ) (d : Nat) (v1 : Int) (v2 : Int) (v4 : Int) (v5 : Int) (v7 : Int) (v8 : Int) (μ : Mu) : f_M_spies_121 z d v1 v2 v4 v5 v7 v8 μ = gI (zw ((zw (12 * v1)) + v4)) 24 (gI (zw ((zw (12 * v1)) + v4)) 24 ((mC z d 204 [(2, 91), (0, zw ((zw (12 * v5)) + v7)), (0, 1)] (zup μ 90 ((zw ((zw (12 * v1)) + v4)).toNat) (zw ((μ 90 ((zw ((zw (12 * v1)) + v4)).toNat)) - 1)))).bind fun q1 => ((mC z d 238 [(2, 86), (0, v5), (0, v2), (0, 0)] q1.2).bind fun q2 => ((mC z d 238 [(2, 86), (0, v5), (0, v8), (0, 1)] q2.2).bind fun q3 => (some (1, q3.2)))))) := by
  show mE z d q_M_spies 121 [(2, 86), (0, v1), (0, v2), (9, 0), (0, v4), (0, v5), (9, 0), (0, v7), (0, v8)] [] μ = _
  rw [mE_bk (M := q_M_spies) k_M_spies.1 k_M_spies.2 [31, 34, 119, 121] 400]
  have key : ∀ (C : Nat → List zv → Mu → mR) (E : Nat → List zv → List zv → Mu → mR), mbk C E q_M_spies.1 q_M_spies.2.1 z q_M_spies.2.2.2 [31, 34, 119, 121] 400 (zfind q_M_spies.2.2.2 121) [(2, 86), (0, v1), (0, v2), (9, 0), (0, v4), (0, v5), (9, 0), (0, v7), (0, v8)] [] μ = gI (zw ((zw (12 * v1)) + v4)) 24 (gI (zw ((zw (12 * v1)) + v4)) 24 ((C 204 [(2, 91), (0, zw ((zw (12 * v5)) + v7)), (0, 1)] (zup μ 90 ((zw ((zw (12 * v1)) + v4)).toNat) (zw ((μ 90 ((zw ((zw (12 * v1)) + v4)).toNat)) - 1)))).bind fun q1 => ((C 238 [(2, 86), (0, v5), (0, v2), (0, 0)] q1.2).bind fun q2 => ((C 238 [(2, 86), (0, v5), (0, v8), (0, 1)] q2.2).bind fun q3 => (some (1, q3.2)))))) := by
    intro C E
    rfl
  exact key _ _
def g_M_isBeating_48 (E : Nat → List zv → List zv → Mu → mR) (μ : Mu) : mR := E 48 [(9, 0), (9, 0), (9, 0), (9, 0)] [] μ
noncomputable def f_M_isBeating_48 (z : zZ) (d : Nat) (μ : Mu) : mR := g_M_isBeating_48 (fun pc ls st μ => mE z d q_M_isBeating pc ls st μ) μ
def g_M_isBeating_49 (E : Nat → List zv → List zv → Mu → mR) (v100 : Int) (μ : Mu) : mR := E 49 [(9, 0), (9, 0), (9, 0), (9, 0)] [(0, v100)] μ
noncomputable def f_M_isBeating_49 (z : zZ) (d : Nat) (v100 : Int) (μ : Mu) : mR := g_M_isBeating_49 (fun pc ls st μ => mE z d q_M_isBeating pc ls st μ) v100 μ
theorem k_M_isBeating : zprK q_M_isBeating.2.2.2 = true ∧ zinc q_M_isBeating.2.2.2 = true := by decide +kernel
set_option maxRecDepth 100000 in
theorem c_M_isBeating (z : zZ) (d : Nat) (v1 : Int) (v2 : Int) (v3 : Int) (μ : Mu) : mC z (d + 1) 241 [(2, 86), (0, v1), (0, v2), (0, v3)] μ = (mC z d 201 [(0, v1), (0, v2)] μ).bind fun q1 => ((mC z d 202 [(2, 86), (0, v1), (0, v2)] q1.2).bind fun q2 => ((mC z d 201 [(0, zw (1 - v1)), (0, v3)] q2.2).bind fun q3 => ((mC z d 202 [(2, 86), (0, zw (1 - v1)), (0, v3)] q3.2).bind fun q4 => ((mC z d 242 [(2, 86), (0, zw (1 - v1)), (2, 94), (0, q1.1), (0, q2.1), (2, 94), (0, q3.1), (0, q4.1)] q4.2).bind fun q5 => (bif decide (0 ≤ q5.1) then (f_M_isBeating_48 z d q5.2) else (f_M_isBeating_49 z d 1 q5.2)))))) := by
  rw [mC_succ q_M_isBeating rfl rfl rfl]
  rw [mE_bk (M := q_M_isBeating) k_M_isBeating.1 k_M_isBeating.2 [48, 49] 400]
  have key : ∀ (C : Nat → List zv → Mu → mR) (E : Nat → List zv → List zv → Mu → mR), mbk C E q_M_isBeating.1 q_M_isBeating.2.1 z q_M_isBeating.2.2.2 [48, 49] 400 (zfind q_M_isBeating.2.2.2 0) (zentry q_M_isBeating.2.2.1 [(2, 86), (0, v1), (0, v2), (0, v3)]) [] μ = (C 201 [(0, v1), (0, v2)] μ).bind fun q1 => ((C 202 [(2, 86), (0, v1), (0, v2)] q1.2).bind fun q2 => ((C 201 [(0, zw (1 - v1)), (0, v3)] q2.2).bind fun q3 => ((C 202 [(2, 86), (0, zw (1 - v1)), (0, v3)] q3.2).bind fun q4 => ((C 242 [(2, 86), (0, zw (1 - v1)), (2, 94), (0, q1.1), (0, q2.1), (2, 94), (0, q3.1), (0, q4.1)] q4.2).bind fun q5 => (bif decide (0 ≤ q5.1) then (g_M_isBeating_48 E q5.2) else (g_M_isBeating_49 E 1 q5.2)))))) := by
    intro C E
    rfl
  exact key _ _
set_option maxRecDepth 100000 in
theorem e_M_isBeating_48 (z : zZ) (d : Nat) (μ : Mu) : f_M_isBeating_48 z d μ = f_M_isBeating_49 z d 0 μ := by
  show mE z d q_M_isBeating 48 [(9, 0), (9, 0), (9, 0), (9, 0)] [] μ = _
  rw [mE_bk (M := q_M_isBeating) k_M_isBeating.1 k_M_isBeating.2 [48, 49] 400]
  have key : ∀ (C : Nat → List zv → Mu → mR) (E : Nat → List zv → List zv → Mu → mR), mbk C E q_M_isBeating.1 q_M_isBeating.2.1 z q_M_isBeating.2.2.2 [48, 49] 400 (zfind q_M_isBeating.2.2.2 48) [(9, 0), (9, 0), (9, 0), (9, 0)] [] μ = g_M_isBeating_49 E 0 μ := by
    intro C E
    rfl
  exact key _ _
set_option maxRecDepth 100000 in
theorem e_M_isBeating_49 (z : zZ) (d : Nat) (v100 : Int) (μ : Mu) : f_M_isBeating_49 z d v100 μ = g01 v100 (some (v100, μ)) := by
  show mE z d q_M_isBeating 49 [(9, 0), (9, 0), (9, 0), (9, 0)] [(0, v100)] μ = _
  rw [mE_bk (M := q_M_isBeating) k_M_isBeating.1 k_M_isBeating.2 [48, 49] 400]
  have key : ∀ (C : Nat → List zv → Mu → mR) (E : Nat → List zv → List zv → Mu → mR), mbk C E q_M_isBeating.1 q_M_isBeating.2.1 z q_M_isBeating.2.2.2 [48, 49] 400 (zfind q_M_isBeating.2.2.2 49) [(9, 0), (9, 0), (9, 0), (9, 0)] [(0, v100)] μ = g01 v100 (some (v100, μ)) := by
    intro C E
    rfl
  exact key _ _
def g_M_compare_3 (E : Nat → List zv → List zv → Mu → mR) (v1 : Int) (v2 : Int) (v3 : Int) (v4 : Int) (v5 : Int) (v6 : Int) (v7 : Int) (v8 : Int) (μ : Mu) : mR := E 3 [(2, 86), (0, v1), (2, v2), (0, v3), (0, v4), (2, v5), (0, v6), (0, v7), (0, v8), (9, 0)] [] μ
noncomputable def f_M_compare_3 (z : zZ) (d : Nat) (v1 : Int) (v2 : Int) (v3 : Int) (v4 : Int) (v5 : Int) (v6 : Int) (v7 : Int) (v8 : Int) (μ : Mu) : mR := g_M_compare_3 (fun pc ls st μ => mE z d q_M_compare pc ls st μ) v1 v2 v3 v4 v5 v6 v7 v8 μ
def g_M_compare_62 (E : Nat → List zv → List zv → Mu → mR) (v1 : Int) (v2 : Int) (v3 : Int) (v4 : Int) (v5 : Int) (v6 : Int) (v7 : Int) (v8 : Int) (μ : Mu) : mR := E 62 [(2, 86), (0, v1), (2, v2), (0, v3), (0, v4), (2, v5), (0, v6), (0, v7), (0, v8), (9, 0)] [] μ
noncomputable def f_M_compare_62 (z : zZ) (d : Nat) (v1 : Int) (v2 : Int) (v3 : Int) (v4 : Int) (v5 : Int) (v6 : Int) (v7 : Int) (v8 : Int) (μ : Mu) : mR := g_M_compare_62 (fun pc ls st μ => mE z d q_M_compare pc ls st μ) v1 v2 v3 v4 v5 v6 v7 v8 μ
def g_M_compare_68 (E : Nat → List zv → List zv → Mu → mR) (v4 : Int) (v7 : Int) (μ : Mu) : mR := E 68 [(9, 0), (9, 0), (9, 0), (9, 0), (0, v4), (9, 0), (9, 0), (0, v7), (9, 0), (9, 0)] [] μ
noncomputable def f_M_compare_68 (z : zZ) (d : Nat) (v4 : Int) (v7 : Int) (μ : Mu) : mR := g_M_compare_68 (fun pc ls st μ => mE z d q_M_compare pc ls st μ) v4 v7 μ
theorem k_M_compare : zprK q_M_compare.2.2.2 = true ∧ zinc q_M_compare.2.2.2 = true := by decide +kernel
set_option maxRecDepth 100000 in
theorem c_M_compare (z : zZ) (d : Nat) (v1 : Int) (v2 : Int) (v3 : Int) (v4 : Int) (v5 : Int) (v6 : Int) (v7 : Int) (μ : Mu) : mC z (d + 1) 242 [(2, 86), (0, v1), (2, v2), (0, v3), (0, v4), (2, v5), (0, v6), (0, v7)] μ = f_M_compare_3 z d v1 v2 v3 v4 v5 v6 v7 0 μ := by
  rw [mC_succ q_M_compare rfl rfl rfl]
  rw [mE_bk (M := q_M_compare) k_M_compare.1 k_M_compare.2 [3, 62, 68] 400]
  have key : ∀ (C : Nat → List zv → Mu → mR) (E : Nat → List zv → List zv → Mu → mR), mbk C E q_M_compare.1 q_M_compare.2.1 z q_M_compare.2.2.2 [3, 62, 68] 400 (zfind q_M_compare.2.2.2 0) (zentry q_M_compare.2.2.1 [(2, 86), (0, v1), (2, v2), (0, v3), (0, v4), (2, v5), (0, v6), (0, v7)]) [] μ = g_M_compare_3 E v1 v2 v3 v4 v5 v6 v7 0 μ := by
    intro C E
    rfl
  exact key _ _
set_option maxRecDepth 100000 in
theorem e_M_compare_3 (z : zZ) (d : Nat) (v1 : Int) (v2 : Int) (v3 : Int) (v4 : Int) (v5 : Int) (v6 : Int) (v7 : Int) (v8 : Int) (μ : Mu) : f_M_compare_3 z d v1 v2 v3 v4 v5 v6 v7 v8 μ = bif decide (v4 ≤ v8) then (f_M_compare_68 z d v4 v7 μ) else (bif decide (v7 ≤ v8) then (f_M_compare_68 z d v4 v7 μ) else (gA v2 (zw (v3 + v8)) (gI (zw ((zw (12 * v1)) + (μ v2.toNat ((zw (v3 + v8)).toNat)))) 24 (gA v5 (zw (v6 + v8)) (gI (zw ((zw (12 * v1)) + (μ v5.toNat ((zw (v6 + v8)).toNat)))) 24 (bif decide (zw ((μ 89 ((zw ((zw (12 * v1)) + (μ v2.toNat ((zw (v3 + v8)).toNat)))).toNat)) - (μ 89 ((zw ((zw (12 * v1)) + (μ v5.toNat ((zw (v6 + v8)).toNat)))).toNat))) = 0) then (f_M_compare_62 z d v1 v2 v3 v4 v5 v6 v7 v8 μ) else (some (zw ((μ 89 ((zw ((zw (12 * v1)) + (μ v2.toNat ((zw (v3 + v8)).toNat)))).toNat)) - (μ 89 ((zw ((zw (12 * v1)) + (μ v5.toNat ((zw (v6 + v8)).toNat)))).toNat))), μ)))))))) := by
  show mE z d q_M_compare 3 [(2, 86), (0, v1), (2, v2), (0, v3), (0, v4), (2, v5), (0, v6), (0, v7), (0, v8), (9, 0)] [] μ = _
  rw [mE_bk (M := q_M_compare) k_M_compare.1 k_M_compare.2 [3, 62, 68] 400]
  have key : ∀ (C : Nat → List zv → Mu → mR) (E : Nat → List zv → List zv → Mu → mR), mbk C E q_M_compare.1 q_M_compare.2.1 z q_M_compare.2.2.2 [3, 62, 68] 400 (zfind q_M_compare.2.2.2 3) [(2, 86), (0, v1), (2, v2), (0, v3), (0, v4), (2, v5), (0, v6), (0, v7), (0, v8), (9, 0)] [] μ = bif decide (v4 ≤ v8) then (g_M_compare_68 E v4 v7 μ) else (bif decide (v7 ≤ v8) then (g_M_compare_68 E v4 v7 μ) else (gA v2 (zw (v3 + v8)) (gI (zw ((zw (12 * v1)) + (μ v2.toNat ((zw (v3 + v8)).toNat)))) 24 (gA v5 (zw (v6 + v8)) (gI (zw ((zw (12 * v1)) + (μ v5.toNat ((zw (v6 + v8)).toNat)))) 24 (bif decide (zw ((μ 89 ((zw ((zw (12 * v1)) + (μ v2.toNat ((zw (v3 + v8)).toNat)))).toNat)) - (μ 89 ((zw ((zw (12 * v1)) + (μ v5.toNat ((zw (v6 + v8)).toNat)))).toNat))) = 0) then (g_M_compare_62 E v1 v2 v3 v4 v5 v6 v7 v8 μ) else (some (zw ((μ 89 ((zw ((zw (12 * v1)) + (μ v2.toNat ((zw (v3 + v8)).toNat)))).toNat)) - (μ 89 ((zw ((zw (12 * v1)) + (μ v5.toNat ((zw (v6 + v8)).toNat)))).toNat))), μ)))))))) := by
    intro C E
    rfl
  exact key _ _
set_option maxRecDepth 100000 in
theorem e_M_compare_68 (z : zZ) (d : Nat) (v4 : Int) (v7 : Int) (μ : Mu) : f_M_compare_68 z d v4 v7 μ = some (zw (v4 - v7), μ) := by
  show mE z d q_M_compare 68 [(9, 0), (9, 0), (9, 0), (9, 0), (0, v4), (9, 0), (9, 0), (0, v7), (9, 0), (9, 0)] [] μ = _
  rw [mE_bk (M := q_M_compare) k_M_compare.1 k_M_compare.2 [3, 62, 68] 400]
  have key : ∀ (C : Nat → List zv → Mu → mR) (E : Nat → List zv → List zv → Mu → mR), mbk C E q_M_compare.1 q_M_compare.2.1 z q_M_compare.2.2.2 [3, 62, 68] 400 (zfind q_M_compare.2.2.2 68) [(9, 0), (9, 0), (9, 0), (9, 0), (0, v4), (9, 0), (9, 0), (0, v7), (9, 0), (9, 0)] [] μ = some (zw (v4 - v7), μ) := by
    intro C E
    rfl
  exact key _ _
set_option maxRecDepth 100000 in
theorem e_M_compare_62 (z : zZ) (d : Nat) (v1 : Int) (v2 : Int) (v3 : Int) (v4 : Int) (v5 : Int) (v6 : Int) (v7 : Int) (v8 : Int) (μ : Mu) : f_M_compare_62 z d v1 v2 v3 v4 v5 v6 v7 v8 μ = f_M_compare_3 z d v1 v2 v3 v4 v5 v6 v7 (zw (v8 + 1)) μ := by
  show mE z d q_M_compare 62 [(2, 86), (0, v1), (2, v2), (0, v3), (0, v4), (2, v5), (0, v6), (0, v7), (0, v8), (9, 0)] [] μ = _
  rw [mE_bk (M := q_M_compare) k_M_compare.1 k_M_compare.2 [3, 62, 68] 400]
  have key : ∀ (C : Nat → List zv → Mu → mR) (E : Nat → List zv → List zv → Mu → mR), mbk C E q_M_compare.1 q_M_compare.2.1 z q_M_compare.2.2.2 [3, 62, 68] 400 (zfind q_M_compare.2.2.2 62) [(2, 86), (0, v1), (2, v2), (0, v3), (0, v4), (2, v5), (0, v6), (0, v7), (0, v8), (9, 0)] [] μ = g_M_compare_3 E v1 v2 v3 v4 v5 v6 v7 (zw (v8 + 1)) μ := by
    intro C E
    rfl
  exact key _ _
