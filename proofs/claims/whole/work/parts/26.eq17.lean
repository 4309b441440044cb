def g_M_check_27 (E : Nat → List zv → List zv → Mu → mR) (μ : Mu) : mR := E 27 [(9, 0), (9, 0), (9, 0), (9, 0)] [] μ
noncomputable def f_M_check_27 (z : zZ) (d : Nat) (μ : Mu) : mR := g_M_check_27 (fun pc ls st μ => mE z d q_M_check pc ls st μ) μ
def g_M_check_37 (E : Nat → List zv → List zv → Mu → mR) (v1 : Int) (v2 : Int) (v3 : Int) (μ : Mu) : mR := E 37 [(2, 86), (0, v1), (0, v2), (0, v3)] [] μ
noncomputable def f_M_check_37 (z : zZ) (d : Nat) (v1 : Int) (v2 : Int) (v3 : Int) (μ : Mu) : mR := g_M_check_37 (fun pc ls st μ => mE z d q_M_check pc ls st μ) v1 v2 v3 μ
def g_M_check_63 (E : Nat → List zv → List zv → Mu → mR) (v1 : Int) (v2 : Int) (v3 : Int) (μ : Mu) : mR := E 63 [(2, 86), (0, v1), (0, v2), (0, v3)] [] μ
noncomputable def f_M_check_63 (z : zZ) (d : Nat) (v1 : Int) (v2 : Int) (v3 : Int) (μ : Mu) : mR := g_M_check_63 (fun pc ls st μ => mE z d q_M_check pc ls st μ) v1 v2 v3 μ
theorem k_M_check : zprK q_M_check.2.2.2 = true ∧ zinc q_M_check.2.2.2 = true := by decide +kernel
set_option maxRecDepth 100000 in
theorem c_M_check (z : zZ) (d : Nat) (v1 : Int) (v2 : Int) (μ : Mu) : mC z (d + 1) 306 [(2, 86), (0, v1), (0, v2)] μ = (mC z d 185 [(0, v1)] μ).bind fun q1 => (bif decide (q1.1 = 0) then (f_M_check_27 z d q1.2) else ((mC z d 183 [(0, v2), (0, 0), (0, 12)] q1.2).bind fun q2 => (bif decide (q2.1 = 0) then (f_M_check_27 z d q2.2) else (bif decide (v2 ≤ z_div (q2.2 86 9) 4) then (f_M_check_37 z d v1 v2 0 (zup q2.2 86 9 0)) else (f_M_check_27 z d q2.2))))) := by
  rw [mC_succ q_M_check rfl rfl rfl]
  rw [mE_bk (M := q_M_check) k_M_check.1 k_M_check.2 [27, 37, 63] 400]
  have key : ∀ (C : Nat → List zv → Mu → mR) (E : Nat → List zv → List zv → Mu → mR), mbk C E q_M_check.1 q_M_check.2.1 z q_M_check.2.2.2 [27, 37, 63] 400 (zfind q_M_check.2.2.2 0) (zentry q_M_check.2.2.1 [(2, 86), (0, v1), (0, v2)]) [] μ = (C 185 [(0, v1)] μ).bind fun q1 => (bif decide (q1.1 = 0) then (g_M_check_27 E q1.2) else ((C 183 [(0, v2), (0, 0), (0, 12)] q1.2).bind fun q2 => (bif decide (q2.1 = 0) then (g_M_check_27 E q2.2) else (bif decide (v2 ≤ z_div (q2.2 86 9) 4) then (g_M_check_37 E v1 v2 0 (zup q2.2 86 9 0)) else (g_M_check_27 E q2.2))))) := by
    intro C E
    rfl
  exact key _ _
set_option maxRecDepth 100000 in
theorem e_M_check_27 (z : zZ) (d : Nat) (μ : Mu) : f_M_check_27 z d μ = some ((-2), μ) := by
  show mE z d q_M_check 27 [(9, 0), (9, 0), (9, 0), (9, 0)] [] μ = _
  rw [mE_bk (M := q_M_check) k_M_check.1 k_M_check.2 [27, 37, 63] 400]
  have key : ∀ (C : Nat → List zv → Mu → mR) (E : Nat → List zv → List zv → Mu → mR), mbk C E q_M_check.1 q_M_check.2.1 z q_M_check.2.2.2 [27, 37, 63] 400 (zfind q_M_check.2.2.2 27) [(9, 0), (9, 0), (9, 0), (9, 0)] [] μ = some ((-2), μ) := by
    intro C E
    rfl
  exact key _ _
set_option maxRecDepth 100000 in
theorem e_M_check_37 (z : zZ) (d : Nat) (v1 : Int) (v2 : Int) (v3 : Int) (μ : Mu) : f_M_check_37 z d v1 v2 v3 μ = bif decide (v2 ≤ v3) then (some ((-1), μ)) else ((mC z d 307 [(2, 86), (0, v3)] μ).bind fun q1 => (gI (zw ((zw (12 * v1)) + v3)) 24 (bif decide (q1.1 = q1.2 90 ((zw ((zw (12 * v1)) + v3)).toNat)) then (f_M_check_63 z d v1 v2 v3 q1.2) else (some (v3, q1.2))))) := by
  show mE z d q_M_check 37 [(2, 86), (0, v1), (0, v2), (0, v3)] [] μ = _
  rw [mE_bk (M := q_M_check) k_M_check.1 k_M_check.2 [27, 37, 63] 400]
  have key : ∀ (C : Nat → List zv → Mu → mR) (E : Nat → List zv → List zv → Mu → mR), mbk C E q_M_check.1 q_M_check.2.1 z q_M_check.2.2.2 [27, 37, 63] 400 (zfind q_M_check.2.2.2 37) [(2, 86), (0, v1), (0, v2), (0, v3)] [] μ = bif decide (v2 ≤ v3) then (some ((-1), μ)) else ((C 307 [(2, 86), (0, v3)] μ).bind fun q1 => (gI (zw ((zw (12 * v1)) + v3)) 24 (bif decide (q1.1 = q1.2 90 ((zw ((zw (12 * v1)) + v3)).toNat)) then (g_M_check_63 E v1 v2 v3 q1.2) else (some (v3, q1.2))))) := by
    intro C E
    rfl
  exact key _ _
set_option maxRecDepth 100000 in
theorem e_M_check_63 (z : zZ) (d : Nat) (v1 : Int) (v2 : Int) (v3 : Int) (μ : Mu) : f_M_check_63 z d v1 v2 v3 μ = f_M_check_37 z d v1 v2 (zw (v3 + 1)) μ := by
  show mE z d q_M_check 63 [(2, 86), (0, v1), (0, v2), (0, v3)] [] μ = _
  rw [mE_bk (M := q_M_check) k_M_check.1 k_M_check.2 [27, 37, 63] 400]
  have key : ∀ (C : Nat → List zv → Mu → mR) (E : Nat → List zv → List zv → Mu → mR), mbk C E q_M_check.1 q_M_check.2.1 z q_M_check.2.2.2 [27, 37, 63] 400 (zfind q_M_check.2.2.2 63) [(2, 86), (0, v1), (0, v2), (0, v3)] [] μ = g_M_check_37 E v1 v2 (zw (v3 + 1)) μ := by
    intro C E
    rfl
  exact key _ _
def g_M_tapeNumber_6 (E : Nat → List zv → List zv → Mu → mR) (v1 : Int) (v2 : Int) (v3 : Int) (μ : Mu) : mR := E 6 [(2, 86), (0, v1), (0, v2), (0, v3)] [] μ
noncomputable def f_M_tapeNumber_6 (z : zZ) (d : Nat) (v1 : Int) (v2 : Int) (v3 : Int) (μ : Mu) : mR := g_M_tapeNumber_6 (fun pc ls st μ => mE z d q_M_tapeNumber pc ls st μ) v1 v2 v3 μ
theorem k_M_tapeNumber : zprK q_M_tapeNumber.2.2.2 = true ∧ zinc q_M_tapeNumber.2.2.2 = true := by decide +kernel
set_option maxRecDepth 100000 in
theorem c_M_tapeNumber (z : zZ) (d : Nat) (v1 : Int) (μ : Mu) : mC z (d + 1) 307 [(2, 86), (0, v1)] μ = f_M_tapeNumber_6 z d v1 0 (zw (4 * v1)) μ := by
  rw [mC_succ q_M_tapeNumber rfl rfl rfl]
  rw [mE_bk (M := q_M_tapeNumber) k_M_tapeNumber.1 k_M_tapeNumber.2 [6] 400]
  have key : ∀ (C : Nat → List zv → Mu → mR) (E : Nat → List zv → List zv → Mu → mR), mbk C E q_M_tapeNumber.1 q_M_tapeNumber.2.1 z q_M_tapeNumber.2.2.2 [6] 400 (zfind q_M_tapeNumber.2.2.2 0) (zentry q_M_tapeNumber.2.2.1 [(2, 86), (0, v1)]) [] μ = g_M_tapeNumber_6 E v1 0 (zw (4 * v1)) μ := by
    intro C E
    rfl
  exact key _ _
set_option maxRecDepth 100000 in
theorem e_M_tapeNumber_6 (z : zZ) (d : Nat) (v1 : Int) (v2 : Int) (v3 : Int) (μ : Mu) : f_M_tapeNumber_6 z d v1 v2 v3 μ = bif decide (zw ((zw (4 * v1)) + 4) ≤ v3) then (some (v2, μ)) else (gI v3 220 (f_M_tapeNumber_6 z d v1 (z_or (z_shl v2 8) (z_and (μ 93 v3.toNat) 255)) (zw (v3 + 1)) μ)) := by
  show mE z d q_M_tapeNumber 6 [(2, 86), (0, v1), (0, v2), (0, v3)] [] μ = _
  rw [mE_bk (M := q_M_tapeNumber) k_M_tapeNumber.1 k_M_tapeNumber.2 [6] 400]
  have key : ∀ (C : Nat → List zv → Mu → mR) (E : Nat → List zv → List zv → Mu → mR), mbk C E q_M_tapeNumber.1 q_M_tapeNumber.2.1 z q_M_tapeNumber.2.2.2 [6] 400 (zfind q_M_tapeNumber.2.2.2 6) [(2, 86), (0, v1), (0, v2), (0, v3)] [] μ = bif decide (zw ((zw (4 * v1)) + 4) ≤ v3) then (some (v2, μ)) else (gI v3 220 (g_M_tapeNumber_6 E v1 (z_or (z_shl v2 8) (z_and (μ 93 v3.toNat) 255)) (zw (v3 + 1)) μ)) := by
    intro C E
    rfl
  exact key _ _
def g_M_count_72 (E : Nat → List zv → List zv → Mu → mR) (μ : Mu) : mR := E 72 [(2, 86), (9, 0)] [] μ
noncomputable def f_M_count_72 (z : zZ) (d : Nat) (μ : Mu) : mR := g_M_count_72 (fun pc ls st μ => mE z d q_M_count pc ls st μ) μ
def g_M_count_77 (E : Nat → List zv → List zv → Mu → mR) (μ : Mu) : mR := E 77 [(2, 86), (9, 0)] [] μ
noncomputable def f_M_count_77 (z : zZ) (d : Nat) (μ : Mu) : mR := g_M_count_77 (fun pc ls st μ => mE z d q_M_count pc ls st μ) μ
def g_M_count_82 (E : Nat → List zv → List zv → Mu → mR) (μ : Mu) : mR := E 82 [(2, 86), (9, 0)] [] μ
noncomputable def f_M_count_82 (z : zZ) (d : Nat) (μ : Mu) : mR := g_M_count_82 (fun pc ls st μ => mE z d q_M_count pc ls st μ) μ
def g_M_count_87 (E : Nat → List zv → List zv → Mu → mR) (μ : Mu) : mR := E 87 [(2, 86), (9, 0)] [] μ
noncomputable def f_M_count_87 (z : zZ) (d : Nat) (μ : Mu) : mR := g_M_count_87 (fun pc ls st μ => mE z d q_M_count pc ls st μ) μ
def g_M_count_92 (E : Nat → List zv → List zv → Mu → mR) (μ : Mu) : mR := E 92 [(2, 86), (9, 0)] [] μ
noncomputable def f_M_count_92 (z : zZ) (d : Nat) (μ : Mu) : mR := g_M_count_92 (fun pc ls st μ => mE z d q_M_count pc ls st μ) μ
def g_M_count_97 (E : Nat → List zv → List zv → Mu → mR) (μ : Mu) : mR := E 97 [(2, 86), (9, 0)] [] μ
noncomputable def f_M_count_97 (z : zZ) (d : Nat) (μ : Mu) : mR := g_M_count_97 (fun pc ls st μ => mE z d q_M_count pc ls st μ) μ
def g_M_count_102 (E : Nat → List zv → List zv → Mu → mR) (μ : Mu) : mR := E 102 [(2, 86), (9, 0)] [] μ
noncomputable def f_M_count_102 (z : zZ) (d : Nat) (μ : Mu) : mR := g_M_count_102 (fun pc ls st μ => mE z d q_M_count pc ls st μ) μ
def g_M_count_107 (E : Nat → List zv → List zv → Mu → mR) (μ : Mu) : mR := E 107 [(2, 86), (9, 0)] [] μ
noncomputable def f_M_count_107 (z : zZ) (d : Nat) (μ : Mu) : mR := g_M_count_107 (fun pc ls st μ => mE z d q_M_count pc ls st μ) μ
def g_M_count_112 (E : Nat → List zv → List zv → Mu → mR) (μ : Mu) : mR := E 112 [(2, 86), (9, 0)] [] μ
noncomputable def f_M_count_112 (z : zZ) (d : Nat) (μ : Mu) : mR := g_M_count_112 (fun pc ls st μ => mE z d q_M_count pc ls st μ) μ
def g_M_count_117 (E : Nat → List zv → List zv → Mu → mR) (μ : Mu) : mR := E 117 [(2, 86), (9, 0)] [] μ
noncomputable def f_M_count_117 (z : zZ) (d : Nat) (μ : Mu) : mR := g_M_count_117 (fun pc ls st μ => mE z d q_M_count pc ls st μ) μ
def g_M_count_122 (E : Nat → List zv → List zv → Mu → mR) (v1 : Int) (μ : Mu) : mR := E 122 [(2, 86), (0, v1)] [] μ
noncomputable def f_M_count_122 (z : zZ) (d : Nat) (v1 : Int) (μ : Mu) : mR := g_M_count_122 (fun pc ls st μ => mE z d q_M_count pc ls st μ) v1 μ
def g_M_count_194 (E : Nat → List zv → List zv → Mu → mR) (v1 : Int) (μ : Mu) : mR := E 194 [(2, 86), (0, v1)] [] μ
noncomputable def f_M_count_194 (z : zZ) (d : Nat) (v1 : Int) (μ : Mu) : mR := g_M_count_194 (fun pc ls st μ => mE z d q_M_count pc ls st μ) v1 μ
def g_M_count_263 (E : Nat → List zv → List zv → Mu → mR) (v1 : Int) (μ : Mu) : mR := E 263 [(2, 86), (0, v1)] [] μ
noncomputable def f_M_count_263 (z : zZ) (d : Nat) (v1 : Int) (μ : Mu) : mR := g_M_count_263 (fun pc ls st μ => mE z d q_M_count pc ls st μ) v1 μ
def g_M_count_314 (E : Nat → List zv → List zv → Mu → mR) (v100 : Int) (μ : Mu) : mR := E 314 [(9, 0), (9, 0)] [(0, v100)] μ
noncomputable def f_M_count_314 (z : zZ) (d : Nat) (v100 : Int) (μ : Mu) : mR := g_M_count_314 (fun pc ls st μ => mE z d q_M_count pc ls st μ) v100 μ
theorem k_M_count : zprK q_M_count.2.2.2 = true ∧ zinc q_M_count.2.2.2 = true := by decide +kernel
set_option maxRecDepth 100000 in
theorem c_M_count (z : zZ) (d : Nat) (v1 : Int) (μ : Mu) : mC z (d + 1) 308 [(2, 86), (0, v1)] μ = bif decide (v1 = 0) then (f_M_count_72 z d μ) else bif decide (v1 = 1) then (f_M_count_77 z d μ) else bif decide (v1 = 2) then (f_M_count_82 z d μ) else bif decide (v1 = 3) then (f_M_count_87 z d μ) else bif decide (v1 = 4) then (f_M_count_92 z d μ) else bif decide (v1 = 5) then (f_M_count_97 z d μ) else bif decide (v1 = 6) then (f_M_count_122 z d v1 μ) else bif decide (v1 = 7) then (f_M_count_122 z d v1 μ) else bif decide (v1 = 8) then (f_M_count_122 z d v1 μ) else bif decide (v1 = 9) then (f_M_count_122 z d v1 μ) else bif decide (v1 = 10) then (f_M_count_102 z d μ) else bif decide (v1 = 11) then (f_M_count_107 z d μ) else bif decide (v1 = 12) then (f_M_count_112 z d μ) else bif decide (v1 = 13) then (f_M_count_117 z d μ) else (f_M_count_122 z d v1 μ) := by
  rw [mC_succ q_M_count rfl rfl rfl]
  rw [mE_bk (M := q_M_count) k_M_count.1 k_M_count.2 [72, 77, 82, 87, 92, 97, 102, 107, 112, 117, 122, 194, 263, 314] 400]
  have key : ∀ (C : Nat → List zv → Mu → mR) (E : Nat → List zv → List zv → Mu → mR), mbk C E q_M_count.1 q_M_count.2.1 z q_M_count.2.2.2 [72, 77, 82, 87, 92, 97, 102, 107, 112, 117, 122, 194, 263, 314] 400 (zfind q_M_count.2.2.2 0) (zentry q_M_count.2.2.1 [(2, 86), (0, v1)]) [] μ = bif decide (v1 = 0) then (g_M_count_72 E μ) else bif decide (v1 = 1) then (g_M_count_77 E μ) else bif decide (v1 = 2) then (g_M_count_82 E μ) else bif decide (v1 = 3) then (g_M_count_87 E μ) else bif decide (v1 = 4) then (g_M_count_92 E μ) else bif decide (v1 = 5) then (g_M_count_97 E μ) else bif decide (v1 = 6) then (g_M_count_122 E v1 μ) else bif decide (v1 = 7) then (g_M_count_122 E v1 μ) else bif decide (v1 = 8) then (g_M_count_122 E v1 μ) else bif decide (v1 = 9) then (g_M_count_122 E v1 μ) else bif decide (v1 = 10) then (g_M_count_102 E μ) else bif decide (v1 = 11) then (g_M_count_107 E μ) else bif decide (v1 = 12) then (g_M_count_112 E μ) else bif decide (v1 = 13) then (g_M_count_117 E μ) else (g_M_count_122 E v1 μ) := by
    intro C E
    rfl
  exact key _ _
set_option maxRecDepth 100000 in
theorem e_M_count_72 (z : zZ) (d : Nat) (μ : Mu) : f_M_count_72 z d μ = some (μ 86 1, μ) := by
  show mE z d q_M_count 72 [(2, 86), (9, 0)] [] μ = _
  rw [mE_bk (M := q_M_count) k_M_count.1 k_M_count.2 [72, 77, 82, 87, 92, 97, 102, 107, 112, 117, 122, 194, 263, 314] 400]
  have key : ∀ (C : Nat → List zv → Mu → mR) (E : Nat → List zv → List zv → Mu → mR), mbk C E q_M_count.1 q_M_count.2.1 z q_M_count.2.2.2 [72, 77, 82, 87, 92, 97, 102, 107, 112, 117, 122, 194, 263, 314] 400 (zfind q_M_count.2.2.2 72) [(2, 86), (9, 0)] [] μ = some (μ 86 1, μ) := by
    intro C E
    rfl
  exact key _ _
set_option maxRecDepth 100000 in
theorem e_M_count_77 (z : zZ) (d : Nat) (μ : Mu) : f_M_count_77 z d μ = some (μ 86 27, μ) := by
  show mE z d q_M_count 77 [(2, 86), (9, 0)] [] μ = _
  rw [mE_bk (M := q_M_count) k_M_count.1 k_M_count.2 [72, 77, 82, 87, 92, 97, 102, 107, 112, 117, 122, 194, 263, 314] 400]
  have key : ∀ (C : Nat → List zv → Mu → mR) (E : Nat → List zv → List zv → Mu → mR), mbk C E q_M_count.1 q_M_count.2.1 z q_M_count.2.2.2 [72, 77, 82, 87, 92, 97, 102, 107, 112, 117, 122, 194, 263, 314] 400 (zfind q_M_count.2.2.2 77) [(2, 86), (9, 0)] [] μ = some (μ 86 27, μ) := by
    intro C E
    rfl
  exact key _ _
set_option maxRecDepth 100000 in
theorem e_M_count_82 (z : zZ) (d : Nat) (μ : Mu) : f_M_count_82 z d μ = some (μ 86 9, μ) := by
  show mE z d q_M_count 82 [(2, 86), (9, 0)] [] μ = _
  rw [mE_bk (M := q_M_count) k_M_count.1 k_M_count.2 [72, 77, 82, 87, 92, 97, 102, 107, 112, 117, 122, 194, 263, 314] 400]
  have key : ∀ (C : Nat → List zv → Mu → mR) (E : Nat → List zv → List zv → Mu → mR), mbk C E q_M_count.1 q_M_count.2.1 z q_M_count.2.2.2 [72, 77, 82, 87, 92, 97, 102, 107, 112, 117, 122, 194, 263, 314] 400 (zfind q_M_count.2.2.2 82) [(2, 86), (9, 0)] [] μ = some (μ 86 9, μ) := by
    intro C E
    rfl
  exact key _ _
set_option maxRecDepth 100000 in
theorem e_M_count_87 (z : zZ) (d : Nat) (μ : Mu) : f_M_count_87 z d μ = some (μ 86 0, μ) := by
  show mE z d q_M_count 87 [(2, 86), (9, 0)] [] μ = _
  rw [mE_bk (M := q_M_count) k_M_count.1 k_M_count.2 [72, 77, 82, 87, 92, 97, 102, 107, 112, 117, 122, 194, 263, 314] 400]
  have key : ∀ (C : Nat → List zv → Mu → mR) (E : Nat → List zv → List zv → Mu → mR), mbk C E q_M_count.1 q_M_count.2.1 z q_M_count.2.2.2 [72, 77, 82, 87, 92, 97, 102, 107, 112, 117, 122, 194, 263, 314] 400 (zfind q_M_count.2.2.2 87) [(2, 86), (9, 0)] [] μ = some (μ 86 0, μ) := by
    intro C E
    rfl
  exact key _ _
set_option maxRecDepth 100000 in
theorem e_M_count_92 (z : zZ) (d : Nat) (μ : Mu) : f_M_count_92 z d μ = some (μ 86 67, μ) := by
  show mE z d q_M_count 92 [(2, 86), (9, 0)] [] μ = _
  rw [mE_bk (M := q_M_count) k_M_count.1 k_M_count.2 [72, 77, 82, 87, 92, 97, 102, 107, 112, 117, 122, 194, 263, 314] 400]
  have key : ∀ (C : Nat → List zv → Mu → mR) (E : Nat → List zv → List zv → Mu → mR), mbk C E q_M_count.1 q_M_count.2.1 z q_M_count.2.2.2 [72, 77, 82, 87, 92, 97, 102, 107, 112, 117, 122, 194, 263, 314] 400 (zfind q_M_count.2.2.2 92) [(2, 86), (9, 0)] [] μ = some (μ 86 67, μ) := by
    intro C E
    rfl
  exact key _ _
set_option maxRecDepth 100000 in
theorem e_M_count_97 (z : zZ) (d : Nat) (μ : Mu) : f_M_count_97 z d μ = (mC z d 309 [(2, 86)] μ).bind fun q1 => (some (q1.1, q1.2)) := by
  show mE z d q_M_count 97 [(2, 86), (9, 0)] [] μ = _
  rw [mE_bk (M := q_M_count) k_M_count.1 k_M_count.2 [72, 77, 82, 87, 92, 97, 102, 107, 112, 117, 122, 194, 263, 314] 400]
  have key : ∀ (C : Nat → List zv → Mu → mR) (E : Nat → List zv → List zv → Mu → mR), mbk C E q_M_count.1 q_M_count.2.1 z q_M_count.2.2.2 [72, 77, 82, 87, 92, 97, 102, 107, 112, 117, 122, 194, 263, 314] 400 (zfind q_M_count.2.2.2 97) [(2, 86), (9, 0)] [] μ = (C 309 [(2, 86)] μ).bind fun q1 => (some (q1.1, q1.2)) := by
    intro C E
    rfl
  exact key _ _
set_option maxRecDepth 100000 in
theorem e_M_count_122 (z : zZ) (d : Nat) (v1 : Int) (μ : Mu) : f_M_count_122 z d v1 μ = (mC z d 183 [(0, v1), (0, 14), (0, 15)] μ).bind fun q1 => (bif decide (q1.1 = 0) then ((mC z d 183 [(0, v1), (0, 16), (0, 17)] q1.2).bind fun q2 => (bif decide (q2.1 = 0) then ((mC z d 183 [(0, v1), (0, 18), (0, 19)] q2.2).bind fun q3 => (bif decide (q3.1 = 0) then (f_M_count_194 z d v1 q3.2) else ((mC z d 303 [(2, 86), (2, 92), (0, zw (v1 - 18))] q3.2).bind fun q4 => (some (q4.1, q4.2))))) else ((mC z d 303 [(2, 86), (2, 91), (0, zw (v1 - 16))] q2.2).bind fun q5 => (some (q5.1, q5.2))))) else ((mC z d 303 [(2, 86), (2, 90), (0, zw (v1 - 14))] q1.2).bind fun q6 => (some (q6.1, q6.2)))) := by
  show mE z d q_M_count 122 [(2, 86), (0, v1)] [] μ = _
  rw [mE_bk (M := q_M_count) k_M_count.1 k_M_count.2 [72, 77, 82, 87, 92, 97, 102, 107, 112, 117, 122, 194, 263, 314] 400]
  have key : ∀ (C : Nat → List zv → Mu → mR) (E : Nat → List zv → List zv → Mu → mR), mbk C E q_M_count.1 q_M_count.2.1 z q_M_count.2.2.2 [72, 77, 82, 87, 92, 97, 102, 107, 112, 117, 122, 194, 263, 314] 400 (zfind q_M_count.2.2.2 122) [(2, 86), (0, v1)] [] μ = (C 183 [(0, v1), (0, 14), (0, 15)] μ).bind fun q1 => (bif decide (q1.1 = 0) then ((C 183 [(0, v1), (0, 16), (0, 17)] q1.2).bind fun q2 => (bif decide (q2.1 = 0) then ((C 183 [(0, v1), (0, 18), (0, 19)] q2.2).bind fun q3 => (bif decide (q3.1 = 0) then (g_M_count_194 E v1 q3.2) else ((C 303 [(2, 86), (2, 92), (0, zw (v1 - 18))] q3.2).bind fun q4 => (some (q4.1, q4.2))))) else ((C 303 [(2, 86), (2, 91), (0, zw (v1 - 16))] q2.2).bind fun q5 => (some (q5.1, q5.2))))) else ((C 303 [(2, 86), (2, 90), (0, zw (v1 - 14))] q1.2).bind fun q6 => (some (q6.1, q6.2)))) := by
    intro C E
    rfl
  exact key _ _
set_option maxRecDepth 100000 in
theorem e_M_count_102 (z : zZ) (d : Nat) (μ : Mu) : f_M_count_102 z d μ = some (μ 86 14, μ) := by
  show mE z d q_M_count 102 [(2, 86), (9, 0)] [] μ = _
  rw [mE_bk (M := q_M_count) k_M_count.1 k_M_count.2 [72, 77, 82, 87, 92, 97, 102, 107, 112, 117, 122, 194, 263, 314] 400]
  have key : ∀ (C : Nat → List zv → Mu → mR) (E : Nat → List zv → List zv → Mu → mR), mbk C E q_M_count.1 q_M_count.2.1 z q_M_count.2.2.2 [72, 77, 82, 87, 92, 97, 102, 107, 112, 117, 122, 194, 263, 314] 400 (zfind q_M_count.2.2.2 102) [(2, 86), (9, 0)] [] μ = some (μ 86 14, μ) := by
    intro C E
    rfl
  exact key _ _
set_option maxRecDepth 100000 in
theorem e_M_count_107 (z : zZ) (d : Nat) (μ : Mu) : f_M_count_107 z d μ = some (μ 86 15, μ) := by
  show mE z d q_M_count 107 [(2, 86), (9, 0)] [] μ = _
  rw [mE_bk (M := q_M_count) k_M_count.1 k_M_count.2 [72, 77, 82, 87, 92, 97, 102, 107, 112, 117, 122, 194, 263, 314] 400]
  have key : ∀ (C : Nat → List zv → Mu → mR) (E : Nat → List zv → List zv → Mu → mR), mbk C E q_M_count.1 q_M_count.2.1 z q_M_count.2.2.2 [72, 77, 82, 87, 92, 97, 102, 107, 112, 117, 122, 194, 263, 314] 400 (zfind q_M_count.2.2.2 107) [(2, 86), (9, 0)] [] μ = some (μ 86 15, μ) := by
    intro C E
    rfl
  exact key _ _
set_option maxRecDepth 100000 in
theorem e_M_count_112 (z : zZ) (d : Nat) (μ : Mu) : f_M_count_112 z d μ = some (μ 86 16, μ) := by
  show mE z d q_M_count 112 [(2, 86), (9, 0)] [] μ = _
  rw [mE_bk (M := q_M_count) k_M_count.1 k_M_count.2 [72, 77, 82, 87, 92, 97, 102, 107, 112, 117, 122, 194, 263, 314] 400]
  have key : ∀ (C : Nat → List zv → Mu → mR) (E : Nat → List zv → List zv → Mu → mR), mbk C E q_M_count.1 q_M_count.2.1 z q_M_count.2.2.2 [72, 77, 82, 87, 92, 97, 102, 107, 112, 117, 122, 194, 263, 314] 400 (zfind q_M_count.2.2.2 112) [(2, 86), (9, 0)] [] μ = some (μ 86 16, μ) := by
    intro C E
    rfl
  exact key _ _
set_option maxRecDepth 100000 in
theorem e_M_count_117 (z : zZ) (d : Nat) (μ : Mu) : f_M_count_117 z d μ = some (μ 86 17, μ) := by
  show mE z d q_M_count 117 [(2, 86), (9, 0)] [] μ = _
  rw [mE_bk (M := q_M_count) k_M_count.1 k_M_count.2 [72, 77, 82, 87, 92, 97, 102, 107, 112, 117, 122, 194, 263, 314] 400]
  have key : ∀ (C : Nat → List zv → Mu → mR) (E : Nat → List zv → List zv → Mu → mR), mbk C E q_M_count.1 q_M_count.2.1 z q_M_count.2.2.2 [72, 77, 82, 87, 92, 97, 102, 107, 112, 117, 122, 194, 263, 314] 400 (zfind q_M_count.2.2.2 117) [(2, 86), (9, 0)] [] μ = some (μ 86 17, μ) := by
    intro C E
    rfl
  exact key _ _
set_option maxRecDepth 100000 in
theorem e_M_count_194 (z : zZ) (d : Nat) (v1 : Int) (μ : Mu) : f_M_count_194 z d v1 μ = (mC z d 183 [(0, v1), (0, 100), (0, 123)] μ).bind fun q1 => (bif decide (q1.1 = 0) then ((mC z d 183 [(0, v1), (0, 130), (0, 153)] q1.2).bind fun q2 => (bif decide (q2.1 = 0) then ((mC z d 183 [(0, v1), (0, 160), (0, 183)] q2.2).bind fun q3 => (bif decide (q3.1 = 0) then (f_M_count_263 z d v1 q3.2) else (gI (zw (v1 - 160)) 24 (some (q3.2 92 ((zw (v1 - 160)).toNat), q3.2))))) else (gI (zw (v1 - 130)) 24 (some (q2.2 91 ((zw (v1 - 130)).toNat), q2.2))))) else (gI (zw (v1 - 100)) 24 (some (q1.2 90 ((zw (v1 - 100)).toNat), q1.2)))) := by
  show mE z d q_M_count 194 [(2, 86), (0, v1)] [] μ = _
  rw [mE_bk (M := q_M_count) k_M_count.1 k_M_count.2 [72, 77, 82, 87, 92, 97, 102, 107, 112, 117, 122, 194, 263, 314] 400]
  have key : ∀ (C : Nat → List zv → Mu → mR) (E : Nat → List zv → List zv → Mu → mR), mbk C E q_M_count.1 q_M_count.2.1 z q_M_count.2.2.2 [72, 77, 82, 87, 92, 97, 102, 107, 112, 117, 122, 194, 263, 314] 400 (zfind q_M_count.2.2.2 194) [(2, 86), (0, v1)] [] μ = (C 183 [(0, v1), (0, 100), (0, 123)] μ).bind fun q1 => (bif decide (q1.1 = 0) then ((C 183 [(0, v1), (0, 130), (0, 153)] q1.2).bind fun q2 => (bif decide (q2.1 = 0) then ((C 183 [(0, v1), (0, 160), (0, 183)] q2.2).bind fun q3 => (bif decide (q3.1 = 0) then (g_M_count_263 E v1 q3.2) else (gI (zw (v1 - 160)) 24 (some (q3.2 92 ((zw (v1 - 160)).toNat), q3.2))))) else (gI (zw (v1 - 130)) 24 (some (q2.2 91 ((zw (v1 - 130)).toNat), q2.2))))) else (gI (zw (v1 - 100)) 24 (some (q1.2 90 ((zw (v1 - 100)).toNat), q1.2)))) := by
    intro C E
    rfl
  exact key _ _
set_option maxRecDepth 100000 in
theorem e_M_count_263 (z : zZ) (d : Nat) (v1 : Int) (μ : Mu) : f_M_count_263 z d v1 μ = (mC z d 183 [(0, v1), (0, 190), (0, 213)] μ).bind fun q1 => (bif decide (q1.1 = 0) then ((mC z d 183 [(0, v1), (0, 220), (0, 231)] q1.2).bind fun q2 => (bif decide (q2.1 = 0) then (f_M_count_314 z d ((-1)) q2.2) else (gI (zw (v1 - 220)) 12 (f_M_count_314 z d (q2.2 87 ((zw (v1 - 220)).toNat)) q2.2)))) else (gI (zw (v1 - 190)) 24 (some (q1.2 88 ((zw (v1 - 190)).toNat), q1.2)))) := by
  show mE z d q_M_count 263 [(2, 86), (0, v1)] [] μ = _
  rw [mE_bk (M := q_M_count) k_M_count.1 k_M_count.2 [72, 77, 82, 87, 92, 97, 102, 107, 112, 117, 122, 194, 263, 314] 400]
  have key : ∀ (C : Nat → List zv → Mu → mR) (E : Nat → List zv → List zv → Mu → mR), mbk C E q_M_count.1 q_M_count.2.1 z q_M_count.2.2.2 [72, 77, 82, 87, 92, 97, 102, 107, 112, 117, 122, 194, 263, 314] 400 (zfind q_M_count.2.2.2 263) [(2, 86), (0, v1)] [] μ = (C 183 [(0, v1), (0, 190), (0, 213)] μ).bind fun q1 => (bif decide (q1.1 = 0) then ((C 183 [(0, v1), (0, 220), (0, 231)] q1.2).bind fun q2 => (bif decide (q2.1 = 0) then (g_M_count_314 E ((-1)) q2.2) else (gI (zw (v1 - 220)) 12 (g_M_count_314 E (q2.2 87 ((zw (v1 - 220)).toNat)) q2.2)))) else (gI (zw (v1 - 190)) 24 (some (q1.2 88 ((zw (v1 - 190)).toNat), q1.2)))) := by
    intro C E
    rfl
  exact key _ _
set_option maxRecDepth 100000 in
theorem e_M_count_314 (z : zZ) (d : Nat) (v100 : Int) (μ : Mu) : f_M_count_314 z d v100 μ = some (v100, μ) := by
  show mE z d q_M_count 314 [(9, 0), (9, 0)] [(0, v100)] μ = _
  rw [mE_bk (M := q_M_count) k_M_count.1 k_M_count.2 [72, 77, 82, 87, 92, 97, 102, 107, 112, 117, 122, 194, 263, 314] 400]
  have key : ∀ (C : Nat → List zv → Mu → mR) (E : Nat → List zv → List zv → Mu → mR), mbk C E q_M_count.1 q_M_count.2.1 z q_M_count.2.2.2 [72, 77, 82, 87, 92, 97, 102, 107, 112, 117, 122, 194, 263, 314] 400 (zfind q_M_count.2.2.2 314) [(9, 0), (9, 0)] [(0, v100)] μ = some (v100, μ) := by
    intro C E
    rfl
  exact key _ _
def g_M_soldierMany_4 (E : Nat → List zv → List zv → Mu → mR) (v1 : Int) (v2 : Int) (μ : Mu) : mR := E 4 [(2, 86), (0, v1), (0, v2)] [] μ
noncomputable def f_M_soldierMany_4 (z : zZ) (d : Nat) (v1 : Int) (v2 : Int) (μ : Mu) : mR := g_M_soldierMany_4 (fun pc ls st μ => mE z d q_M_soldierMany pc ls st μ) v1 v2 μ
def g_M_soldierMany_26 (E : Nat → List zv → List zv → Mu → mR) (v2 : Int) (v100 : Int) (v101 : Int) (μ : Mu) : mR := E 26 [(2, 86), (9, 0), (0, v2)] [(0, v101), (0, v100)] μ
noncomputable def f_M_soldierMany_26 (z : zZ) (d : Nat) (v2 : Int) (v100 : Int) (v101 : Int) (μ : Mu) : mR := g_M_soldierMany_26 (fun pc ls st μ => mE z d q_M_soldierMany pc ls st μ) v2 v100 v101 μ
theorem k_M_soldierMany : zprK q_M_soldierMany.2.2.2 = true ∧ zinc q_M_soldierMany.2.2.2 = true := by decide +kernel
set_option maxRecDepth 100000 in
theorem c_M_soldierMany (z : zZ) (d : Nat) (μ : Mu) : mC z (d + 1) 309 [(2, 86)] μ = f_M_soldierMany_4 z d 0 0 μ := by
  rw [mC_succ q_M_soldierMany rfl rfl rfl]
  rw [mE_bk (M := q_M_soldierMany) k_M_soldierMany.1 k_M_soldierMany.2 [4, 26] 400]
  have key : ∀ (C : Nat → List zv → Mu → mR) (E : Nat → List zv → List zv → Mu → mR), mbk C E q_M_soldierMany.1 q_M_soldierMany.2.1 z q_M_soldierMany.2.2.2 [4, 26] 400 (zfind q_M_soldierMany.2.2.2 0) (zentry q_M_soldierMany.2.2.1 [(2, 86)]) [] μ = g_M_soldierMany_4 E 0 0 μ := by
    intro C E
    rfl
  exact key _ _
set_option maxRecDepth 100000 in
theorem e_M_soldierMany_4 (z : zZ) (d : Nat) (v1 : Int) (v2 : Int) (μ : Mu) : f_M_soldierMany_4 z d v1 v2 μ = bif decide (24 ≤ v2) then (some (v1, μ)) else (gI v2 24 (bif !decide (μ 132 v2.toNat = (-1)) then (f_M_soldierMany_26 z d v2 v1 1 μ) else (f_M_soldierMany_26 z d v2 v1 0 μ))) := by
  show mE z d q_M_soldierMany 4 [(2, 86), (0, v1), (0, v2)] [] μ = _
  rw [mE_bk (M := q_M_soldierMany) k_M_soldierMany.1 k_M_soldierMany.2 [4, 26] 400]
  have key : ∀ (C : Nat → List zv → Mu → mR) (E : Nat → List zv → List zv → Mu → mR), mbk C E q_M_soldierMany.1 q_M_soldierMany.2.1 z q_M_soldierMany.2.2.2 [4, 26] 400 (zfind q_M_soldierMany.2.2.2 4) [(2, 86), (0, v1), (0, v2)] [] μ = bif decide (24 ≤ v2) then (some (v1, μ)) else (gI v2 24 (bif !decide (μ 132 v2.toNat = (-1)) then (g_M_soldierMany_26 E v2 v1 1 μ) else (g_M_soldierMany_26 E v2 v1 0 μ))) := by
    intro C E
    rfl
  exact key _ _
set_option maxRecDepth 100000 in
theorem e_M_soldierMany_26 (z : zZ) (d : Nat) (v2 : Int) (v100 : Int) (v101 : Int) (μ : Mu) : f_M_soldierMany_26 z d v2 v100 v101 μ = f_M_soldierMany_4 z d (zw (v100 + v101)) (zw (v2 + 1)) μ := by
  show mE z d q_M_soldierMany 26 [(2, 86), (9, 0), (0, v2)] [(0, v101), (0, v100)] μ = _
  rw [mE_bk (M := q_M_soldierMany) k_M_soldierMany.1 k_M_soldierMany.2 [4, 26] 400]
  have key : ∀ (C : Nat → List zv → Mu → mR) (E : Nat → List zv → List zv → Mu → mR), mbk C E q_M_soldierMany.1 q_M_soldierMany.2.1 z q_M_soldierMany.2.2.2 [4, 26] 400 (zfind q_M_soldierMany.2.2.2 26) [(2, 86), (9, 0), (0, v2)] [(0, v101), (0, v100)] μ = g_M_soldierMany_4 E (zw (v100 + v101)) (zw (v2 + 1)) μ := by
    intro C E
    rfl
  exact key _ _
