def g_W_word_7 (E : Nat → List zv → List zv → Mu → mR) (v1 : Int) (v2 : Int) (v3 : Int) (μ : Mu) : mR := E 7 [(2, 0), (0, v1), (0, v2), (0, v3), (9, 0), (9, 0)] [] μ
noncomputable def f_W_word_7 (z : zZ) (d : Nat) (v1 : Int) (v2 : Int) (v3 : Int) (μ : Mu) : mR := g_W_word_7 (fun pc ls st μ => mE z d q_W_word pc ls st μ) v1 v2 v3 μ
def g_W_word_20 (E : Nat → List zv → List zv → Mu → mR) (μ : Mu) : mR := E 20 [(9, 0), (9, 0), (9, 0), (9, 0), (9, 0), (9, 0)] [] μ
noncomputable def f_W_word_20 (z : zZ) (d : Nat) (μ : Mu) : mR := g_W_word_20 (fun pc ls st μ => mE z d q_W_word pc ls st μ) μ
def g_W_word_22 (E : Nat → List zv → List zv → Mu → mR) (v1 : Int) (v2 : Int) (v3 : Int) (μ : Mu) : mR := E 22 [(2, 0), (0, v1), (0, v2), (0, v3), (9, 0), (9, 0)] [] μ
noncomputable def f_W_word_22 (z : zZ) (d : Nat) (v1 : Int) (v2 : Int) (v3 : Int) (μ : Mu) : mR := g_W_word_22 (fun pc ls st μ => mE z d q_W_word pc ls st μ) v1 v2 v3 μ
def g_W_word_76 (E : Nat → List zv → List zv → Mu → mR) (v5 : Int) (μ : Mu) : mR := E 76 [(9, 0), (9, 0), (9, 0), (9, 0), (9, 0), (0, v5)] [] μ
noncomputable def f_W_word_76 (z : zZ) (d : Nat) (v5 : Int) (μ : Mu) : mR := g_W_word_76 (fun pc ls st μ => mE z d q_W_word pc ls st μ) v5 μ
def g_W_word_82 (E : Nat → List zv → List zv → Mu → mR) (v5 : Int) (μ : Mu) : mR := E 82 [(2, 0), (9, 0), (9, 0), (9, 0), (9, 0), (0, v5)] [] μ
noncomputable def f_W_word_82 (z : zZ) (d : Nat) (v5 : Int) (μ : Mu) : mR := g_W_word_82 (fun pc ls st μ => mE z d q_W_word pc ls st μ) v5 μ
def g_W_word_89 (E : Nat → List zv → List zv → Mu → mR) (v2 : Int) (o4 : Nat) (μ : Mu) : mR := E 89 [(9, 0), (9, 0), (0, v2), (9, 0), (2, ((o4 : Nat) : Int)), (9, 0)] [] μ
noncomputable def f_W_word_89 (z : zZ) (d : Nat) (v2 : Int) (o4 : Nat) (μ : Mu) : mR := g_W_word_89 (fun pc ls st μ => mE z d q_W_word pc ls st μ) v2 o4 μ
def g_W_word_103 (E : Nat → List zv → List zv → Mu → mR) (v100 : Int) (μ : Mu) : mR := E 103 [(9, 0), (9, 0), (9, 0), (9, 0), (9, 0), (9, 0)] [(0, v100)] μ
noncomputable def f_W_word_103 (z : zZ) (d : Nat) (v100 : Int) (μ : Mu) : mR := g_W_word_103 (fun pc ls st μ => mE z d q_W_word pc ls st μ) v100 μ
def g_W_word_104 (E : Nat → List zv → List zv → Mu → mR) (v2 : Int) (o4 : Nat) (μ : Mu) : mR := E 104 [(9, 0), (9, 0), (0, v2), (9, 0), (2, ((o4 : Nat) : Int)), (9, 0)] [] μ
noncomputable def f_W_word_104 (z : zZ) (d : Nat) (v2 : Int) (o4 : Nat) (μ : Mu) : mR := g_W_word_104 (fun pc ls st μ => mE z d q_W_word pc ls st μ) v2 o4 μ
def g_W_word_118 (E : Nat → List zv → List zv → Mu → mR) (v100 : Int) (μ : Mu) : mR := E 118 [(9, 0), (9, 0), (9, 0), (9, 0), (9, 0), (9, 0)] [(0, v100)] μ
noncomputable def f_W_word_118 (z : zZ) (d : Nat) (v100 : Int) (μ : Mu) : mR := g_W_word_118 (fun pc ls st μ => mE z d q_W_word pc ls st μ) v100 μ
def g_W_word_119 (E : Nat → List zv → List zv → Mu → mR) (v1 : Int) (v5 : Int) (μ : Mu) : mR := E 119 [(2, 0), (0, v1), (9, 0), (9, 0), (9, 0), (0, v5)] [] μ
noncomputable def f_W_word_119 (z : zZ) (d : Nat) (v1 : Int) (v5 : Int) (μ : Mu) : mR := g_W_word_119 (fun pc ls st μ => mE z d q_W_word pc ls st μ) v1 v5 μ
def g_W_word_127 (E : Nat → List zv → List zv → Mu → mR) (v3 : Int) (v5 : Int) (μ : Mu) : mR := E 127 [(9, 0), (9, 0), (9, 0), (0, v3), (9, 0), (0, v5)] [] μ
noncomputable def f_W_word_127 (z : zZ) (d : Nat) (v3 : Int) (v5 : Int) (μ : Mu) : mR := g_W_word_127 (fun pc ls st μ => mE z d q_W_word pc ls st μ) v3 v5 μ
def g_W_word_146 (E : Nat → List zv → List zv → Mu → mR) (v100 : Int) (μ : Mu) : mR := E 146 [(9, 0), (9, 0), (9, 0), (9, 0), (9, 0), (9, 0)] [(0, v100)] μ
noncomputable def f_W_word_146 (z : zZ) (d : Nat) (v100 : Int) (μ : Mu) : mR := g_W_word_146 (fun pc ls st μ => mE z d q_W_word pc ls st μ) v100 μ
theorem k_W_word : zprK q_W_word.2.2.2 = true ∧ zinc q_W_word.2.2.2 = true := by decide +kernel
set_option maxRecDepth 100000 in
theorem c_W_word (z : zZ) (d : Nat) (v1 : Int) (v2 : Int) (v3 : Int) (μ : Mu) : mC z (d + 1) 99 [(2, 0), (0, v1), (0, v2), (0, v3)] μ = (mC z d 15 [(0, v1)] μ).bind fun q1 => (bif decide (q1.1 = 0) then (f_W_word_20 z d q1.2) else (f_W_word_7 z d v1 v2 v3 q1.2)) := by
  rw [mC_succ q_W_word rfl rfl rfl]
  rw [mE_bk (M := q_W_word) k_W_word.1 k_W_word.2 [7, 20, 22, 76, 82, 89, 103, 104, 118, 119, 127, 146] 400]
  have key : ∀ (C : Nat → List zv → Mu → mR) (E : Nat → List zv → List zv → Mu → mR), mbk C E q_W_word.1 q_W_word.2.1 z q_W_word.2.2.2 [7, 20, 22, 76, 82, 89, 103, 104, 118, 119, 127, 146] 400 (zfind q_W_word.2.2.2 0) (zentry q_W_word.2.2.1 [(2, 0), (0, v1), (0, v2), (0, v3)]) [] μ = (C 15 [(0, v1)] μ).bind fun q1 => (bif decide (q1.1 = 0) then (g_W_word_20 E q1.2) else (g_W_word_7 E v1 v2 v3 q1.2)) := by
    intro C E
    rfl
  exact key _ _
set_option maxRecDepth 100000 in
theorem e_W_word_20 (z : zZ) (d : Nat) (μ : Mu) : f_W_word_20 z d μ = some ((-1), μ) := by
  show mE z d q_W_word 20 [(9, 0), (9, 0), (9, 0), (9, 0), (9, 0), (9, 0)] [] μ = _
  rw [mE_bk (M := q_W_word) k_W_word.1 k_W_word.2 [7, 20, 22, 76, 82, 89, 103, 104, 118, 119, 127, 146] 400]
  have key : ∀ (C : Nat → List zv → Mu → mR) (E : Nat → List zv → List zv → Mu → mR), mbk C E q_W_word.1 q_W_word.2.1 z q_W_word.2.2.2 [7, 20, 22, 76, 82, 89, 103, 104, 118, 119, 127, 146] 400 (zfind q_W_word.2.2.2 20) [(9, 0), (9, 0), (9, 0), (9, 0), (9, 0), (9, 0)] [] μ = some ((-1), μ) := by
    intro C E
    rfl
  exact key _ _
set_option maxRecDepth 100000 in
theorem e_W_word_7 (z : zZ) (d : Nat) (v1 : Int) (v2 : Int) (v3 : Int) (μ : Mu) (hv1 : v1 = 0 ∨ v1 = 1) : f_W_word_7 z d v1 v2 v3 μ = (mC z d 37 [(2, (((4 + 9 * v1.toNat) : Nat) : Int)), (0, v2)] μ).bind fun q1 => (bif !decide (q1.1 = 0) then (f_W_word_22 z d v1 v2 v3 q1.2) else (f_W_word_20 z d q1.2)) := by
  show mE z d q_W_word 7 [(2, 0), (0, v1), (0, v2), (0, v3), (9, 0), (9, 0)] [] μ = _
  rw [mE_bk (M := q_W_word) k_W_word.1 k_W_word.2 [7, 20, 22, 76, 82, 89, 103, 104, 118, 119, 127, 146] 400]
  have key : ∀ (C : Nat → List zv → Mu → mR) (E : Nat → List zv → List zv → Mu → mR), mbk C E q_W_word.1 q_W_word.2.1 z q_W_word.2.2.2 [7, 20, 22, 76, 82, 89, 103, 104, 118, 119, 127, 146] 400 (zfind q_W_word.2.2.2 7) [(2, 0), (0, v1), (0, v2), (0, v3), (9, 0), (9, 0)] [] μ = (C 37 [(2, (((4 + 9 * v1.toNat) : Nat) : Int)), (0, v2)] μ).bind fun q1 => (bif !decide (q1.1 = 0) then (g_W_word_22 E v1 v2 v3 q1.2) else (g_W_word_20 E q1.2)) := by
    intro C E
    rcases hv1 with rfl | rfl <;> (rfl)
  exact key _ _
set_option maxRecDepth 100000 in
theorem e_W_word_22 (z : zZ) (d : Nat) (v1 : Int) (v2 : Int) (v3 : Int) (μ : Mu) (hv1 : v1 = 0 ∨ v1 = 1) : f_W_word_22 z d v1 v2 v3 μ = gI v2 12 (bif decide (v3 = 0) then (f_W_word_76 z d (μ ((4 + 9 * v1.toNat) + 4) v2.toNat) μ) else bif decide (v3 = 1) then (f_W_word_82 z d (μ ((4 + 9 * v1.toNat) + 4) v2.toNat) μ) else bif decide (v3 = 2) then (f_W_word_89 z d v2 (4 + 9 * v1.toNat) μ) else bif decide (v3 = 3) then (f_W_word_104 z d v2 (4 + 9 * v1.toNat) μ) else bif decide (v3 = 4) then (f_W_word_119 z d v1 (μ ((4 + 9 * v1.toNat) + 4) v2.toNat) μ) else (f_W_word_127 z d v3 (μ ((4 + 9 * v1.toNat) + 4) v2.toNat) μ)) := by
  show mE z d q_W_word 22 [(2, 0), (0, v1), (0, v2), (0, v3), (9, 0), (9, 0)] [] μ = _
  rw [mE_bk (M := q_W_word) k_W_word.1 k_W_word.2 [7, 20, 22, 76, 82, 89, 103, 104, 118, 119, 127, 146] 400]
  have key : ∀ (C : Nat → List zv → Mu → mR) (E : Nat → List zv → List zv → Mu → mR), mbk C E q_W_word.1 q_W_word.2.1 z q_W_word.2.2.2 [7, 20, 22, 76, 82, 89, 103, 104, 118, 119, 127, 146] 400 (zfind q_W_word.2.2.2 22) [(2, 0), (0, v1), (0, v2), (0, v3), (9, 0), (9, 0)] [] μ = gI v2 12 (bif decide (v3 = 0) then (g_W_word_76 E (μ ((4 + 9 * v1.toNat) + 4) v2.toNat) μ) else bif decide (v3 = 1) then (g_W_word_82 E (μ ((4 + 9 * v1.toNat) + 4) v2.toNat) μ) else bif decide (v3 = 2) then (g_W_word_89 E v2 (4 + 9 * v1.toNat) μ) else bif decide (v3 = 3) then (g_W_word_104 E v2 (4 + 9 * v1.toNat) μ) else bif decide (v3 = 4) then (g_W_word_119 E v1 (μ ((4 + 9 * v1.toNat) + 4) v2.toNat) μ) else (g_W_word_127 E v3 (μ ((4 + 9 * v1.toNat) + 4) v2.toNat) μ)) := by
    intro C E
    rcases hv1 with rfl | rfl <;> (rfl)
  exact key _ _
set_option maxRecDepth 100000 in
theorem e_W_word_76 (z : zZ) (d : Nat) (v5 : Int) (μ : Mu) : f_W_word_76 z d v5 μ = (mC z d 68 [(0, v5)] μ).bind fun q1 => (some (q1.1, q1.2)) := by
  show mE z d q_W_word 76 [(9, 0), (9, 0), (9, 0), (9, 0), (9, 0), (0, v5)] [] μ = _
  rw [mE_bk (M := q_W_word) k_W_word.1 k_W_word.2 [7, 20, 22, 76, 82, 89, 103, 104, 118, 119, 127, 146] 400]
  have key : ∀ (C : Nat → List zv → Mu → mR) (E : Nat → List zv → List zv → Mu → mR), mbk C E q_W_word.1 q_W_word.2.1 z q_W_word.2.2.2 [7, 20, 22, 76, 82, 89, 103, 104, 118, 119, 127, 146] 400 (zfind q_W_word.2.2.2 76) [(9, 0), (9, 0), (9, 0), (9, 0), (9, 0), (0, v5)] [] μ = (C 68 [(0, v5)] μ).bind fun q1 => (some (q1.1, q1.2)) := by
    intro C E
    rfl
  exact key _ _
set_option maxRecDepth 100000 in
theorem e_W_word_82 (z : zZ) (d : Nat) (v5 : Int) (μ : Mu) : f_W_word_82 z d v5 μ = (mC z d 84 [(2, 0), (0, v5)] μ).bind fun q1 => (some (q1.1, q1.2)) := by
  show mE z d q_W_word 82 [(2, 0), (9, 0), (9, 0), (9, 0), (9, 0), (0, v5)] [] μ = _
  rw [mE_bk (M := q_W_word) k_W_word.1 k_W_word.2 [7, 20, 22, 76, 82, 89, 103, 104, 118, 119, 127, 146] 400]
  have key : ∀ (C : Nat → List zv → Mu → mR) (E : Nat → List zv → List zv → Mu → mR), mbk C E q_W_word.1 q_W_word.2.1 z q_W_word.2.2.2 [7, 20, 22, 76, 82, 89, 103, 104, 118, 119, 127, 146] 400 (zfind q_W_word.2.2.2 82) [(2, 0), (9, 0), (9, 0), (9, 0), (9, 0), (0, v5)] [] μ = (C 84 [(2, 0), (0, v5)] μ).bind fun q1 => (some (q1.1, q1.2)) := by
    intro C E
    rfl
  exact key _ _
set_option maxRecDepth 100000 in
theorem e_W_word_89 (z : zZ) (d : Nat) (v2 : Int) (o4 : Nat) (μ : Mu) (ho4 : o4 = 4 ∨ o4 = 13) : f_W_word_89 z d v2 o4 μ = (mC z d 36 [(2, ((o4 : Nat) : Int)), (0, v2)] μ).bind fun q1 => (bif decide (q1.1 = 0) then (f_W_word_103 z d 0 q1.2) else (f_W_word_103 z d 1 q1.2)) := by
  show mE z d q_W_word 89 [(9, 0), (9, 0), (0, v2), (9, 0), (2, ((o4 : Nat) : Int)), (9, 0)] [] μ = _
  rw [mE_bk (M := q_W_word) k_W_word.1 k_W_word.2 [7, 20, 22, 76, 82, 89, 103, 104, 118, 119, 127, 146] 400]
  have key : ∀ (C : Nat → List zv → Mu → mR) (E : Nat → List zv → List zv → Mu → mR), mbk C E q_W_word.1 q_W_word.2.1 z q_W_word.2.2.2 [7, 20, 22, 76, 82, 89, 103, 104, 118, 119, 127, 146] 400 (zfind q_W_word.2.2.2 89) [(9, 0), (9, 0), (0, v2), (9, 0), (2, ((o4 : Nat) : Int)), (9, 0)] [] μ = (C 36 [(2, ((o4 : Nat) : Int)), (0, v2)] μ).bind fun q1 => (bif decide (q1.1 = 0) then (g_W_word_103 E 0 q1.2) else (g_W_word_103 E 1 q1.2)) := by
    intro C E
    rcases ho4 with rfl | rfl <;> (rfl)
  exact key _ _
set_option maxRecDepth 100000 in
theorem e_W_word_104 (z : zZ) (d : Nat) (v2 : Int) (o4 : Nat) (μ : Mu) (ho4 : o4 = 4 ∨ o4 = 13) : f_W_word_104 z d v2 o4 μ = (mC z d 72 [(2, ((o4 : Nat) : Int)), (0, v2)] μ).bind fun q1 => (bif decide (q1.1 = 0) then (f_W_word_118 z d 0 q1.2) else (f_W_word_118 z d 1 q1.2)) := by
  show mE z d q_W_word 104 [(9, 0), (9, 0), (0, v2), (9, 0), (2, ((o4 : Nat) : Int)), (9, 0)] [] μ = _
  rw [mE_bk (M := q_W_word) k_W_word.1 k_W_word.2 [7, 20, 22, 76, 82, 89, 103, 104, 118, 119, 127, 146] 400]
  have key : ∀ (C : Nat → List zv → Mu → mR) (E : Nat → List zv → List zv → Mu → mR), mbk C E q_W_word.1 q_W_word.2.1 z q_W_word.2.2.2 [7, 20, 22, 76, 82, 89, 103, 104, 118, 119, 127, 146] 400 (zfind q_W_word.2.2.2 104) [(9, 0), (9, 0), (0, v2), (9, 0), (2, ((o4 : Nat) : Int)), (9, 0)] [] μ = (C 72 [(2, ((o4 : Nat) : Int)), (0, v2)] μ).bind fun q1 => (bif decide (q1.1 = 0) then (g_W_word_118 E 0 q1.2) else (g_W_word_118 E 1 q1.2)) := by
    intro C E
    rcases ho4 with rfl | rfl <;> (rfl)
  exact key _ _
set_option maxRecDepth 100000 in
theorem e_W_word_119 (z : zZ) (d : Nat) (v1 : Int) (v5 : Int) (μ : Mu) : f_W_word_119 z d v1 v5 μ = (mC z d 100 [(2, 0), (0, v1), (0, v5)] μ).bind fun q1 => (some (q1.1, q1.2)) := by
  show mE z d q_W_word 119 [(2, 0), (0, v1), (9, 0), (9, 0), (9, 0), (0, v5)] [] μ = _
  rw [mE_bk (M := q_W_word) k_W_word.1 k_W_word.2 [7, 20, 22, 76, 82, 89, 103, 104, 118, 119, 127, 146] 400]
  have key : ∀ (C : Nat → List zv → Mu → mR) (E : Nat → List zv → List zv → Mu → mR), mbk C E q_W_word.1 q_W_word.2.1 z q_W_word.2.2.2 [7, 20, 22, 76, 82, 89, 103, 104, 118, 119, 127, 146] 400 (zfind q_W_word.2.2.2 119) [(2, 0), (0, v1), (9, 0), (9, 0), (9, 0), (0, v5)] [] μ = (C 100 [(2, 0), (0, v1), (0, v5)] μ).bind fun q1 => (some (q1.1, q1.2)) := by
    intro C E
    rfl
  exact key _ _
set_option maxRecDepth 100000 in
theorem e_W_word_127 (z : zZ) (d : Nat) (v3 : Int) (v5 : Int) (μ : Mu) : f_W_word_127 z d v3 v5 μ = bif decide (10 ≤ v3) then ((mC z d 41 [(0, v5), (0, zw (v3 - 10))] μ).bind fun q1 => (f_W_word_146 z d q1.1 q1.2)) else (f_W_word_146 z d ((-1)) μ) := by
  show mE z d q_W_word 127 [(9, 0), (9, 0), (9, 0), (0, v3), (9, 0), (0, v5)] [] μ = _
  rw [mE_bk (M := q_W_word) k_W_word.1 k_W_word.2 [7, 20, 22, 76, 82, 89, 103, 104, 118, 119, 127, 146] 400]
  have key : ∀ (C : Nat → List zv → Mu → mR) (E : Nat → List zv → List zv → Mu → mR), mbk C E q_W_word.1 q_W_word.2.1 z q_W_word.2.2.2 [7, 20, 22, 76, 82, 89, 103, 104, 118, 119, 127, 146] 400 (zfind q_W_word.2.2.2 127) [(9, 0), (9, 0), (9, 0), (0, v3), (9, 0), (0, v5)] [] μ = bif decide (10 ≤ v3) then ((C 41 [(0, v5), (0, zw (v3 - 10))] μ).bind fun q1 => (g_W_word_146 E q1.1 q1.2)) else (g_W_word_146 E ((-1)) μ) := by
    intro C E
    rfl
  exact key _ _
set_option maxRecDepth 100000 in
theorem e_W_word_103 (z : zZ) (d : Nat) (v100 : Int) (μ : Mu) : f_W_word_103 z d v100 μ = some (v100, μ) := by
  show mE z d q_W_word 103 [(9, 0), (9, 0), (9, 0), (9, 0), (9, 0), (9, 0)] [(0, v100)] μ = _
  rw [mE_bk (M := q_W_word) k_W_word.1 k_W_word.2 [7, 20, 22, 76, 82, 89, 103, 104, 118, 119, 127, 146] 400]
  have key : ∀ (C : Nat → List zv → Mu → mR) (E : Nat → List zv → List zv → Mu → mR), mbk C E q_W_word.1 q_W_word.2.1 z q_W_word.2.2.2 [7, 20, 22, 76, 82, 89, 103, 104, 118, 119, 127, 146] 400 (zfind q_W_word.2.2.2 103) [(9, 0), (9, 0), (9, 0), (9, 0), (9, 0), (9, 0)] [(0, v100)] μ = some (v100, μ) := by
    intro C E
    rfl
  exact key _ _
set_option maxRecDepth 100000 in
theorem e_W_word_118 (z : zZ) (d : Nat) (v100 : Int) (μ : Mu) : f_W_word_118 z d v100 μ = some (v100, μ) := by
  show mE z d q_W_word 118 [(9, 0), (9, 0), (9, 0), (9, 0), (9, 0), (9, 0)] [(0, v100)] μ = _
  rw [mE_bk (M := q_W_word) k_W_word.1 k_W_word.2 [7, 20, 22, 76, 82, 89, 103, 104, 118, 119, 127, 146] 400]
  have key : ∀ (C : Nat → List zv → Mu → mR) (E : Nat → List zv → List zv → Mu → mR), mbk C E q_W_word.1 q_W_word.2.1 z q_W_word.2.2.2 [7, 20, 22, 76, 82, 89, 103, 104, 118, 119, 127, 146] 400 (zfind q_W_word.2.2.2 118) [(9, 0), (9, 0), (9, 0), (9, 0), (9, 0), (9, 0)] [(0, v100)] μ = some (v100, μ) := by
    intro C E
    rfl
  exact key _ _
set_option maxRecDepth 100000 in
theorem e_W_word_146 (z : zZ) (d : Nat) (v100 : Int) (μ : Mu) : f_W_word_146 z d v100 μ = some (v100, μ) := by
  show mE z d q_W_word 146 [(9, 0), (9, 0), (9, 0), (9, 0), (9, 0), (9, 0)] [(0, v100)] μ = _
  rw [mE_bk (M := q_W_word) k_W_word.1 k_W_word.2 [7, 20, 22, 76, 82, 89, 103, 104, 118, 119, 127, 146] 400]
  have key : ∀ (C : Nat → List zv → Mu → mR) (E : Nat → List zv → List zv → Mu → mR), mbk C E q_W_word.1 q_W_word.2.1 z q_W_word.2.2.2 [7, 20, 22, 76, 82, 89, 103, 104, 118, 119, 127, 146] 400 (zfind q_W_word.2.2.2 146) [(9, 0), (9, 0), (9, 0), (9, 0), (9, 0), (9, 0)] [(0, v100)] μ = some (v100, μ) := by
    intro C E
    rfl
  exact key _ _
def g_W_worthOf_10 (E : Nat → List zv → List zv → Mu → mR) (v1 : Int) (v2 : Int) (μ : Mu) : mR := E 10 [(2, 0), (0, v1), (0, v2)] [] μ
noncomputable def f_W_worthOf_10 (z : zZ) (d : Nat) (v1 : Int) (v2 : Int) (μ : Mu) : mR := g_W_worthOf_10 (fun pc ls st μ => mE z d q_W_worthOf pc ls st μ) v1 v2 μ
theorem k_W_worthOf : zprK q_W_worthOf.2.2.2 = true ∧ zinc q_W_worthOf.2.2.2 = true := by decide +kernel
set_option maxRecDepth 100000 in
theorem c_W_worthOf (z : zZ) (d : Nat) (v1 : Int) (v2 : Int) (μ : Mu) : mC z (d + 1) 100 [(2, 0), (0, v1), (0, v2)] μ = (mC z d 82 [(2, 0), (0, v1)] μ).bind fun q1 => ((mC z d 83 [(2, 0), (0, v2)] q1.2).bind fun q2 => (f_W_worthOf_10 z d v1 v2 q2.2)) := by
  rw [mC_succ q_W_worthOf rfl rfl rfl]
  rw [mE_bk (M := q_W_worthOf) k_W_worthOf.1 k_W_worthOf.2 [10] 400]
  have key : ∀ (C : Nat → List zv → Mu → mR) (E : Nat → List zv → List zv → Mu → mR), mbk C E q_W_worthOf.1 q_W_worthOf.2.1 z q_W_worthOf.2.2.2 [10] 400 (zfind q_W_worthOf.2.2.2 0) (zentry q_W_worthOf.2.2.1 [(2, 0), (0, v1), (0, v2)]) [] μ = (C 82 [(2, 0), (0, v1)] μ).bind fun q1 => ((C 83 [(2, 0), (0, v2)] q1.2).bind fun q2 => (g_W_worthOf_10 E v1 v2 q2.2)) := by
    intro C E
    rfl
  exact key _ _
set_option maxRecDepth 100000 in
theorem e_W_worthOf_10 (z : zZ) (d : Nat) (v1 : Int) (v2 : Int) (μ : Mu) (m0_6 : Nat) (hcm0_6 : m0_6 = 41 ∨ m0_6 = 47) (hm0_6 : μ 0 6 = ((m0_6 : Nat) : Int) + 1) : f_W_worthOf_10 z d v1 v2 μ = (mC z d 86 [(2, ((m0_6 : Nat) : Int)), (0, 118), (2, 53)] μ).bind fun q1 => (some (q1.1, q1.2)) := by
  show mE z d q_W_worthOf 10 [(2, 0), (0, v1), (0, v2)] [] μ = _
  rw [mE_bk (M := q_W_worthOf) k_W_worthOf.1 k_W_worthOf.2 [10] 400]
  have key : ∀ (C : Nat → List zv → Mu → mR) (E : Nat → List zv → List zv → Mu → mR), mbk C E q_W_worthOf.1 q_W_worthOf.2.1 z q_W_worthOf.2.2.2 [10] 400 (zfind q_W_worthOf.2.2.2 10) [(2, 0), (0, v1), (0, v2)] [] μ = (C 86 [(2, ((m0_6 : Nat) : Int)), (0, 118), (2, 53)] μ).bind fun q1 => (some (q1.1, q1.2)) := by
    intro C E
    rcases hcm0_6 with rfl | rfl <;> (rw [← zup_self hm0_6]; rfl)
  exact key _ _
def g_W_beats_26 (E : Nat → List zv → List zv → Mu → mR) (μ : Mu) : mR := E 26 [(9, 0), (9, 0), (9, 0)] [] μ
noncomputable def f_W_beats_26 (z : zZ) (d : Nat) (μ : Mu) : mR := g_W_beats_26 (fun pc ls st μ => mE z d q_W_beats pc ls st μ) μ
theorem k_W_beats : zprK q_W_beats.2.2.2 = true ∧ zinc q_W_beats.2.2.2 = true := by decide +kernel
set_option maxRecDepth 100000 in
theorem c_W_beats (z : zZ) (d : Nat) (v1 : Int) (v2 : Int) (μ : Mu) : mC z (d + 1) 101 [(2, 0), (0, v1), (0, v2)] μ = (mC z d 37 [(2, 4), (0, v1)] μ).bind fun q1 => (bif decide (q1.1 = 0) then (f_W_beats_26 z d q1.2) else ((mC z d 37 [(2, 13), (0, v2)] q1.2).bind fun q2 => (bif !decide (q2.1 = 0) then (gI v1 12 (gI v2 12 ((mC z d 102 [(2, 0), (0, q2.2 8 v1.toNat), (0, q2.2 17 v2.toNat)] q2.2).bind fun q3 => (some (q3.1, q3.2))))) else (f_W_beats_26 z d q2.2)))) := by
  rw [mC_succ q_W_beats rfl rfl rfl]
  rw [mE_bk (M := q_W_beats) k_W_beats.1 k_W_beats.2 [26] 400]
  have key : ∀ (C : Nat → List zv → Mu → mR) (E : Nat → List zv → List zv → Mu → mR), mbk C E q_W_beats.1 q_W_beats.2.1 z q_W_beats.2.2.2 [26] 400 (zfind q_W_beats.2.2.2 0) (zentry q_W_beats.2.2.1 [(2, 0), (0, v1), (0, v2)]) [] μ = (C 37 [(2, 4), (0, v1)] μ).bind fun q1 => (bif decide (q1.1 = 0) then (g_W_beats_26 E q1.2) else ((C 37 [(2, 13), (0, v2)] q1.2).bind fun q2 => (bif !decide (q2.1 = 0) then (gI v1 12 (gI v2 12 ((C 102 [(2, 0), (0, q2.2 8 v1.toNat), (0, q2.2 17 v2.toNat)] q2.2).bind fun q3 => (some (q3.1, q3.2))))) else (g_W_beats_26 E q2.2)))) := by
    intro C E
    rfl
  exact key _ _
set_option maxRecDepth 100000 in
theorem e_W_beats_26 (z : zZ) (d : Nat) (μ : Mu) : f_W_beats_26 z d μ = some ((-2), μ) := by
  show mE z d q_W_beats 26 [(9, 0), (9, 0), (9, 0)] [] μ = _
  rw [mE_bk (M := q_W_beats) k_W_beats.1 k_W_beats.2 [26] 400]
  have key : ∀ (C : Nat → List zv → Mu → mR) (E : Nat → List zv → List zv → Mu → mR), mbk C E q_W_beats.1 q_W_beats.2.1 z q_W_beats.2.2.2 [26] 400 (zfind q_W_beats.2.2.2 26) [(9, 0), (9, 0), (9, 0)] [] μ = some ((-2), μ) := by
    intro C E
    rfl
  exact key _ _
def g_W_outcome_33 (E : Nat → List zv → List zv → Mu → mR) (v3 : Int) (μ : Mu) : mR := E 33 [(9, 0), (9, 0), (9, 0), (0, v3), (9, 0)] [] μ
noncomputable def f_W_outcome_33 (z : zZ) (d : Nat) (v3 : Int) (μ : Mu) : mR := g_W_outcome_33 (fun pc ls st μ => mE z d q_W_outcome pc ls st μ) v3 μ
def g_W_outcome_42 (E : Nat → List zv → List zv → Mu → mR) (v100 : Int) (μ : Mu) : mR := E 42 [(9, 0), (9, 0), (9, 0), (9, 0), (9, 0)] [(0, v100)] μ
noncomputable def f_W_outcome_42 (z : zZ) (d : Nat) (v100 : Int) (μ : Mu) : mR := g_W_outcome_42 (fun pc ls st μ => mE z d q_W_outcome pc ls st μ) v100 μ
theorem k_W_outcome : zprK q_W_outcome.2.2.2 = true ∧ zinc q_W_outcome.2.2.2 = true := by decide +kernel
set_option maxRecDepth 100000 in
theorem c_W_outcome (z : zZ) (d : Nat) (v1 : Int) (v2 : Int) (μ : Mu) : mC z (d + 1) 102 [(2, 0), (0, v1), (0, v2)] μ = (mC z d 80 [(0, v1), (0, v2), (2, 13)] μ).bind fun q1 => ((mC z d 80 [(0, v2), (0, v1), (2, 4)] q1.2).bind fun q2 => (bif !decide (q1.1 = q2.1) then (f_W_outcome_33 z d q1.1 q2.2) else (some (0, q2.2)))) := by
  rw [mC_succ q_W_outcome rfl rfl rfl]
  rw [mE_bk (M := q_W_outcome) k_W_outcome.1 k_W_outcome.2 [33, 42] 400]
  have key : ∀ (C : Nat → List zv → Mu → mR) (E : Nat → List zv → List zv → Mu → mR), mbk C E q_W_outcome.1 q_W_outcome.2.1 z q_W_outcome.2.2.2 [33, 42] 400 (zfind q_W_outcome.2.2.2 0) (zentry q_W_outcome.2.2.1 [(2, 0), (0, v1), (0, v2)]) [] μ = (C 80 [(0, v1), (0, v2), (2, 13)] μ).bind fun q1 => ((C 80 [(0, v2), (0, v1), (2, 4)] q1.2).bind fun q2 => (bif !decide (q1.1 = q2.1) then (g_W_outcome_33 E q1.1 q2.2) else (some (0, q2.2)))) := by
    intro C E
    rfl
  exact key _ _
set_option maxRecDepth 100000 in
theorem e_W_outcome_33 (z : zZ) (d : Nat) (v3 : Int) (μ : Mu) : f_W_outcome_33 z d v3 μ = bif decide (v3 = 0) then (f_W_outcome_42 z d ((-1)) μ) else (f_W_outcome_42 z d 1 μ) := by
  show mE z d q_W_outcome 33 [(9, 0), (9, 0), (9, 0), (0, v3), (9, 0)] [] μ = _
  rw [mE_bk (M := q_W_outcome) k_W_outcome.1 k_W_outcome.2 [33, 42] 400]
  have key : ∀ (C : Nat → List zv → Mu → mR) (E : Nat → List zv → List zv → Mu → mR), mbk C E q_W_outcome.1 q_W_outcome.2.1 z q_W_outcome.2.2.2 [33, 42] 400 (zfind q_W_outcome.2.2.2 33) [(9, 0), (9, 0), (9, 0), (0, v3), (9, 0)] [] μ = bif decide (v3 = 0) then (g_W_outcome_42 E ((-1)) μ) else (g_W_outcome_42 E 1 μ) := by
    intro C E
    rfl
  exact key _ _
set_option maxRecDepth 100000 in
theorem e_W_outcome_42 (z : zZ) (d : Nat) (v100 : Int) (μ : Mu) : f_W_outcome_42 z d v100 μ = some (v100, μ) := by
  show mE z d q_W_outcome 42 [(9, 0), (9, 0), (9, 0), (9, 0), (9, 0)] [(0, v100)] μ = _
  rw [mE_bk (M := q_W_outcome) k_W_outcome.1 k_W_outcome.2 [33, 42] 400]
  have key : ∀ (C : Nat → List zv → Mu → mR) (E : Nat → List zv → List zv → Mu → mR), mbk C E q_W_outcome.1 q_W_outcome.2.1 z q_W_outcome.2.2.2 [33, 42] 400 (zfind q_W_outcome.2.2.2 42) [(9, 0), (9, 0), (9, 0), (9, 0), (9, 0)] [(0, v100)] μ = some (v100, μ) := by
    intro C E
    rfl
  exact key _ _
def g_W_place_7 (E : Nat → List zv → List zv → Mu → mR) (v1 : Int) (v2 : Int) (v3 : Int) (μ : Mu) : mR := E 7 [(2, 0), (0, v1), (0, v2), (0, v3), (9, 0), (9, 0), (9, 0), (9, 0)] [] μ
noncomputable def f_W_place_7 (z : zZ) (d : Nat) (v1 : Int) (v2 : Int) (v3 : Int) (μ : Mu) : mR := g_W_place_7 (fun pc ls st μ => mE z d q_W_place pc ls st μ) v1 v2 v3 μ
def g_W_place_29 (E : Nat → List zv → List zv → Mu → mR) (μ : Mu) : mR := E 29 [(9, 0), (9, 0), (9, 0), (9, 0), (9, 0), (9, 0), (9, 0), (9, 0)] [] μ
noncomputable def f_W_place_29 (z : zZ) (d : Nat) (μ : Mu) : mR := g_W_place_29 (fun pc ls st μ => mE z d q_W_place pc ls st μ) μ
def g_W_place_31 (E : Nat → List zv → List zv → Mu → mR) (v1 : Int) (v2 : Int) (v3 : Int) (μ : Mu) : mR := E 31 [(2, 0), (0, v1), (0, v2), (0, v3), (9, 0), (9, 0), (9, 0), (9, 0)] [] μ
noncomputable def f_W_place_31 (z : zZ) (d : Nat) (v1 : Int) (v2 : Int) (v3 : Int) (μ : Mu) : mR := g_W_place_31 (fun pc ls st μ => mE z d q_W_place pc ls st μ) v1 v2 v3 μ
def g_W_place_48 (E : Nat → List zv → List zv → Mu → mR) (v1 : Int) (v2 : Int) (o4 : Nat) (μ : Mu) : mR := E 48 [(2, 0), (0, v1), (0, v2), (9, 0), (2, ((o4 : Nat) : Int)), (9, 0), (9, 0), (9, 0)] [] μ
noncomputable def f_W_place_48 (z : zZ) (d : Nat) (v1 : Int) (v2 : Int) (o4 : Nat) (μ : Mu) : mR := g_W_place_48 (fun pc ls st μ => mE z d q_W_place pc ls st μ) v1 v2 o4 μ
def g_W_place_56 (E : Nat → List zv → List zv → Mu → mR) (v2 : Int) (o4 : Nat) (o100 : Nat) (μ : Mu) : mR := E 56 [(9, 0), (9, 0), (0, v2), (9, 0), (2, ((o4 : Nat) : Int)), (9, 0), (9, 0), (9, 0)] [(2, ((o100 : Nat) : Int))] μ
noncomputable def f_W_place_56 (z : zZ) (d : Nat) (v2 : Int) (o4 : Nat) (o100 : Nat) (μ : Mu) : mR := g_W_place_56 (fun pc ls st μ => mE z d q_W_place pc ls st μ) v2 o4 o100 μ
def g_W_place_64 (E : Nat → List zv → List zv → Mu → mR) (v2 : Int) (o4 : Nat) (o5 : Nat) (v6 : Int) (v7 : Int) (μ : Mu) : mR := E 64 [(9, 0), (9, 0), (0, v2), (9, 0), (2, ((o4 : Nat) : Int)), (2, ((o5 : Nat) : Int)), (0, v6), (0, v7)] [] μ
noncomputable def f_W_place_64 (z : zZ) (d : Nat) (v2 : Int) (o4 : Nat) (o5 : Nat) (v6 : Int) (v7 : Int) (μ : Mu) : mR := g_W_place_64 (fun pc ls st μ => mE z d q_W_place pc ls st μ) v2 o4 o5 v6 v7 μ
def g_W_place_100 (E : Nat → List zv → List zv → Mu → mR) (v2 : Int) (o4 : Nat) (o5 : Nat) (v6 : Int) (v7 : Int) (μ : Mu) : mR := E 100 [(9, 0), (9, 0), (0, v2), (9, 0), (2, ((o4 : Nat) : Int)), (2, ((o5 : Nat) : Int)), (0, v6), (0, v7)] [] μ
noncomputable def f_W_place_100 (z : zZ) (d : Nat) (v2 : Int) (o4 : Nat) (o5 : Nat) (v6 : Int) (v7 : Int) (μ : Mu) : mR := g_W_place_100 (fun pc ls st μ => mE z d q_W_place pc ls st μ) v2 o4 o5 v6 v7 μ
theorem k_W_place : zprK q_W_place.2.2.2 = true ∧ zinc q_W_place.2.2.2 = true := by decide +kernel
set_option maxRecDepth 100000 in
theorem c_W_place (z : zZ) (d : Nat) (v1 : Int) (v2 : Int) (v3 : Int) (μ : Mu) : mC z (d + 1) 103 [(2, 0), (0, v1), (0, v2), (0, v3)] μ = (mC z d 15 [(0, v1)] μ).bind fun q1 => (bif decide (q1.1 = 0) then (f_W_place_29 z d q1.2) else (f_W_place_7 z d v1 v2 v3 q1.2)) := by
  rw [mC_succ q_W_place rfl rfl rfl]
  rw [mE_bk (M := q_W_place) k_W_place.1 k_W_place.2 [7, 29, 31, 48, 56, 64, 100] 400]
  have key : ∀ (C : Nat → List zv → Mu → mR) (E : Nat → List zv → List zv → Mu → mR), mbk C E q_W_place.1 q_W_place.2.1 z q_W_place.2.2.2 [7, 29, 31, 48, 56, 64, 100] 400 (zfind q_W_place.2.2.2 0) (zentry q_W_place.2.2.1 [(2, 0), (0, v1), (0, v2), (0, v3)]) [] μ = (C 15 [(0, v1)] μ).bind fun q1 => (bif decide (q1.1 = 0) then (g_W_place_29 E q1.2) else (g_W_place_7 E v1 v2 v3 q1.2)) := by
    intro C E
    rfl
  exact key _ _
set_option maxRecDepth 100000 in
theorem e_W_place_29 (z : zZ) (d : Nat) (μ : Mu) : f_W_place_29 z d μ = some ((-1), μ) := by
  show mE z d q_W_place 29 [(9, 0), (9, 0), (9, 0), (9, 0), (9, 0), (9, 0), (9, 0), (9, 0)] [] μ = _
  rw [mE_bk (M := q_W_place) k_W_place.1 k_W_place.2 [7, 29, 31, 48, 56, 64, 100] 400]
  have key : ∀ (C : Nat → List zv → Mu → mR) (E : Nat → List zv → List zv → Mu → mR), mbk C E q_W_place.1 q_W_place.2.1 z q_W_place.2.2.2 [7, 29, 31, 48, 56, 64, 100] 400 (zfind q_W_place.2.2.2 29) [(9, 0), (9, 0), (9, 0), (9, 0), (9, 0), (9, 0), (9, 0), (9, 0)] [] μ = some ((-1), μ) := by
    intro C E
    rfl
  exact key _ _
set_option maxRecDepth 100000 in
theorem e_W_place_7 (z : zZ) (d : Nat) (v1 : Int) (v2 : Int) (v3 : Int) (μ : Mu) (hv1 : v1 = 0 ∨ v1 = 1) : f_W_place_7 z d v1 v2 v3 μ = (mC z d 37 [(2, (((4 + 9 * v1.toNat) : Nat) : Int)), (0, v2)] μ).bind fun q1 => (bif decide (q1.1 = 0) then (f_W_place_29 z d q1.2) else (bif decide (v3 < 0) then (f_W_place_29 z d q1.2) else (bif decide (v3 ≤ 1) then (f_W_place_31 z d v1 v2 v3 q1.2) else (f_W_place_29 z d q1.2)))) := by
  show mE z d q_W_place 7 [(2, 0), (0, v1), (0, v2), (0, v3), (9, 0), (9, 0), (9, 0), (9, 0)] [] μ = _
  rw [mE_bk (M := q_W_place) k_W_place.1 k_W_place.2 [7, 29, 31, 48, 56, 64, 100] 400]
  have key : ∀ (C : Nat → List zv → Mu → mR) (E : Nat → List zv → List zv → Mu → mR), mbk C E q_W_place.1 q_W_place.2.1 z q_W_place.2.2.2 [7, 29, 31, 48, 56, 64, 100] 400 (zfind q_W_place.2.2.2 7) [(2, 0), (0, v1), (0, v2), (0, v3), (9, 0), (9, 0), (9, 0), (9, 0)] [] μ = (C 37 [(2, (((4 + 9 * v1.toNat) : Nat) : Int)), (0, v2)] μ).bind fun q1 => (bif decide (q1.1 = 0) then (g_W_place_29 E q1.2) else (bif decide (v3 < 0) then (g_W_place_29 E q1.2) else (bif decide (v3 ≤ 1) then (g_W_place_31 E v1 v2 v3 q1.2) else (g_W_place_29 E q1.2)))) := by
    intro C E
    rcases hv1 with rfl | rfl <;> (rfl)
  exact key _ _
set_option maxRecDepth 100000 in
theorem e_W_place_31 (z : zZ) (d : Nat) (v1 : Int) (v2 : Int) (v3 : Int) (μ : Mu) (hv1 : v1 = 0 ∨ v1 = 1) : f_W_place_31 z d v1 v2 v3 μ = bif !decide (v3 = 0) then (f_W_place_48 z d v1 v2 (4 + 9 * v1.toNat) μ) else (f_W_place_56 z d v2 (4 + 9 * v1.toNat) (4 + 9 * v1.toNat) μ) := by
  show mE z d q_W_place 31 [(2, 0), (0, v1), (0, v2), (0, v3), (9, 0), (9, 0), (9, 0), (9, 0)] [] μ = _
  rw [mE_bk (M := q_W_place) k_W_place.1 k_W_place.2 [7, 29, 31, 48, 56, 64, 100] 400]
  have key : ∀ (C : Nat → List zv → Mu → mR) (E : Nat → List zv → List zv → Mu → mR), mbk C E q_W_place.1 q_W_place.2.1 z q_W_place.2.2.2 [7, 29, 31, 48, 56, 64, 100] 400 (zfind q_W_place.2.2.2 31) [(2, 0), (0, v1), (0, v2), (0, v3), (9, 0), (9, 0), (9, 0), (9, 0)] [] μ = bif !decide (v3 = 0) then (g_W_place_48 E v1 v2 (4 + 9 * v1.toNat) μ) else (g_W_place_56 E v2 (4 + 9 * v1.toNat) (4 + 9 * v1.toNat) μ) := by
    intro C E
    rcases hv1 with rfl | rfl <;> (rfl)
  exact key _ _
set_option maxRecDepth 100000 in
theorem e_W_place_48 (z : zZ) (d : Nat) (v1 : Int) (v2 : Int) (o4 : Nat) (μ : Mu) (ho4 : o4 = 4 ∨ o4 = 13) (hv1 : v1 = 0 ∨ v1 = 1) : f_W_place_48 z d v1 v2 o4 μ = f_W_place_56 z d v2 o4 (4 + 9 * (zw (1 - v1)).toNat) μ := by
  show mE z d q_W_place 48 [(2, 0), (0, v1), (0, v2), (9, 0), (2, ((o4 : Nat) : Int)), (9, 0), (9, 0), (9, 0)] [] μ = _
  rw [mE_bk (M := q_W_place) k_W_place.1 k_W_place.2 [7, 29, 31, 48, 56, 64, 100] 400]
  have key : ∀ (C : Nat → List zv → Mu → mR) (E : Nat → List zv → List zv → Mu → mR), mbk C E q_W_place.1 q_W_place.2.1 z q_W_place.2.2.2 [7, 29, 31, 48, 56, 64, 100] 400 (zfind q_W_place.2.2.2 48) [(2, 0), (0, v1), (0, v2), (9, 0), (2, ((o4 : Nat) : Int)), (9, 0), (9, 0), (9, 0)] [] μ = g_W_place_56 E v2 o4 (4 + 9 * (zw (1 - v1)).toNat) μ := by
    intro C E
    rcases ho4 with rfl | rfl <;> rcases hv1 with rfl | rfl <;> (rfl)
  exact key _ _
set_option maxRecDepth 100000 in
theorem e_W_place_56 (z : zZ) (d : Nat) (v2 : Int) (o4 : Nat) (o100 : Nat) (μ : Mu) (ho4 : o4 = 4 ∨ o4 = 13) (ho100 : o100 = 4 ∨ o100 = 13) : f_W_place_56 z d v2 o4 o100 μ = f_W_place_64 z d v2 o4 o100 0 0 μ := by
  show mE z d q_W_place 56 [(9, 0), (9, 0), (0, v2), (9, 0), (2, ((o4 : Nat) : Int)), (9, 0), (9, 0), (9, 0)] [(2, ((o100 : Nat) : Int))] μ = _
  rw [mE_bk (M := q_W_place) k_W_place.1 k_W_place.2 [7, 29, 31, 48, 56, 64, 100] 400]
  have key : ∀ (C : Nat → List zv → Mu → mR) (E : Nat → List zv → List zv → Mu → mR), mbk C E q_W_place.1 q_W_place.2.1 z q_W_place.2.2.2 [7, 29, 31, 48, 56, 64, 100] 400 (zfind q_W_place.2.2.2 56) [(9, 0), (9, 0), (0, v2), (9, 0), (2, ((o4 : Nat) : Int)), (9, 0), (9, 0), (9, 0)] [(2, ((o100 : Nat) : Int))] μ = g_W_place_64 E v2 o4 o100 0 0 μ := by
    intro C E
    rcases ho4 with rfl | rfl <;> rcases ho100 with rfl | rfl <;> (rfl)
  exact key _ _
set_option maxRecDepth 100000 in
theorem e_W_place_64 (z : zZ) (d : Nat) (v2 : Int) (o4 : Nat) (o5 : Nat) (v6 : Int) (v7 : Int) (μ : Mu) (ho4 : o4 = 4 ∨ o4 = 13) (ho5 : o5 = 4 ∨ o5 = 13) : f_W_place_64 z d v2 o4 o5 v6 v7 μ = bif decide (μ o4 6 ≤ v7) then (some (v6, μ)) else (gI v7 12 (gI v2 12 ((mC z d 80 [(0, μ (o4 + 4) v7.toNat), (0, μ (o4 + 4) v2.toNat), (2, ((o5 : Nat) : Int))] μ).bind fun q1 => (bif decide (q1.1 = 0) then (f_W_place_100 z d v2 o4 o5 v6 v7 q1.2) else (f_W_place_100 z d v2 o4 o5 (zw (v6 + 1)) v7 q1.2))))) := by
  show mE z d q_W_place 64 [(9, 0), (9, 0), (0, v2), (9, 0), (2, ((o4 : Nat) : Int)), (2, ((o5 : Nat) : Int)), (0, v6), (0, v7)] [] μ = _
  rw [mE_bk (M := q_W_place) k_W_place.1 k_W_place.2 [7, 29, 31, 48, 56, 64, 100] 400]
  have key : ∀ (C : Nat → List zv → Mu → mR) (E : Nat → List zv → List zv → Mu → mR), mbk C E q_W_place.1 q_W_place.2.1 z q_W_place.2.2.2 [7, 29, 31, 48, 56, 64, 100] 400 (zfind q_W_place.2.2.2 64) [(9, 0), (9, 0), (0, v2), (9, 0), (2, ((o4 : Nat) : Int)), (2, ((o5 : Nat) : Int)), (0, v6), (0, v7)] [] μ = bif decide (μ o4 6 ≤ v7) then (some (v6, μ)) else (gI v7 12 (gI v2 12 ((C 80 [(0, μ (o4 + 4) v7.toNat), (0, μ (o4 + 4) v2.toNat), (2, ((o5 : Nat) : Int))] μ).bind fun q1 => (bif decide (q1.1 = 0) then (g_W_place_100 E v2 o4 o5 v6 v7 q1.2) else (g_W_place_100 E v2 o4 o5 (zw (v6 + 1)) v7 q1.2))))) := by
    intro C E
    rcases ho4 with rfl | rfl <;> rcases ho5 with rfl | rfl <;> (rfl)
  exact key _ _
set_option maxRecDepth 100000 in
theorem e_W_place_100 (z : zZ) (d : Nat) (v2 : Int) (o4 : Nat) (o5 : Nat) (v6 : Int) (v7 : Int) (μ : Mu) (ho4 : o4 = 4 ∨ o4 = 13) (ho5 : o5 = 4 ∨ o5 = 13) : f_W_place_100 z d v2 o4 o5 v6 v7 μ = f_W_place_64 z d v2 o4 o5 v6 (zw (v7 + 1)) μ := by
  show mE z d q_W_place 100 [(9, 0), (9, 0), (0, v2), (9, 0), (2, ((o4 : Nat) : Int)), (2, ((o5 : Nat) : Int)), (0, v6), (0, v7)] [] μ = _
  rw [mE_bk (M := q_W_place) k_W_place.1 k_W_place.2 [7, 29, 31, 48, 56, 64, 100] 400]
  have key : ∀ (C : Nat → List zv → Mu → mR) (E : Nat → List zv → List zv → Mu → mR), mbk C E q_W_place.1 q_W_place.2.1 z q_W_place.2.2.2 [7, 29, 31, 48, 56, 64, 100] 400 (zfind q_W_place.2.2.2 100) [(9, 0), (9, 0), (0, v2), (9, 0), (2, ((o4 : Nat) : Int)), (2, ((o5 : Nat) : Int)), (0, v6), (0, v7)] [] μ = g_W_place_64 E v2 o4 o5 v6 (zw (v7 + 1)) μ := by
    intro C E
    rcases ho4 with rfl | rfl <;> rcases ho5 with rfl | rfl <;> (rfl)
  exact key _ _
