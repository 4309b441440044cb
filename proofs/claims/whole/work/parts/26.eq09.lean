def g_M_word_48 (E : Nat → List zv → List zv → Mu → mR) (v1 : Int) (v2 : Int) (μ : Mu) : mR := E 48 [(2, 86), (0, v1), (0, v2), (9, 0)] [] μ
noncomputable def f_M_word_48 (z : zZ) (d : Nat) (v1 : Int) (v2 : Int) (μ : Mu) : mR := g_M_word_48 (fun pc ls st μ => mE z d q_M_word pc ls st μ) v1 v2 μ
def g_M_word_55 (E : Nat → List zv → List zv → Mu → mR) (v1 : Int) (v2 : Int) (μ : Mu) : mR := E 55 [(2, 86), (0, v1), (0, v2), (9, 0)] [] μ
noncomputable def f_M_word_55 (z : zZ) (d : Nat) (v1 : Int) (v2 : Int) (μ : Mu) : mR := g_M_word_55 (fun pc ls st μ => mE z d q_M_word pc ls st μ) v1 v2 μ
def g_M_word_62 (E : Nat → List zv → List zv → Mu → mR) (v1 : Int) (v2 : Int) (μ : Mu) : mR := E 62 [(2, 86), (0, v1), (0, v2), (9, 0)] [] μ
noncomputable def f_M_word_62 (z : zZ) (d : Nat) (v1 : Int) (v2 : Int) (μ : Mu) : mR := g_M_word_62 (fun pc ls st μ => mE z d q_M_word pc ls st μ) v1 v2 μ
def g_M_word_79 (E : Nat → List zv → List zv → Mu → mR) (v100 : Int) (μ : Mu) : mR := E 79 [(9, 0), (9, 0), (9, 0), (9, 0)] [(0, v100)] μ
noncomputable def f_M_word_79 (z : zZ) (d : Nat) (v100 : Int) (μ : Mu) : mR := g_M_word_79 (fun pc ls st μ => mE z d q_M_word pc ls st μ) v100 μ
def g_M_word_80 (E : Nat → List zv → List zv → Mu → mR) (v1 : Int) (v2 : Int) (μ : Mu) : mR := E 80 [(2, 86), (0, v1), (0, v2), (9, 0)] [] μ
noncomputable def f_M_word_80 (z : zZ) (d : Nat) (v1 : Int) (v2 : Int) (μ : Mu) : mR := g_M_word_80 (fun pc ls st μ => mE z d q_M_word pc ls st μ) v1 v2 μ
def g_M_word_94 (E : Nat → List zv → List zv → Mu → mR) (v100 : Int) (μ : Mu) : mR := E 94 [(9, 0), (9, 0), (9, 0), (9, 0)] [(0, v100)] μ
noncomputable def f_M_word_94 (z : zZ) (d : Nat) (v100 : Int) (μ : Mu) : mR := g_M_word_94 (fun pc ls st μ => mE z d q_M_word pc ls st μ) v100 μ
def g_M_word_95 (E : Nat → List zv → List zv → Mu → mR) (v1 : Int) (v2 : Int) (μ : Mu) : mR := E 95 [(2, 86), (0, v1), (0, v2), (9, 0)] [] μ
noncomputable def f_M_word_95 (z : zZ) (d : Nat) (v1 : Int) (v2 : Int) (μ : Mu) : mR := g_M_word_95 (fun pc ls st μ => mE z d q_M_word pc ls st μ) v1 v2 μ
def g_M_word_102 (E : Nat → List zv → List zv → Mu → mR) (v1 : Int) (v2 : Int) (v3 : Int) (μ : Mu) : mR := E 102 [(2, 86), (0, v1), (0, v2), (0, v3)] [] μ
noncomputable def f_M_word_102 (z : zZ) (d : Nat) (v1 : Int) (v2 : Int) (v3 : Int) (μ : Mu) : mR := g_M_word_102 (fun pc ls st μ => mE z d q_M_word pc ls st μ) v1 v2 v3 μ
def g_M_word_139 (E : Nat → List zv → List zv → Mu → mR) (v100 : Int) (μ : Mu) : mR := E 139 [(9, 0), (9, 0), (9, 0), (9, 0)] [(0, v100)] μ
noncomputable def f_M_word_139 (z : zZ) (d : Nat) (v100 : Int) (μ : Mu) : mR := g_M_word_139 (fun pc ls st μ => mE z d q_M_word pc ls st μ) v100 μ
theorem k_M_word : zprK q_M_word.2.2.2 = true ∧ zinc q_M_word.2.2.2 = true := by decide +kernel
set_option maxRecDepth 100000 in
theorem c_M_word (z : zZ) (d : Nat) (v1 : Int) (v2 : Int) (v3 : Int) (μ : Mu) : mC z (d + 1) 256 [(2, 86), (0, v1), (0, v2), (0, v3)] μ = (mC z d 257 [(2, 86), (0, v1), (0, v2)] μ).bind fun q1 => (bif !decide (q1.1 = 0) then (bif decide (v3 = 0) then (f_M_word_48 z d v1 v2 q1.2) else bif decide (v3 = 1) then (f_M_word_55 z d v1 v2 q1.2) else bif decide (v3 = 2) then (f_M_word_62 z d v1 v2 q1.2) else bif decide (v3 = 3) then (f_M_word_80 z d v1 v2 q1.2) else bif decide (v3 = 4) then (f_M_word_95 z d v1 v2 q1.2) else (f_M_word_102 z d v1 v2 v3 q1.2)) else (some ((-1), q1.2))) := by
  rw [mC_succ q_M_word rfl rfl rfl]
  rw [mE_bk (M := q_M_word) k_M_word.1 k_M_word.2 [48, 55, 62, 79, 80, 94, 95, 102, 139] 400]
  have key : ∀ (C : Nat → List zv → Mu → mR) (E : Nat → List zv → List zv → Mu → mR), mbk C E q_M_word.1 q_M_word.2.1 z q_M_word.2.2.2 [48, 55, 62, 79, 80, 94, 95, 102, 139] 400 (zfind q_M_word.2.2.2 0) (zentry q_M_word.2.2.1 [(2, 86), (0, v1), (0, v2), (0, v3)]) [] μ = (C 257 [(2, 86), (0, v1), (0, v2)] μ).bind fun q1 => (bif !decide (q1.1 = 0) then (bif decide (v3 = 0) then (g_M_word_48 E v1 v2 q1.2) else bif decide (v3 = 1) then (g_M_word_55 E v1 v2 q1.2) else bif decide (v3 = 2) then (g_M_word_62 E v1 v2 q1.2) else bif decide (v3 = 3) then (g_M_word_80 E v1 v2 q1.2) else bif decide (v3 = 4) then (g_M_word_95 E v1 v2 q1.2) else (g_M_word_102 E v1 v2 v3 q1.2)) else (some ((-1), q1.2))) := by
    intro C E
    rfl
  exact key _ _
set_option maxRecDepth 100000 in
theorem e_M_word_48 (z : zZ) (d : Nat) (v1 : Int) (v2 : Int) (μ : Mu) : f_M_word_48 z d v1 v2 μ = (mC z d 202 [(2, 86), (0, v1), (0, v2)] μ).bind fun q1 => (some (q1.1, q1.2)) := by
  show mE z d q_M_word 48 [(2, 86), (0, v1), (0, v2), (9, 0)] [] μ = _
  rw [mE_bk (M := q_M_word) k_M_word.1 k_M_word.2 [48, 55, 62, 79, 80, 94, 95, 102, 139] 400]
  have key : ∀ (C : Nat → List zv → Mu → mR) (E : Nat → List zv → List zv → Mu → mR), mbk C E q_M_word.1 q_M_word.2.1 z q_M_word.2.2.2 [48, 55, 62, 79, 80, 94, 95, 102, 139] 400 (zfind q_M_word.2.2.2 48) [(2, 86), (0, v1), (0, v2), (9, 0)] [] μ = (C 202 [(2, 86), (0, v1), (0, v2)] μ).bind fun q1 => (some (q1.1, q1.2)) := by
    intro C E
    rfl
  exact key _ _
set_option maxRecDepth 100000 in
theorem e_M_word_55 (z : zZ) (d : Nat) (v1 : Int) (v2 : Int) (μ : Mu) : f_M_word_55 z d v1 v2 μ = (mC z d 247 [(2, 86), (0, v1), (0, v2)] μ).bind fun q1 => (some (q1.1, q1.2)) := by
  show mE z d q_M_word 55 [(2, 86), (0, v1), (0, v2), (9, 0)] [] μ = _
  rw [mE_bk (M := q_M_word) k_M_word.1 k_M_word.2 [48, 55, 62, 79, 80, 94, 95, 102, 139] 400]
  have key : ∀ (C : Nat → List zv → Mu → mR) (E : Nat → List zv → List zv → Mu → mR), mbk C E q_M_word.1 q_M_word.2.1 z q_M_word.2.2.2 [48, 55, 62, 79, 80, 94, 95, 102, 139] 400 (zfind q_M_word.2.2.2 55) [(2, 86), (0, v1), (0, v2), (9, 0)] [] μ = (C 247 [(2, 86), (0, v1), (0, v2)] μ).bind fun q1 => (some (q1.1, q1.2)) := by
    intro C E
    rfl
  exact key _ _
set_option maxRecDepth 100000 in
theorem e_M_word_62 (z : zZ) (d : Nat) (v1 : Int) (v2 : Int) (μ : Mu) : f_M_word_62 z d v1 v2 μ = (mC z d 199 [(2, 86), (0, v1)] μ).bind fun q1 => ((mC z d 189 [(0, q1.1), (0, v2)] q1.2).bind fun q2 => (bif decide (q2.1 = 0) then (f_M_word_79 z d 0 q2.2) else (f_M_word_79 z d 1 q2.2))) := by
  show mE z d q_M_word 62 [(2, 86), (0, v1), (0, v2), (9, 0)] [] μ = _
  rw [mE_bk (M := q_M_word) k_M_word.1 k_M_word.2 [48, 55, 62, 79, 80, 94, 95, 102, 139] 400]
  have key : ∀ (C : Nat → List zv → Mu → mR) (E : Nat → List zv → List zv → Mu → mR), mbk C E q_M_word.1 q_M_word.2.1 z q_M_word.2.2.2 [48, 55, 62, 79, 80, 94, 95, 102, 139] 400 (zfind q_M_word.2.2.2 62) [(2, 86), (0, v1), (0, v2), (9, 0)] [] μ = (C 199 [(2, 86), (0, v1)] μ).bind fun q1 => ((C 189 [(0, q1.1), (0, v2)] q1.2).bind fun q2 => (bif decide (q2.1 = 0) then (g_M_word_79 E 0 q2.2) else (g_M_word_79 E 1 q2.2))) := by
    intro C E
    rfl
  exact key _ _
set_option maxRecDepth 100000 in
theorem e_M_word_80 (z : zZ) (d : Nat) (v1 : Int) (v2 : Int) (μ : Mu) : f_M_word_80 z d v1 v2 μ = (mC z d 235 [(2, 86), (0, v1), (0, v2)] μ).bind fun q1 => (bif decide (q1.1 = 0) then (f_M_word_94 z d 0 q1.2) else (f_M_word_94 z d 1 q1.2)) := by
  show mE z d q_M_word 80 [(2, 86), (0, v1), (0, v2), (9, 0)] [] μ = _
  rw [mE_bk (M := q_M_word) k_M_word.1 k_M_word.2 [48, 55, 62, 79, 80, 94, 95, 102, 139] 400]
  have key : ∀ (C : Nat → List zv → Mu → mR) (E : Nat → List zv → List zv → Mu → mR), mbk C E q_M_word.1 q_M_word.2.1 z q_M_word.2.2.2 [48, 55, 62, 79, 80, 94, 95, 102, 139] 400 (zfind q_M_word.2.2.2 80) [(2, 86), (0, v1), (0, v2), (9, 0)] [] μ = (C 235 [(2, 86), (0, v1), (0, v2)] μ).bind fun q1 => (bif decide (q1.1 = 0) then (g_M_word_94 E 0 q1.2) else (g_M_word_94 E 1 q1.2)) := by
    intro C E
    rfl
  exact key _ _
set_option maxRecDepth 100000 in
theorem e_M_word_95 (z : zZ) (d : Nat) (v1 : Int) (v2 : Int) (μ : Mu) : f_M_word_95 z d v1 v2 μ = (mC z d 258 [(2, 86), (0, v1), (0, v2)] μ).bind fun q1 => (some (q1.1, q1.2)) := by
  show mE z d q_M_word 95 [(2, 86), (0, v1), (0, v2), (9, 0)] [] μ = _
  rw [mE_bk (M := q_M_word) k_M_word.1 k_M_word.2 [48, 55, 62, 79, 80, 94, 95, 102, 139] 400]
  have key : ∀ (C : Nat → List zv → Mu → mR) (E : Nat → List zv → List zv → Mu → mR), mbk C E q_M_word.1 q_M_word.2.1 z q_M_word.2.2.2 [48, 55, 62, 79, 80, 94, 95, 102, 139] 400 (zfind q_M_word.2.2.2 95) [(2, 86), (0, v1), (0, v2), (9, 0)] [] μ = (C 258 [(2, 86), (0, v1), (0, v2)] μ).bind fun q1 => (some (q1.1, q1.2)) := by
    intro C E
    rfl
  exact key _ _
set_option maxRecDepth 100000 in
theorem e_M_word_102 (z : zZ) (d : Nat) (v1 : Int) (v2 : Int) (v3 : Int) (μ : Mu) : f_M_word_102 z d v1 v2 v3 μ = (mC z d 202 [(2, 86), (0, v1), (0, v2)] μ).bind fun q1 => ((mC z d 183 [(0, v3), (0, 10), (0, zw (9 + q1.1))] q1.2).bind fun q2 => (bif decide (q2.1 = 0) then (f_M_word_139 z d ((-1)) q2.2) else ((mC z d 201 [(0, v1), (0, v2)] q2.2).bind fun q3 => (gI (zw ((zw (q3.1 + v3)) - 10)) 192 (f_M_word_139 z d (q3.2 94 ((zw ((zw (q3.1 + v3)) - 10)).toNat)) q3.2))))) := by
  show mE z d q_M_word 102 [(2, 86), (0, v1), (0, v2), (0, v3)] [] μ = _
  rw [mE_bk (M := q_M_word) k_M_word.1 k_M_word.2 [48, 55, 62, 79, 80, 94, 95, 102, 139] 400]
  have key : ∀ (C : Nat → List zv → Mu → mR) (E : Nat → List zv → List zv → Mu → mR), mbk C E q_M_word.1 q_M_word.2.1 z q_M_word.2.2.2 [48, 55, 62, 79, 80, 94, 95, 102, 139] 400 (zfind q_M_word.2.2.2 102) [(2, 86), (0, v1), (0, v2), (0, v3)] [] μ = (C 202 [(2, 86), (0, v1), (0, v2)] μ).bind fun q1 => ((C 183 [(0, v3), (0, 10), (0, zw (9 + q1.1))] q1.2).bind fun q2 => (bif decide (q2.1 = 0) then (g_M_word_139 E ((-1)) q2.2) else ((C 201 [(0, v1), (0, v2)] q2.2).bind fun q3 => (gI (zw ((zw (q3.1 + v3)) - 10)) 192 (g_M_word_139 E (q3.2 94 ((zw ((zw (q3.1 + v3)) - 10)).toNat)) q3.2))))) := by
    intro C E
    rfl
  exact key _ _
set_option maxRecDepth 100000 in
theorem e_M_word_79 (z : zZ) (d : Nat) (v100 : Int) (μ : Mu) : f_M_word_79 z d v100 μ = some (v100, μ) := by
  show mE z d q_M_word 79 [(9, 0), (9, 0), (9, 0), (9, 0)] [(0, v100)] μ = _
  rw [mE_bk (M := q_M_word) k_M_word.1 k_M_word.2 [48, 55, 62, 79, 80, 94, 95, 102, 139] 400]
  have key : ∀ (C : Nat → List zv → Mu → mR) (E : Nat → List zv → List zv → Mu → mR), mbk C E q_M_word.1 q_M_word.2.1 z q_M_word.2.2.2 [48, 55, 62, 79, 80, 94, 95, 102, 139] 400 (zfind q_M_word.2.2.2 79) [(9, 0), (9, 0), (9, 0), (9, 0)] [(0, v100)] μ = some (v100, μ) := by
    intro C E
    rfl
  exact key _ _
set_option maxRecDepth 100000 in
theorem e_M_word_94 (z : zZ) (d : Nat) (v100 : Int) (μ : Mu) : f_M_word_94 z d v100 μ = some (v100, μ) := by
  show mE z d q_M_word 94 [(9, 0), (9, 0), (9, 0), (9, 0)] [(0, v100)] μ = _
  rw [mE_bk (M := q_M_word) k_M_word.1 k_M_word.2 [48, 55, 62, 79, 80, 94, 95, 102, 139] 400]
  have key : ∀ (C : Nat → List zv → Mu → mR) (E : Nat → List zv → List zv → Mu → mR), mbk C E q_M_word.1 q_M_word.2.1 z q_M_word.2.2.2 [48, 55, 62, 79, 80, 94, 95, 102, 139] 400 (zfind q_M_word.2.2.2 94) [(9, 0), (9, 0), (9, 0), (9, 0)] [(0, v100)] μ = some (v100, μ) := by
    intro C E
    rfl
  exact key _ _
set_option maxRecDepth 100000 in
theorem e_M_word_139 (z : zZ) (d : Nat) (v100 : Int) (μ : Mu) : f_M_word_139 z d v100 μ = some (v100, μ) := by
  show mE z d q_M_word 139 [(9, 0), (9, 0), (9, 0), (9, 0)] [(0, v100)] μ = _
  rw [mE_bk (M := q_M_word) k_M_word.1 k_M_word.2 [48, 55, 62, 79, 80, 94, 95, 102, 139] 400]
  have key : ∀ (C : Nat → List zv → Mu → mR) (E : Nat → List zv → List zv → Mu → mR), mbk C E q_M_word.1 q_M_word.2.1 z q_M_word.2.2.2 [48, 55, 62, 79, 80, 94, 95, 102, 139] 400 (zfind q_M_word.2.2.2 139) [(9, 0), (9, 0), (9, 0), (9, 0)] [(0, v100)] μ = some (v100, μ) := by
    intro C E
    rfl
  exact key _ _
def g_M_isWord_24 (E : Nat → List zv → List zv → Mu → mR) (μ : Mu) : mR := E 24 [(9, 0), (9, 0), (9, 0)] [] μ
noncomputable def f_M_isWord_24 (z : zZ) (d : Nat) (μ : Mu) : mR := g_M_isWord_24 (fun pc ls st μ => mE z d q_M_isWord pc ls st μ) μ
def g_M_isWord_25 (E : Nat → List zv → List zv → Mu → mR) (v100 : Int) (μ : Mu) : mR := E 25 [(9, 0), (9, 0), (9, 0)] [(0, v100)] μ
noncomputable def f_M_isWord_25 (z : zZ) (d : Nat) (v100 : Int) (μ : Mu) : mR := g_M_isWord_25 (fun pc ls st μ => mE z d q_M_isWord pc ls st μ) v100 μ
theorem k_M_isWord : zprK q_M_isWord.2.2.2 = true ∧ zinc q_M_isWord.2.2.2 = true := by decide +kernel
set_option maxRecDepth 100000 in
theorem c_M_isWord (z : zZ) (d : Nat) (v1 : Int) (v2 : Int) (μ : Mu) : mC z (d + 1) 257 [(2, 86), (0, v1), (0, v2)] μ = (mC z d 185 [(0, v1)] μ).bind fun q1 => (bif decide (q1.1 = 0) then (f_M_isWord_24 z d q1.2) else (bif decide (v2 < 0) then (f_M_isWord_24 z d q1.2) else ((mC z d 198 [(2, 86), (0, v1)] q1.2).bind fun q2 => (bif decide (q2.1 ≤ v2) then (f_M_isWord_24 z d q2.2) else (f_M_isWord_25 z d 1 q2.2))))) := by
  rw [mC_succ q_M_isWord rfl rfl rfl]
  rw [mE_bk (M := q_M_isWord) k_M_isWord.1 k_M_isWord.2 [24, 25] 400]
  have key : ∀ (C : Nat → List zv → Mu → mR) (E : Nat → List zv → List zv → Mu → mR), mbk C E q_M_isWord.1 q_M_isWord.2.1 z q_M_isWord.2.2.2 [24, 25] 400 (zfind q_M_isWord.2.2.2 0) (zentry q_M_isWord.2.2.1 [(2, 86), (0, v1), (0, v2)]) [] μ = (C 185 [(0, v1)] μ).bind fun q1 => (bif decide (q1.1 = 0) then (g_M_isWord_24 E q1.2) else (bif decide (v2 < 0) then (g_M_isWord_24 E q1.2) else ((C 198 [(2, 86), (0, v1)] q1.2).bind fun q2 => (bif decide (q2.1 ≤ v2) then (g_M_isWord_24 E q2.2) else (g_M_isWord_25 E 1 q2.2))))) := by
    intro C E
    rfl
  exact key _ _
set_option maxRecDepth 100000 in
theorem e_M_isWord_24 (z : zZ) (d : Nat) (μ : Mu) : f_M_isWord_24 z d μ = f_M_isWord_25 z d 0 μ := by
  show mE z d q_M_isWord 24 [(9, 0), (9, 0), (9, 0)] [] μ = _
  rw [mE_bk (M := q_M_isWord) k_M_isWord.1 k_M_isWord.2 [24, 25] 400]
  have key : ∀ (C : Nat → List zv → Mu → mR) (E : Nat → List zv → List zv → Mu → mR), mbk C E q_M_isWord.1 q_M_isWord.2.1 z q_M_isWord.2.2.2 [24, 25] 400 (zfind q_M_isWord.2.2.2 24) [(9, 0), (9, 0), (9, 0)] [] μ = g_M_isWord_25 E 0 μ := by
    intro C E
    rfl
  exact key _ _
set_option maxRecDepth 100000 in
theorem e_M_isWord_25 (z : zZ) (d : Nat) (v100 : Int) (μ : Mu) : f_M_isWord_25 z d v100 μ = g01 v100 (some (v100, μ)) := by
  show mE z d q_M_isWord 25 [(9, 0), (9, 0), (9, 0)] [(0, v100)] μ = _
  rw [mE_bk (M := q_M_isWord) k_M_isWord.1 k_M_isWord.2 [24, 25] 400]
  have key : ∀ (C : Nat → List zv → Mu → mR) (E : Nat → List zv → List zv → Mu → mR), mbk C E q_M_isWord.1 q_M_isWord.2.1 z q_M_isWord.2.2.2 [24, 25] 400 (zfind q_M_isWord.2.2.2 25) [(9, 0), (9, 0), (9, 0)] [(0, v100)] μ = g01 v100 (some (v100, μ)) := by
    intro C E
    rfl
  exact key _ _
theorem k_M_worthOf : zprK q_M_worthOf.2.2.2 = true ∧ zinc q_M_worthOf.2.2.2 = true := by decide +kernel
set_option maxRecDepth 100000 in
theorem c_M_worthOf (z : zZ) (d : Nat) (v1 : Int) (v2 : Int) (μ : Mu) : mC z (d + 1) 258 [(2, 86), (0, v1), (0, v2)] μ = (mC z d 245 [(2, 86), (0, v1), (0, v2)] μ).bind fun q1 => ((mC z d 248 [(2, 86), (0, 118), (0, 9999)] q1.2).bind fun q2 => (some (q2.1, q2.2))) := by
  rw [mC_succ q_M_worthOf rfl rfl rfl]
  rw [mE_bk (M := q_M_worthOf) k_M_worthOf.1 k_M_worthOf.2 [] 400]
  have key : ∀ (C : Nat → List zv → Mu → mR) (E : Nat → List zv → List zv → Mu → mR), mbk C E q_M_worthOf.1 q_M_worthOf.2.1 z q_M_worthOf.2.2.2 [] 400 (zfind q_M_worthOf.2.2.2 0) (zentry q_M_worthOf.2.2.1 [(2, 86), (0, v1), (0, v2)]) [] μ = (C 245 [(2, 86), (0, v1), (0, v2)] μ).bind fun q1 => ((C 248 [(2, 86), (0, 118), (0, 9999)] q1.2).bind fun q2 => (some (q2.1, q2.2))) := by
    intro C E
    rfl
  exact key _ _
def g_M_beats_27 (E : Nat → List zv → List zv → Mu → mR) (μ : Mu) : mR := E 27 [(9, 0), (9, 0), (9, 0)] [] μ
noncomputable def f_M_beats_27 (z : zZ) (d : Nat) (μ : Mu) : mR := g_M_beats_27 (fun pc ls st μ => mE z d q_M_beats pc ls st μ) μ
def g_M_beats_29 (E : Nat → List zv → List zv → Mu → mR) (v100 : Int) (μ : Mu) : mR := E 29 [(9, 0), (9, 0), (9, 0)] [(0, v100)] μ
noncomputable def f_M_beats_29 (z : zZ) (d : Nat) (v100 : Int) (μ : Mu) : mR := g_M_beats_29 (fun pc ls st μ => mE z d q_M_beats pc ls st μ) v100 μ
theorem k_M_beats : zprK q_M_beats.2.2.2 = true ∧ zinc q_M_beats.2.2.2 = true := by decide +kernel
set_option maxRecDepth 100000 in
theorem c_M_beats (z : zZ) (d : Nat) (v1 : Int) (v2 : Int) (μ : Mu) : mC z (d + 1) 259 [(2, 86), (0, v1), (0, v2)] μ = (mC z d 257 [(2, 86), (0, 0), (0, v1)] μ).bind fun q1 => (bif decide (q1.1 = 0) then (f_M_beats_27 z d q1.2) else ((mC z d 257 [(2, 86), (0, 1), (0, v2)] q1.2).bind fun q2 => (bif decide (q2.1 = 0) then (f_M_beats_27 z d q2.2) else ((mC z d 260 [(2, 86), (0, v1), (0, v2)] q2.2).bind fun q3 => (f_M_beats_29 z d q3.1 q3.2))))) := by
  rw [mC_succ q_M_beats rfl rfl rfl]
  rw [mE_bk (M := q_M_beats) k_M_beats.1 k_M_beats.2 [27, 29] 400]
  have key : ∀ (C : Nat → List zv → Mu → mR) (E : Nat → List zv → List zv → Mu → mR), mbk C E q_M_beats.1 q_M_beats.2.1 z q_M_beats.2.2.2 [27, 29] 400 (zfind q_M_beats.2.2.2 0) (zentry q_M_beats.2.2.1 [(2, 86), (0, v1), (0, v2)]) [] μ = (C 257 [(2, 86), (0, 0), (0, v1)] μ).bind fun q1 => (bif decide (q1.1 = 0) then (g_M_beats_27 E q1.2) else ((C 257 [(2, 86), (0, 1), (0, v2)] q1.2).bind fun q2 => (bif decide (q2.1 = 0) then (g_M_beats_27 E q2.2) else ((C 260 [(2, 86), (0, v1), (0, v2)] q2.2).bind fun q3 => (g_M_beats_29 E q3.1 q3.2))))) := by
    intro C E
    rfl
  exact key _ _
set_option maxRecDepth 100000 in
theorem e_M_beats_27 (z : zZ) (d : Nat) (μ : Mu) : f_M_beats_27 z d μ = f_M_beats_29 z d ((-2)) μ := by
  show mE z d q_M_beats 27 [(9, 0), (9, 0), (9, 0)] [] μ = _
  rw [mE_bk (M := q_M_beats) k_M_beats.1 k_M_beats.2 [27, 29] 400]
  have key : ∀ (C : Nat → List zv → Mu → mR) (E : Nat → List zv → List zv → Mu → mR), mbk C E q_M_beats.1 q_M_beats.2.1 z q_M_beats.2.2.2 [27, 29] 400 (zfind q_M_beats.2.2.2 27) [(9, 0), (9, 0), (9, 0)] [] μ = g_M_beats_29 E ((-2)) μ := by
    intro C E
    rfl
  exact key _ _
set_option maxRecDepth 100000 in
theorem e_M_beats_29 (z : zZ) (d : Nat) (v100 : Int) (μ : Mu) : f_M_beats_29 z d v100 μ = some (v100, μ) := by
  show mE z d q_M_beats 29 [(9, 0), (9, 0), (9, 0)] [(0, v100)] μ = _
  rw [mE_bk (M := q_M_beats) k_M_beats.1 k_M_beats.2 [27, 29] 400]
  have key : ∀ (C : Nat → List zv → Mu → mR) (E : Nat → List zv → List zv → Mu → mR), mbk C E q_M_beats.1 q_M_beats.2.1 z q_M_beats.2.2.2 [27, 29] 400 (zfind q_M_beats.2.2.2 29) [(9, 0), (9, 0), (9, 0)] [(0, v100)] μ = some (v100, μ) := by
    intro C E
    rfl
  exact key _ _
def g_M_fightOf_27 (E : Nat → List zv → List zv → Mu → mR) (v3 : Int) (μ : Mu) : mR := E 27 [(9, 0), (9, 0), (9, 0), (0, v3), (9, 0)] [] μ
noncomputable def f_M_fightOf_27 (z : zZ) (d : Nat) (v3 : Int) (μ : Mu) : mR := g_M_fightOf_27 (fun pc ls st μ => mE z d q_M_fightOf pc ls st μ) v3 μ
def g_M_fightOf_36 (E : Nat → List zv → List zv → Mu → mR) (v100 : Int) (μ : Mu) : mR := E 36 [(9, 0), (9, 0), (9, 0), (9, 0), (9, 0)] [(0, v100)] μ
noncomputable def f_M_fightOf_36 (z : zZ) (d : Nat) (v100 : Int) (μ : Mu) : mR := g_M_fightOf_36 (fun pc ls st μ => mE z d q_M_fightOf pc ls st μ) v100 μ
theorem k_M_fightOf : zprK q_M_fightOf.2.2.2 = true ∧ zinc q_M_fightOf.2.2.2 = true := by decide +kernel
set_option maxRecDepth 100000 in
theorem c_M_fightOf (z : zZ) (d : Nat) (v1 : Int) (v2 : Int) (μ : Mu) : mC z (d + 1) 260 [(2, 86), (0, v1), (0, v2)] μ = (mC z d 241 [(2, 86), (0, 0), (0, v1), (0, v2)] μ).bind fun q1 => ((mC z d 241 [(2, 86), (0, 1), (0, v2), (0, v1)] q1.2).bind fun q2 => (bif !decide (q1.1 = q2.1) then (f_M_fightOf_27 z d q1.1 q2.2) else (f_M_fightOf_36 z d 0 q2.2))) := by
  rw [mC_succ q_M_fightOf rfl rfl rfl]
  rw [mE_bk (M := q_M_fightOf) k_M_fightOf.1 k_M_fightOf.2 [27, 36] 400]
  have key : ∀ (C : Nat → List zv → Mu → mR) (E : Nat → List zv → List zv → Mu → mR), mbk C E q_M_fightOf.1 q_M_fightOf.2.1 z q_M_fightOf.2.2.2 [27, 36] 400 (zfind q_M_fightOf.2.2.2 0) (zentry q_M_fightOf.2.2.1 [(2, 86), (0, v1), (0, v2)]) [] μ = (C 241 [(2, 86), (0, 0), (0, v1), (0, v2)] μ).bind fun q1 => ((C 241 [(2, 86), (0, 1), (0, v2), (0, v1)] q1.2).bind fun q2 => (bif !decide (q1.1 = q2.1) then (g_M_fightOf_27 E q1.1 q2.2) else (g_M_fightOf_36 E 0 q2.2))) := by
    intro C E
    rfl
  exact key _ _
set_option maxRecDepth 100000 in
theorem e_M_fightOf_27 (z : zZ) (d : Nat) (v3 : Int) (μ : Mu) : f_M_fightOf_27 z d v3 μ = bif decide (v3 = 0) then (f_M_fightOf_36 z d ((-1)) μ) else (f_M_fightOf_36 z d 1 μ) := by
  show mE z d q_M_fightOf 27 [(9, 0), (9, 0), (9, 0), (0, v3), (9, 0)] [] μ = _
  rw [mE_bk (M := q_M_fightOf) k_M_fightOf.1 k_M_fightOf.2 [27, 36] 400]
  have key : ∀ (C : Nat → List zv → Mu → mR) (E : Nat → List zv → List zv → Mu → mR), mbk C E q_M_fightOf.1 q_M_fightOf.2.1 z q_M_fightOf.2.2.2 [27, 36] 400 (zfind q_M_fightOf.2.2.2 27) [(9, 0), (9, 0), (9, 0), (0, v3), (9, 0)] [] μ = bif decide (v3 = 0) then (g_M_fightOf_36 E ((-1)) μ) else (g_M_fightOf_36 E 1 μ) := by
    intro C E
    rfl
  exact key _ _
set_option maxRecDepth 100000 in
theorem e_M_fightOf_36 (z : zZ) (d : Nat) (v100 : Int) (μ : Mu) : f_M_fightOf_36 z d v100 μ = some (v100, μ) := by
  show mE z d q_M_fightOf 36 [(9, 0), (9, 0), (9, 0), (9, 0), (9, 0)] [(0, v100)] μ = _
  rw [mE_bk (M := q_M_fightOf) k_M_fightOf.1 k_M_fightOf.2 [27, 36] 400]
  have key : ∀ (C : Nat → List zv → Mu → mR) (E : Nat → List zv → List zv → Mu → mR), mbk C E q_M_fightOf.1 q_M_fightOf.2.1 z q_M_fightOf.2.2.2 [27, 36] 400 (zfind q_M_fightOf.2.2.2 36) [(9, 0), (9, 0), (9, 0), (9, 0), (9, 0)] [(0, v100)] μ = some (v100, μ) := by
    intro C E
    rfl
  exact key _ _
def g_M_place_18 (E : Nat → List zv → List zv → Mu → mR) (μ : Mu) : mR := E 18 [(9, 0), (9, 0), (9, 0), (9, 0), (9, 0), (9, 0), (9, 0)] [] μ
noncomputable def f_M_place_18 (z : zZ) (d : Nat) (μ : Mu) : mR := g_M_place_18 (fun pc ls st μ => mE z d q_M_place pc ls st μ) μ
def g_M_place_31 (E : Nat → List zv → List zv → Mu → mR) (v1 : Int) (v2 : Int) (v100 : Int) (μ : Mu) : mR := E 31 [(2, 86), (0, v1), (0, v2), (9, 0), (9, 0), (9, 0), (9, 0)] [(0, v100)] μ
noncomputable def f_M_place_31 (z : zZ) (d : Nat) (v1 : Int) (v2 : Int) (v100 : Int) (μ : Mu) : mR := g_M_place_31 (fun pc ls st μ => mE z d q_M_place pc ls st μ) v1 v2 v100 μ
def g_M_place_39 (E : Nat → List zv → List zv → Mu → mR) (v1 : Int) (v2 : Int) (v4 : Int) (v5 : Int) (v6 : Int) (μ : Mu) : mR := E 39 [(2, 86), (0, v1), (0, v2), (9, 0), (0, v4), (0, v5), (0, v6)] [] μ
noncomputable def f_M_place_39 (z : zZ) (d : Nat) (v1 : Int) (v2 : Int) (v4 : Int) (v5 : Int) (v6 : Int) (μ : Mu) : mR := g_M_place_39 (fun pc ls st μ => mE z d q_M_place pc ls st μ) v1 v2 v4 v5 v6 μ
def g_M_place_96 (E : Nat → List zv → List zv → Mu → mR) (v1 : Int) (v2 : Int) (v4 : Int) (v6 : Int) (v100 : Int) (μ : Mu) : mR := E 96 [(2, 86), (0, v1), (0, v2), (9, 0), (0, v4), (9, 0), (0, v6)] [(0, v100)] μ
noncomputable def f_M_place_96 (z : zZ) (d : Nat) (v1 : Int) (v2 : Int) (v4 : Int) (v6 : Int) (v100 : Int) (μ : Mu) : mR := g_M_place_96 (fun pc ls st μ => mE z d q_M_place pc ls st μ) v1 v2 v4 v6 v100 μ
def g_M_place_97 (E : Nat → List zv → List zv → Mu → mR) (v1 : Int) (v2 : Int) (v4 : Int) (v6 : Int) (v100 : Int) (v101 : Int) (μ : Mu) : mR := E 97 [(2, 86), (0, v1), (0, v2), (9, 0), (0, v4), (9, 0), (0, v6)] [(0, v101), (0, v100)] μ
noncomputable def f_M_place_97 (z : zZ) (d : Nat) (v1 : Int) (v2 : Int) (v4 : Int) (v6 : Int) (v100 : Int) (v101 : Int) (μ : Mu) : mR := g_M_place_97 (fun pc ls st μ => mE z d q_M_place pc ls st μ) v1 v2 v4 v6 v100 v101 μ
theorem k_M_place : zprK q_M_place.2.2.2 = true ∧ zinc q_M_place.2.2.2 = true := by decide +kernel
set_option maxRecDepth 100000 in
theorem c_M_place (z : zZ) (d : Nat) (v1 : Int) (v2 : Int) (v3 : Int) (μ : Mu) : mC z (d + 1) 261 [(2, 86), (0, v1), (0, v2), (0, v3)] μ = (mC z d 257 [(2, 86), (0, v1), (0, v2)] μ).bind fun q1 => (bif decide (q1.1 = 0) then (f_M_place_18 z d q1.2) else ((mC z d 183 [(0, v3), (0, 0), (0, 1)] q1.2).bind fun q2 => (bif !decide (q2.1 = 0) then (bif !decide (v3 = 0) then (f_M_place_31 z d v1 v2 (zw (1 - v1)) q2.2) else (f_M_place_31 z d v1 v2 v1 q2.2)) else (f_M_place_18 z d q2.2)))) := by
  rw [mC_succ q_M_place rfl rfl rfl]
  rw [mE_bk (M := q_M_place) k_M_place.1 k_M_place.2 [18, 31, 39, 96, 97] 400]
  have key : ∀ (C : Nat → List zv → Mu → mR) (E : Nat → List zv → List zv → Mu → mR), mbk C E q_M_place.1 q_M_place.2.1 z q_M_place.2.2.2 [18, 31, 39, 96, 97] 400 (zfind q_M_place.2.2.2 0) (zentry q_M_place.2.2.1 [(2, 86), (0, v1), (0, v2), (0, v3)]) [] μ = (C 257 [(2, 86), (0, v1), (0, v2)] μ).bind fun q1 => (bif decide (q1.1 = 0) then (g_M_place_18 E q1.2) else ((C 183 [(0, v3), (0, 0), (0, 1)] q1.2).bind fun q2 => (bif !decide (q2.1 = 0) then (bif !decide (v3 = 0) then (g_M_place_31 E v1 v2 (zw (1 - v1)) q2.2) else (g_M_place_31 E v1 v2 v1 q2.2)) else (g_M_place_18 E q2.2)))) := by
    intro C E
    rfl
  exact key _ _
set_option maxRecDepth 100000 in
theorem e_M_place_18 (z : zZ) (d : Nat) (μ : Mu) : f_M_place_18 z d μ = some ((-1), μ) := by
  show mE z d q_M_place 18 [(9, 0), (9, 0), (9, 0), (9, 0), (9, 0), (9, 0), (9, 0)] [] μ = _
  rw [mE_bk (M := q_M_place) k_M_place.1 k_M_place.2 [18, 31, 39, 96, 97] 400]
  have key : ∀ (C : Nat → List zv → Mu → mR) (E : Nat → List zv → List zv → Mu → mR), mbk C E q_M_place.1 q_M_place.2.1 z q_M_place.2.2.2 [18, 31, 39, 96, 97] 400 (zfind q_M_place.2.2.2 18) [(9, 0), (9, 0), (9, 0), (9, 0), (9, 0), (9, 0), (9, 0)] [] μ = some ((-1), μ) := by
    intro C E
    rfl
  exact key _ _
set_option maxRecDepth 100000 in
theorem e_M_place_31 (z : zZ) (d : Nat) (v1 : Int) (v2 : Int) (v100 : Int) (μ : Mu) : f_M_place_31 z d v1 v2 v100 μ = f_M_place_39 z d v1 v2 v100 0 0 μ := by
  show mE z d q_M_place 31 [(2, 86), (0, v1), (0, v2), (9, 0), (9, 0), (9, 0), (9, 0)] [(0, v100)] μ = _
  rw [mE_bk (M := q_M_place) k_M_place.1 k_M_place.2 [18, 31, 39, 96, 97] 400]
  have key : ∀ (C : Nat → List zv → Mu → mR) (E : Nat → List zv → List zv → Mu → mR), mbk C E q_M_place.1 q_M_place.2.1 z q_M_place.2.2.2 [18, 31, 39, 96, 97] 400 (zfind q_M_place.2.2.2 31) [(2, 86), (0, v1), (0, v2), (9, 0), (9, 0), (9, 0), (9, 0)] [(0, v100)] μ = g_M_place_39 E v1 v2 v100 0 0 μ := by
    intro C E
    rfl
  exact key _ _
set_option maxRecDepth 100000 in
theorem e_M_place_39 (z : zZ) (d : Nat) (v1 : Int) (v2 : Int) (v4 : Int) (v5 : Int) (v6 : Int) (μ : Mu) : f_M_place_39 z d v1 v2 v4 v5 v6 μ = (mC z d 198 [(2, 86), (0, v1)] μ).bind fun q1 => (bif decide (q1.1 ≤ v6) then (some (v5, q1.2)) else ((mC z d 201 [(0, v1), (0, v6)] q1.2).bind fun q2 => ((mC z d 202 [(2, 86), (0, v1), (0, v6)] q2.2).bind fun q3 => ((mC z d 201 [(0, v1), (0, v2)] q3.2).bind fun q4 => ((mC z d 202 [(2, 86), (0, v1), (0, v2)] q4.2).bind fun q5 => ((mC z d 242 [(2, 86), (0, v4), (2, 94), (0, q2.1), (0, q3.1), (2, 94), (0, q4.1), (0, q5.1)] q5.2).bind fun q6 => (bif decide (0 ≤ q6.1) then (f_M_place_96 z d v1 v2 v4 v6 v5 q6.2) else (f_M_place_97 z d v1 v2 v4 v6 v5 1 q6.2)))))))) := by
  show mE z d q_M_place 39 [(2, 86), (0, v1), (0, v2), (9, 0), (0, v4), (0, v5), (0, v6)] [] μ = _
  rw [mE_bk (M := q_M_place) k_M_place.1 k_M_place.2 [18, 31, 39, 96, 97] 400]
  have key : ∀ (C : Nat → List zv → Mu → mR) (E : Nat → List zv → List zv → Mu → mR), mbk C E q_M_place.1 q_M_place.2.1 z q_M_place.2.2.2 [18, 31, 39, 96, 97] 400 (zfind q_M_place.2.2.2 39) [(2, 86), (0, v1), (0, v2), (9, 0), (0, v4), (0, v5), (0, v6)] [] μ = (C 198 [(2, 86), (0, v1)] μ).bind fun q1 => (bif decide (q1.1 ≤ v6) then (some (v5, q1.2)) else ((C 201 [(0, v1), (0, v6)] q1.2).bind fun q2 => ((C 202 [(2, 86), (0, v1), (0, v6)] q2.2).bind fun q3 => ((C 201 [(0, v1), (0, v2)] q3.2).bind fun q4 => ((C 202 [(2, 86), (0, v1), (0, v2)] q4.2).bind fun q5 => ((C 242 [(2, 86), (0, v4), (2, 94), (0, q2.1), (0, q3.1), (2, 94), (0, q4.1), (0, q5.1)] q5.2).bind fun q6 => (bif decide (0 ≤ q6.1) then (g_M_place_96 E v1 v2 v4 v6 v5 q6.2) else (g_M_place_97 E v1 v2 v4 v6 v5 1 q6.2)))))))) := by
    intro C E
    rfl
  exact key _ _
set_option maxRecDepth 100000 in
theorem e_M_place_96 (z : zZ) (d : Nat) (v1 : Int) (v2 : Int) (v4 : Int) (v6 : Int) (v100 : Int) (μ : Mu) : f_M_place_96 z d v1 v2 v4 v6 v100 μ = f_M_place_97 z d v1 v2 v4 v6 v100 0 μ := by
  show mE z d q_M_place 96 [(2, 86), (0, v1), (0, v2), (9, 0), (0, v4), (9, 0), (0, v6)] [(0, v100)] μ = _
  rw [mE_bk (M := q_M_place) k_M_place.1 k_M_place.2 [18, 31, 39, 96, 97] 400]
  have key : ∀ (C : Nat → List zv → Mu → mR) (E : Nat → List zv → List zv → Mu → mR), mbk C E q_M_place.1 q_M_place.2.1 z q_M_place.2.2.2 [18, 31, 39, 96, 97] 400 (zfind q_M_place.2.2.2 96) [(2, 86), (0, v1), (0, v2), (9, 0), (0, v4), (9, 0), (0, v6)] [(0, v100)] μ = g_M_place_97 E v1 v2 v4 v6 v100 0 μ := by
    intro C E
    rfl
  exact key _ _
set_option maxRecDepth 100000 in
theorem e_M_place_97 (z : zZ) (d : Nat) (v1 : Int) (v2 : Int) (v4 : Int) (v6 : Int) (v100 : Int) (v101 : Int) (μ : Mu) : f_M_place_97 z d v1 v2 v4 v6 v100 v101 μ = f_M_place_39 z d v1 v2 v4 (zw (v100 + v101)) (zw (v6 + 1)) μ := by
  show mE z d q_M_place 97 [(2, 86), (0, v1), (0, v2), (9, 0), (0, v4), (9, 0), (0, v6)] [(0, v101), (0, v100)] μ = _
  rw [mE_bk (M := q_M_place) k_M_place.1 k_M_place.2 [18, 31, 39, 96, 97] 400]
  have key : ∀ (C : Nat → List zv → Mu → mR) (E : Nat → List zv → List zv → Mu → mR), mbk C E q_M_place.1 q_M_place.2.1 z q_M_place.2.2.2 [18, 31, 39, 96, 97] 400 (zfind q_M_place.2.2.2 97) [(2, 86), (0, v1), (0, v2), (9, 0), (0, v4), (9, 0), (0, v6)] [(0, v101), (0, v100)] μ = g_M_place_39 E v1 v2 v4 (zw (v100 + v101)) (zw (v6 + 1)) μ := by
    intro C E
    rfl
  exact key _ _
def g_M_best_16 (E : Nat → List zv → List zv → Mu → mR) (μ : Mu) : mR := E 16 [(9, 0), (9, 0), (9, 0), (9, 0)] [] μ
noncomputable def f_M_best_16 (z : zZ) (d : Nat) (μ : Mu) : mR := g_M_best_16 (fun pc ls st μ => mE z d q_M_best pc ls st μ) μ
def g_M_best_36 (E : Nat → List zv → List zv → Mu → mR) (v100 : Int) (μ : Mu) : mR := E 36 [(9, 0), (9, 0), (9, 0), (9, 0)] [(0, v100)] μ
noncomputable def f_M_best_36 (z : zZ) (d : Nat) (v100 : Int) (μ : Mu) : mR := g_M_best_36 (fun pc ls st μ => mE z d q_M_best pc ls st μ) v100 μ
theorem k_M_best : zprK q_M_best.2.2.2 = true ∧ zinc q_M_best.2.2.2 = true := by decide +kernel
set_option maxRecDepth 100000 in
theorem c_M_best (z : zZ) (d : Nat) (v1 : Int) (v2 : Int) (μ : Mu) : mC z (d + 1) 262 [(2, 86), (0, v1), (0, v2)] μ = (mC z d 185 [(0, v1)] μ).bind fun q1 => (bif decide (q1.1 = 0) then (f_M_best_16 z d q1.2) else ((mC z d 183 [(0, v2), (0, 0), (0, 1)] q1.2).bind fun q2 => (bif !decide (q2.1 = 0) then ((mC z d 263 [(2, 86), (0, v1)] q2.2).bind fun q3 => (bif !decide (v2 = 0) then (f_M_best_36 z d (q3.2 86 58) q3.2) else (f_M_best_36 z d q3.1 q3.2))) else (f_M_best_16 z d q2.2)))) := by
  rw [mC_succ q_M_best rfl rfl rfl]
  rw [mE_bk (M := q_M_best) k_M_best.1 k_M_best.2 [16, 36] 400]
  have key : ∀ (C : Nat → List zv → Mu → mR) (E : Nat → List zv → List zv → Mu → mR), mbk C E q_M_best.1 q_M_best.2.1 z q_M_best.2.2.2 [16, 36] 400 (zfind q_M_best.2.2.2 0) (zentry q_M_best.2.2.1 [(2, 86), (0, v1), (0, v2)]) [] μ = (C 185 [(0, v1)] μ).bind fun q1 => (bif decide (q1.1 = 0) then (g_M_best_16 E q1.2) else ((C 183 [(0, v2), (0, 0), (0, 1)] q1.2).bind fun q2 => (bif !decide (q2.1 = 0) then ((C 263 [(2, 86), (0, v1)] q2.2).bind fun q3 => (bif !decide (v2 = 0) then (g_M_best_36 E (q3.2 86 58) q3.2) else (g_M_best_36 E q3.1 q3.2))) else (g_M_best_16 E q2.2)))) := by
    intro C E
    rfl
  exact key _ _
set_option maxRecDepth 100000 in
theorem e_M_best_16 (z : zZ) (d : Nat) (μ : Mu) : f_M_best_16 z d μ = some ((-1), μ) := by
  show mE z d q_M_best 16 [(9, 0), (9, 0), (9, 0), (9, 0)] [] μ = _
  rw [mE_bk (M := q_M_best) k_M_best.1 k_M_best.2 [16, 36] 400]
  have key : ∀ (C : Nat → List zv → Mu → mR) (E : Nat → List zv → List zv → Mu → mR), mbk C E q_M_best.1 q_M_best.2.1 z q_M_best.2.2.2 [16, 36] 400 (zfind q_M_best.2.2.2 16) [(9, 0), (9, 0), (9, 0), (9, 0)] [] μ = some ((-1), μ) := by
    intro C E
    rfl
  exact key _ _
set_option maxRecDepth 100000 in
theorem e_M_best_36 (z : zZ) (d : Nat) (v100 : Int) (μ : Mu) : f_M_best_36 z d v100 μ = some (v100, μ) := by
  show mE z d q_M_best 36 [(9, 0), (9, 0), (9, 0), (9, 0)] [(0, v100)] μ = _
  rw [mE_bk (M := q_M_best) k_M_best.1 k_M_best.2 [16, 36] 400]
  have key : ∀ (C : Nat → List zv → Mu → mR) (E : Nat → List zv → List zv → Mu → mR), mbk C E q_M_best.1 q_M_best.2.1 z q_M_best.2.2.2 [16, 36] 400 (zfind q_M_best.2.2.2 36) [(9, 0), (9, 0), (9, 0), (9, 0)] [(0, v100)] μ = some (v100, μ) := by
    intro C E
    rfl
  exact key _ _
