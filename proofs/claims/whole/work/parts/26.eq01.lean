def g_M_lexicon_26 (E : Nat → List zv → List zv → Mu → mR) (μ : Mu) : mR := E 26 [(9, 0), (9, 0), (9, 0), (9, 0), (9, 0), (9, 0), (9, 0)] [] μ
noncomputable def f_M_lexicon_26 (z : zZ) (d : Nat) (μ : Mu) : mR := g_M_lexicon_26 (fun pc ls st μ => mE z d q_M_lexicon pc ls st μ) μ
def g_M_lexicon_48 (E : Nat → List zv → List zv → Mu → mR) (v1 : Int) (v3 : Int) (μ : Mu) : mR := E 48 [(2, 86), (0, v1), (9, 0), (0, v3), (9, 0), (9, 0), (9, 0)] [] μ
noncomputable def f_M_lexicon_48 (z : zZ) (d : Nat) (v1 : Int) (v3 : Int) (μ : Mu) : mR := g_M_lexicon_48 (fun pc ls st μ => mE z d q_M_lexicon pc ls st μ) v1 v3 μ
def g_M_lexicon_83 (E : Nat → List zv → List zv → Mu → mR) (v1 : Int) (μ : Mu) : mR := E 83 [(2, 86), (0, v1), (9, 0), (9, 0), (9, 0), (9, 0), (9, 0)] [] μ
noncomputable def f_M_lexicon_83 (z : zZ) (d : Nat) (v1 : Int) (μ : Mu) : mR := g_M_lexicon_83 (fun pc ls st μ => mE z d q_M_lexicon pc ls st μ) v1 μ
def g_M_lexicon_84 (E : Nat → List zv → List zv → Mu → mR) (v1 : Int) (v100 : Int) (μ : Mu) : mR := E 84 [(2, 86), (0, v1), (9, 0), (9, 0), (9, 0), (9, 0), (9, 0)] [(0, v100)] μ
noncomputable def f_M_lexicon_84 (z : zZ) (d : Nat) (v1 : Int) (v100 : Int) (μ : Mu) : mR := g_M_lexicon_84 (fun pc ls st μ => mE z d q_M_lexicon pc ls st μ) v1 v100 μ
def g_M_lexicon_88 (E : Nat → List zv → List zv → Mu → mR) (v1 : Int) (v3 : Int) (μ : Mu) : mR := E 88 [(2, 86), (0, v1), (9, 0), (0, v3), (9, 0), (9, 0), (9, 0)] [] μ
noncomputable def f_M_lexicon_88 (z : zZ) (d : Nat) (v1 : Int) (v3 : Int) (μ : Mu) : mR := g_M_lexicon_88 (fun pc ls st μ => mE z d q_M_lexicon pc ls st μ) v1 v3 μ
def g_M_lexicon_108 (E : Nat → List zv → List zv → Mu → mR) (v1 : Int) (v4 : Int) (v5 : Int) (μ : Mu) : mR := E 108 [(2, 86), (0, v1), (9, 0), (9, 0), (0, v4), (0, v5), (9, 0)] [] μ
noncomputable def f_M_lexicon_108 (z : zZ) (d : Nat) (v1 : Int) (v4 : Int) (v5 : Int) (μ : Mu) : mR := g_M_lexicon_108 (fun pc ls st μ => mE z d q_M_lexicon pc ls st μ) v1 v4 v5 μ
def g_M_lexicon_163 (E : Nat → List zv → List zv → Mu → mR) (v1 : Int) (v4 : Int) (v5 : Int) (μ : Mu) : mR := E 163 [(2, 86), (0, v1), (9, 0), (9, 0), (0, v4), (0, v5), (9, 0)] [] μ
noncomputable def f_M_lexicon_163 (z : zZ) (d : Nat) (v1 : Int) (v4 : Int) (v5 : Int) (μ : Mu) : mR := g_M_lexicon_163 (fun pc ls st μ => mE z d q_M_lexicon pc ls st μ) v1 v4 v5 μ
def g_M_lexicon_172 (E : Nat → List zv → List zv → Mu → mR) (v1 : Int) (v4 : Int) (v5 : Int) (μ : Mu) : mR := E 172 [(2, 86), (0, v1), (9, 0), (9, 0), (0, v4), (0, v5), (9, 0)] [] μ
noncomputable def f_M_lexicon_172 (z : zZ) (d : Nat) (v1 : Int) (v4 : Int) (v5 : Int) (μ : Mu) : mR := g_M_lexicon_172 (fun pc ls st μ => mE z d q_M_lexicon pc ls st μ) v1 v4 v5 μ
def g_M_lexicon_232 (E : Nat → List zv → List zv → Mu → mR) (v1 : Int) (v4 : Int) (v5 : Int) (μ : Mu) : mR := E 232 [(2, 86), (0, v1), (9, 0), (9, 0), (0, v4), (0, v5), (9, 0)] [] μ
noncomputable def f_M_lexicon_232 (z : zZ) (d : Nat) (v1 : Int) (v4 : Int) (v5 : Int) (μ : Mu) : mR := g_M_lexicon_232 (fun pc ls st μ => mE z d q_M_lexicon pc ls st μ) v1 v4 v5 μ
def g_M_lexicon_241 (E : Nat → List zv → List zv → Mu → mR) (v1 : Int) (v4 : Int) (v5 : Int) (μ : Mu) : mR := E 241 [(2, 86), (0, v1), (9, 0), (9, 0), (0, v4), (0, v5), (9, 0)] [] μ
noncomputable def f_M_lexicon_241 (z : zZ) (d : Nat) (v1 : Int) (v4 : Int) (v5 : Int) (μ : Mu) : mR := g_M_lexicon_241 (fun pc ls st μ => mE z d q_M_lexicon pc ls st μ) v1 v4 v5 μ
def g_M_lexicon_276 (E : Nat → List zv → List zv → Mu → mR) (v1 : Int) (v4 : Int) (v5 : Int) (μ : Mu) : mR := E 276 [(2, 86), (0, v1), (9, 0), (9, 0), (0, v4), (0, v5), (9, 0)] [] μ
noncomputable def f_M_lexicon_276 (z : zZ) (d : Nat) (v1 : Int) (v4 : Int) (v5 : Int) (μ : Mu) : mR := g_M_lexicon_276 (fun pc ls st μ => mE z d q_M_lexicon pc ls st μ) v1 v4 v5 μ
def g_M_lexicon_331 (E : Nat → List zv → List zv → Mu → mR) (v1 : Int) (v4 : Int) (μ : Mu) : mR := E 331 [(2, 86), (0, v1), (9, 0), (9, 0), (0, v4), (9, 0), (9, 0)] [] μ
noncomputable def f_M_lexicon_331 (z : zZ) (d : Nat) (v1 : Int) (v4 : Int) (μ : Mu) : mR := g_M_lexicon_331 (fun pc ls st μ => mE z d q_M_lexicon pc ls st μ) v1 v4 μ
theorem k_M_lexicon : zprK q_M_lexicon.2.2.2 = true ∧ zinc q_M_lexicon.2.2.2 = true := by decide +kernel
set_option maxRecDepth 100000 in
theorem c_M_lexicon (z : zZ) (d : Nat) (v1 : Int) (v2 : Int) (μ : Mu) : mC z (d + 1) 190 [(2, 86), (0, v1), (0, v2)] μ = (mC z d 185 [(0, v1)] μ).bind fun q1 => (bif decide (q1.1 = 0) then (f_M_lexicon_26 z d q1.2) else ((mC z d 183 [(0, v2), (0, 1), (0, 160)] q1.2).bind fun q2 => (bif decide (q2.1 = 0) then (f_M_lexicon_26 z d q2.2) else (bif decide (v2 ≤ q2.2 86 9) then ((mC z d 191 [(2, 86)] (zup (zup (zup q2.2 86 10 0) 86 11 v2) 86 22 0)).bind fun q3 => (f_M_lexicon_48 z d v1 q3.1 q3.2)) else (f_M_lexicon_26 z d q2.2))))) := by
  rw [mC_succ q_M_lexicon rfl rfl rfl]
  rw [mE_bk (M := q_M_lexicon) k_M_lexicon.1 k_M_lexicon.2 [26, 48, 83, 84, 88, 108, 163, 172, 232, 241, 276, 331] 400]
  have key : ∀ (C : Nat → List zv → Mu → mR) (E : Nat → List zv → List zv → Mu → mR), mbk C E q_M_lexicon.1 q_M_lexicon.2.1 z q_M_lexicon.2.2.2 [26, 48, 83, 84, 88, 108, 163, 172, 232, 241, 276, 331] 400 (zfind q_M_lexicon.2.2.2 0) (zentry q_M_lexicon.2.2.1 [(2, 86), (0, v1), (0, v2)]) [] μ = (C 185 [(0, v1)] μ).bind fun q1 => (bif decide (q1.1 = 0) then (g_M_lexicon_26 E q1.2) else ((C 183 [(0, v2), (0, 1), (0, 160)] q1.2).bind fun q2 => (bif decide (q2.1 = 0) then (g_M_lexicon_26 E q2.2) else (bif decide (v2 ≤ q2.2 86 9) then ((C 191 [(2, 86)] (zup (zup (zup q2.2 86 10 0) 86 11 v2) 86 22 0)).bind fun q3 => (g_M_lexicon_48 E v1 q3.1 q3.2)) else (g_M_lexicon_26 E q2.2))))) := by
    intro C E
    rfl
  exact key _ _
set_option maxRecDepth 100000 in
theorem e_M_lexicon_26 (z : zZ) (d : Nat) (μ : Mu) : f_M_lexicon_26 z d μ = some ((-1), μ) := by
  show mE z d q_M_lexicon 26 [(9, 0), (9, 0), (9, 0), (9, 0), (9, 0), (9, 0), (9, 0)] [] μ = _
  rw [mE_bk (M := q_M_lexicon) k_M_lexicon.1 k_M_lexicon.2 [26, 48, 83, 84, 88, 108, 163, 172, 232, 241, 276, 331] 400]
  have key : ∀ (C : Nat → List zv → Mu → mR) (E : Nat → List zv → List zv → Mu → mR), mbk C E q_M_lexicon.1 q_M_lexicon.2.1 z q_M_lexicon.2.2.2 [26, 48, 83, 84, 88, 108, 163, 172, 232, 241, 276, 331] 400 (zfind q_M_lexicon.2.2.2 26) [(9, 0), (9, 0), (9, 0), (9, 0), (9, 0), (9, 0), (9, 0)] [] μ = some ((-1), μ) := by
    intro C E
    rfl
  exact key _ _
set_option maxRecDepth 100000 in
theorem e_M_lexicon_48 (z : zZ) (d : Nat) (v1 : Int) (v3 : Int) (μ : Mu) : f_M_lexicon_48 z d v1 v3 μ = bif decide (v3 = 0) then (f_M_lexicon_88 z d v1 v3 μ) else (bif decide (μ 86 11 ≤ μ 86 10) then (f_M_lexicon_88 z d v1 v3 μ) else ((mC z d 197 [(2, 86), (0, 44)] μ).bind fun q1 => (bif decide (q1.1 = 0) then (f_M_lexicon_83 z d v1 q1.2) else ((mC z d 191 [(2, 86)] q1.2).bind fun q2 => (bif decide (q2.1 = 0) then (f_M_lexicon_83 z d v1 q2.2) else (f_M_lexicon_84 z d v1 1 q2.2)))))) := by
  show mE z d q_M_lexicon 48 [(2, 86), (0, v1), (9, 0), (0, v3), (9, 0), (9, 0), (9, 0)] [] μ = _
  rw [mE_bk (M := q_M_lexicon) k_M_lexicon.1 k_M_lexicon.2 [26, 48, 83, 84, 88, 108, 163, 172, 232, 241, 276, 331] 400]
  have key : ∀ (C : Nat → List zv → Mu → mR) (E : Nat → List zv → List zv → Mu → mR), mbk C E q_M_lexicon.1 q_M_lexicon.2.1 z q_M_lexicon.2.2.2 [26, 48, 83, 84, 88, 108, 163, 172, 232, 241, 276, 331] 400 (zfind q_M_lexicon.2.2.2 48) [(2, 86), (0, v1), (9, 0), (0, v3), (9, 0), (9, 0), (9, 0)] [] μ = bif decide (v3 = 0) then (g_M_lexicon_88 E v1 v3 μ) else (bif decide (μ 86 11 ≤ μ 86 10) then (g_M_lexicon_88 E v1 v3 μ) else ((C 197 [(2, 86), (0, 44)] μ).bind fun q1 => (bif decide (q1.1 = 0) then (g_M_lexicon_83 E v1 q1.2) else ((C 191 [(2, 86)] q1.2).bind fun q2 => (bif decide (q2.1 = 0) then (g_M_lexicon_83 E v1 q2.2) else (g_M_lexicon_84 E v1 1 q2.2)))))) := by
    intro C E
    rfl
  exact key _ _
set_option maxRecDepth 100000 in
theorem e_M_lexicon_88 (z : zZ) (d : Nat) (v1 : Int) (v3 : Int) (μ : Mu) : f_M_lexicon_88 z d v1 v3 μ = bif !decide (v3 = 0) then (f_M_lexicon_108 z d v1 0 0 (zup μ 86 9 0)) else (some (μ 86 12, zup μ 86 9 0)) := by
  show mE z d q_M_lexicon 88 [(2, 86), (0, v1), (9, 0), (0, v3), (9, 0), (9, 0), (9, 0)] [] μ = _
  rw [mE_bk (M := q_M_lexicon) k_M_lexicon.1 k_M_lexicon.2 [26, 48, 83, 84, 88, 108, 163, 172, 232, 241, 276, 331] 400]
  have key : ∀ (C : Nat → List zv → Mu → mR) (E : Nat → List zv → List zv → Mu → mR), mbk C E q_M_lexicon.1 q_M_lexicon.2.1 z q_M_lexicon.2.2.2 [26, 48, 83, 84, 88, 108, 163, 172, 232, 241, 276, 331] 400 (zfind q_M_lexicon.2.2.2 88) [(2, 86), (0, v1), (9, 0), (0, v3), (9, 0), (9, 0), (9, 0)] [] μ = bif !decide (v3 = 0) then (g_M_lexicon_108 E v1 0 0 (zup μ 86 9 0)) else (some (μ 86 12, zup μ 86 9 0)) := by
    intro C E
    rfl
  exact key _ _
set_option maxRecDepth 100000 in
theorem e_M_lexicon_83 (z : zZ) (d : Nat) (v1 : Int) (μ : Mu) : f_M_lexicon_83 z d v1 μ = f_M_lexicon_84 z d v1 0 μ := by
  show mE z d q_M_lexicon 83 [(2, 86), (0, v1), (9, 0), (9, 0), (9, 0), (9, 0), (9, 0)] [] μ = _
  rw [mE_bk (M := q_M_lexicon) k_M_lexicon.1 k_M_lexicon.2 [26, 48, 83, 84, 88, 108, 163, 172, 232, 241, 276, 331] 400]
  have key : ∀ (C : Nat → List zv → Mu → mR) (E : Nat → List zv → List zv → Mu → mR), mbk C E q_M_lexicon.1 q_M_lexicon.2.1 z q_M_lexicon.2.2.2 [26, 48, 83, 84, 88, 108, 163, 172, 232, 241, 276, 331] 400 (zfind q_M_lexicon.2.2.2 83) [(2, 86), (0, v1), (9, 0), (9, 0), (9, 0), (9, 0), (9, 0)] [] μ = g_M_lexicon_84 E v1 0 μ := by
    intro C E
    rfl
  exact key _ _
set_option maxRecDepth 100000 in
theorem e_M_lexicon_84 (z : zZ) (d : Nat) (v1 : Int) (v100 : Int) (μ : Mu) : f_M_lexicon_84 z d v1 v100 μ = f_M_lexicon_48 z d v1 v100 μ := by
  show mE z d q_M_lexicon 84 [(2, 86), (0, v1), (9, 0), (9, 0), (9, 0), (9, 0), (9, 0)] [(0, v100)] μ = _
  rw [mE_bk (M := q_M_lexicon) k_M_lexicon.1 k_M_lexicon.2 [26, 48, 83, 84, 88, 108, 163, 172, 232, 241, 276, 331] 400]
  have key : ∀ (C : Nat → List zv → Mu → mR) (E : Nat → List zv → List zv → Mu → mR), mbk C E q_M_lexicon.1 q_M_lexicon.2.1 z q_M_lexicon.2.2.2 [26, 48, 83, 84, 88, 108, 163, 172, 232, 241, 276, 331] 400 (zfind q_M_lexicon.2.2.2 84) [(2, 86), (0, v1), (9, 0), (9, 0), (9, 0), (9, 0), (9, 0)] [(0, v100)] μ = g_M_lexicon_48 E v1 v100 μ := by
    intro C E
    rfl
  exact key _ _
set_option maxRecDepth 100000 in
theorem e_M_lexicon_108 (z : zZ) (d : Nat) (v1 : Int) (v4 : Int) (v5 : Int) (μ : Mu) : f_M_lexicon_108 z d v1 v4 v5 μ = (mC z d 198 [(2, 86), (0, v1)] μ).bind fun q1 => (bif decide (q1.1 ≤ v5) then (f_M_lexicon_172 z d v1 v4 0 q1.2) else ((mC z d 199 [(2, 86), (0, v1)] q1.2).bind fun q2 => ((mC z d 189 [(0, q2.1), (0, v5)] q2.2).bind fun q3 => (bif decide (q3.1 = 0) then (f_M_lexicon_163 z d v1 v4 v5 q3.2) else ((mC z d 200 [(2, 86), (0, v1), (0, v5)] q3.2).bind fun q4 => (bif !decide (q4.1 = 0) then (f_M_lexicon_163 z d v1 v4 v5 q4.2) else ((mC z d 201 [(0, v1), (0, v5)] q4.2).bind fun q5 => ((mC z d 202 [(2, 86), (0, v1), (0, v5)] q5.2).bind fun q6 => ((mC z d 203 [(2, 86), (0, v1), (2, 94), (0, q5.1), (0, q6.1)] q6.2).bind fun q7 => (f_M_lexicon_163 z d v1 v4 v5 q7.2)))))))))) := by
  show mE z d q_M_lexicon 108 [(2, 86), (0, v1), (9, 0), (9, 0), (0, v4), (0, v5), (9, 0)] [] μ = _
  rw [mE_bk (M := q_M_lexicon) k_M_lexicon.1 k_M_lexicon.2 [26, 48, 83, 84, 88, 108, 163, 172, 232, 241, 276, 331] 400]
  have key : ∀ (C : Nat → List zv → Mu → mR) (E : Nat → List zv → List zv → Mu → mR), mbk C E q_M_lexicon.1 q_M_lexicon.2.1 z q_M_lexicon.2.2.2 [26, 48, 83, 84, 88, 108, 163, 172, 232, 241, 276, 331] 400 (zfind q_M_lexicon.2.2.2 108) [(2, 86), (0, v1), (9, 0), (9, 0), (0, v4), (0, v5), (9, 0)] [] μ = (C 198 [(2, 86), (0, v1)] μ).bind fun q1 => (bif decide (q1.1 ≤ v5) then (g_M_lexicon_172 E v1 v4 0 q1.2) else ((C 199 [(2, 86), (0, v1)] q1.2).bind fun q2 => ((C 189 [(0, q2.1), (0, v5)] q2.2).bind fun q3 => (bif decide (q3.1 = 0) then (g_M_lexicon_163 E v1 v4 v5 q3.2) else ((C 200 [(2, 86), (0, v1), (0, v5)] q3.2).bind fun q4 => (bif !decide (q4.1 = 0) then (g_M_lexicon_163 E v1 v4 v5 q4.2) else ((C 201 [(0, v1), (0, v5)] q4.2).bind fun q5 => ((C 202 [(2, 86), (0, v1), (0, v5)] q5.2).bind fun q6 => ((C 203 [(2, 86), (0, v1), (2, 94), (0, q5.1), (0, q6.1)] q6.2).bind fun q7 => (g_M_lexicon_163 E v1 v4 v5 q7.2)))))))))) := by
    intro C E
    rfl
  exact key _ _
set_option maxRecDepth 100000 in
theorem e_M_lexicon_172 (z : zZ) (d : Nat) (v1 : Int) (v4 : Int) (v5 : Int) (μ : Mu) : f_M_lexicon_172 z d v1 v4 v5 μ = bif decide (μ 86 22 ≤ v5) then (f_M_lexicon_241 z d v1 v4 0 μ) else (gI v5 12 ((mC z d 206 [(2, 86), (0, v1), (2, 96), (0, zw (8 * v5)), (0, μ 97 v5.toNat)] μ).bind fun q1 => (bif decide (q1.1 = (-1)) then (f_M_lexicon_232 z d v1 v4 v5 q1.2) else ((mC z d 199 [(2, 86), (0, v1)] q1.2).bind fun q2 => ((mC z d 189 [(0, q2.1), (0, q1.1)] q2.2).bind fun q3 => (bif decide (q3.1 = 0) then (f_M_lexicon_232 z d v1 v4 v5 q3.2) else (f_M_lexicon_232 z d v1 (z_or v4 (z_shl 1 v5)) v5 q3.2))))))) := by
  show mE z d q_M_lexicon 172 [(2, 86), (0, v1), (9, 0), (9, 0), (0, v4), (0, v5), (9, 0)] [] μ = _
  rw [mE_bk (M := q_M_lexicon) k_M_lexicon.1 k_M_lexicon.2 [26, 48, 83, 84, 88, 108, 163, 172, 232, 241, 276, 331] 400]
  have key : ∀ (C : Nat → List zv → Mu → mR) (E : Nat → List zv → List zv → Mu → mR), mbk C E q_M_lexicon.1 q_M_lexicon.2.1 z q_M_lexicon.2.2.2 [26, 48, 83, 84, 88, 108, 163, 172, 232, 241, 276, 331] 400 (zfind q_M_lexicon.2.2.2 172) [(2, 86), (0, v1), (9, 0), (9, 0), (0, v4), (0, v5), (9, 0)] [] μ = bif decide (μ 86 22 ≤ v5) then (g_M_lexicon_241 E v1 v4 0 μ) else (gI v5 12 ((C 206 [(2, 86), (0, v1), (2, 96), (0, zw (8 * v5)), (0, μ 97 v5.toNat)] μ).bind fun q1 => (bif decide (q1.1 = (-1)) then (g_M_lexicon_232 E v1 v4 v5 q1.2) else ((C 199 [(2, 86), (0, v1)] q1.2).bind fun q2 => ((C 189 [(0, q2.1), (0, q1.1)] q2.2).bind fun q3 => (bif decide (q3.1 = 0) then (g_M_lexicon_232 E v1 v4 v5 q3.2) else (g_M_lexicon_232 E v1 (z_or v4 (z_shl 1 v5)) v5 q3.2))))))) := by
    intro C E
    rfl
  exact key _ _
set_option maxRecDepth 100000 in
theorem e_M_lexicon_163 (z : zZ) (d : Nat) (v1 : Int) (v4 : Int) (v5 : Int) (μ : Mu) : f_M_lexicon_163 z d v1 v4 v5 μ = f_M_lexicon_108 z d v1 v4 (zw (v5 + 1)) μ := by
  show mE z d q_M_lexicon 163 [(2, 86), (0, v1), (9, 0), (9, 0), (0, v4), (0, v5), (9, 0)] [] μ = _
  rw [mE_bk (M := q_M_lexicon) k_M_lexicon.1 k_M_lexicon.2 [26, 48, 83, 84, 88, 108, 163, 172, 232, 241, 276, 331] 400]
  have key : ∀ (C : Nat → List zv → Mu → mR) (E : Nat → List zv → List zv → Mu → mR), mbk C E q_M_lexicon.1 q_M_lexicon.2.1 z q_M_lexicon.2.2.2 [26, 48, 83, 84, 88, 108, 163, 172, 232, 241, 276, 331] 400 (zfind q_M_lexicon.2.2.2 163) [(2, 86), (0, v1), (9, 0), (9, 0), (0, v4), (0, v5), (9, 0)] [] μ = g_M_lexicon_108 E v1 v4 (zw (v5 + 1)) μ := by
    intro C E
    rfl
  exact key _ _
set_option maxRecDepth 100000 in
theorem e_M_lexicon_241 (z : zZ) (d : Nat) (v1 : Int) (v4 : Int) (v5 : Int) (μ : Mu) : f_M_lexicon_241 z d v1 v4 v5 μ = bif decide (96 ≤ v5) then (f_M_lexicon_276 z d v1 v4 0 μ) else (gI v5 96 (gI (zw ((zw (96 * v1)) + v5)) 192 (f_M_lexicon_241 z d v1 v4 (zw (v5 + 1)) (zup μ 94 ((zw ((zw (96 * v1)) + v5)).toNat) (μ 96 v5.toNat))))) := by
  show mE z d q_M_lexicon 241 [(2, 86), (0, v1), (9, 0), (9, 0), (0, v4), (0, v5), (9, 0)] [] μ = _
  rw [mE_bk (M := q_M_lexicon) k_M_lexicon.1 k_M_lexicon.2 [26, 48, 83, 84, 88, 108, 163, 172, 232, 241, 276, 331] 400]
  have key : ∀ (C : Nat → List zv → Mu → mR) (E : Nat → List zv → List zv → Mu → mR), mbk C E q_M_lexicon.1 q_M_lexicon.2.1 z q_M_lexicon.2.2.2 [26, 48, 83, 84, 88, 108, 163, 172, 232, 241, 276, 331] 400 (zfind q_M_lexicon.2.2.2 241) [(2, 86), (0, v1), (9, 0), (9, 0), (0, v4), (0, v5), (9, 0)] [] μ = bif decide (96 ≤ v5) then (g_M_lexicon_276 E v1 v4 0 μ) else (gI v5 96 (gI (zw ((zw (96 * v1)) + v5)) 192 (g_M_lexicon_241 E v1 v4 (zw (v5 + 1)) (zup μ 94 ((zw ((zw (96 * v1)) + v5)).toNat) (μ 96 v5.toNat))))) := by
    intro C E
    rfl
  exact key _ _
set_option maxRecDepth 100000 in
theorem e_M_lexicon_232 (z : zZ) (d : Nat) (v1 : Int) (v4 : Int) (v5 : Int) (μ : Mu) : f_M_lexicon_232 z d v1 v4 v5 μ = f_M_lexicon_172 z d v1 v4 (zw (v5 + 1)) μ := by
  show mE z d q_M_lexicon 232 [(2, 86), (0, v1), (9, 0), (9, 0), (0, v4), (0, v5), (9, 0)] [] μ = _
  rw [mE_bk (M := q_M_lexicon) k_M_lexicon.1 k_M_lexicon.2 [26, 48, 83, 84, 88, 108, 163, 172, 232, 241, 276, 331] 400]
  have key : ∀ (C : Nat → List zv → Mu → mR) (E : Nat → List zv → List zv → Mu → mR), mbk C E q_M_lexicon.1 q_M_lexicon.2.1 z q_M_lexicon.2.2.2 [26, 48, 83, 84, 88, 108, 163, 172, 232, 241, 276, 331] 400 (zfind q_M_lexicon.2.2.2 232) [(2, 86), (0, v1), (9, 0), (9, 0), (0, v4), (0, v5), (9, 0)] [] μ = g_M_lexicon_172 E v1 v4 (zw (v5 + 1)) μ := by
    intro C E
    rfl
  exact key _ _
set_option maxRecDepth 100000 in
theorem e_M_lexicon_276 (z : zZ) (d : Nat) (v1 : Int) (v4 : Int) (v5 : Int) (μ : Mu) : f_M_lexicon_276 z d v1 v4 v5 μ = bif decide (12 ≤ v5) then (bif !decide (v1 = 0) then (f_M_lexicon_331 z d v1 v4 (zup μ 86 15 (μ 86 22))) else (f_M_lexicon_331 z d v1 v4 (zup μ 86 14 (μ 86 22)))) else (gI v5 12 (gI (zw ((zw (12 * v1)) + v5)) 24 (f_M_lexicon_276 z d v1 v4 (zw (v5 + 1)) (zup μ 95 ((zw ((zw (12 * v1)) + v5)).toNat) (μ 97 v5.toNat))))) := by
  show mE z d q_M_lexicon 276 [(2, 86), (0, v1), (9, 0), (9, 0), (0, v4), (0, v5), (9, 0)] [] μ = _
  rw [mE_bk (M := q_M_lexicon) k_M_lexicon.1 k_M_lexicon.2 [26, 48, 83, 84, 88, 108, 163, 172, 232, 241, 276, 331] 400]
  have key : ∀ (C : Nat → List zv → Mu → mR) (E : Nat → List zv → List zv → Mu → mR), mbk C E q_M_lexicon.1 q_M_lexicon.2.1 z q_M_lexicon.2.2.2 [26, 48, 83, 84, 88, 108, 163, 172, 232, 241, 276, 331] 400 (zfind q_M_lexicon.2.2.2 276) [(2, 86), (0, v1), (9, 0), (9, 0), (0, v4), (0, v5), (9, 0)] [] μ = bif decide (12 ≤ v5) then (bif !decide (v1 = 0) then (g_M_lexicon_331 E v1 v4 (zup μ 86 15 (μ 86 22))) else (g_M_lexicon_331 E v1 v4 (zup μ 86 14 (μ 86 22)))) else (gI v5 12 (gI (zw ((zw (12 * v1)) + v5)) 24 (g_M_lexicon_276 E v1 v4 (zw (v5 + 1)) (zup μ 95 ((zw ((zw (12 * v1)) + v5)).toNat) (μ 97 v5.toNat))))) := by
    intro C E
    rfl
  exact key _ _
set_option maxRecDepth 100000 in
theorem e_M_lexicon_331 (z : zZ) (d : Nat) (v1 : Int) (v4 : Int) (μ : Mu) : f_M_lexicon_331 z d v1 v4 μ = (mC z d 207 [(2, 86), (0, v1), (0, v4)] μ).bind fun q1 => (some (q1.2 86 22, q1.2)) := by
  show mE z d q_M_lexicon 331 [(2, 86), (0, v1), (9, 0), (9, 0), (0, v4), (9, 0), (9, 0)] [] μ = _
  rw [mE_bk (M := q_M_lexicon) k_M_lexicon.1 k_M_lexicon.2 [26, 48, 83, 84, 88, 108, 163, 172, 232, 241, 276, 331] 400]
  have key : ∀ (C : Nat → List zv → Mu → mR) (E : Nat → List zv → List zv → Mu → mR), mbk C E q_M_lexicon.1 q_M_lexicon.2.1 z q_M_lexicon.2.2.2 [26, 48, 83, 84, 88, 108, 163, 172, 232, 241, 276, 331] 400 (zfind q_M_lexicon.2.2.2 331) [(2, 86), (0, v1), (9, 0), (9, 0), (0, v4), (9, 0), (9, 0)] [] μ = (C 207 [(2, 86), (0, v1), (0, v4)] μ).bind fun q1 => (some (q1.2 86 22, q1.2)) := by
    intro C E
    rfl
  exact key _ _
def g_M_readsLexWord_61 (E : Nat → List zv → List zv → Mu → mR) (v1 : Int) (μ : Mu) : mR := E 61 [(2, 86), (0, v1), (9, 0)] [] μ
noncomputable def f_M_readsLexWord_61 (z : zZ) (d : Nat) (v1 : Int) (μ : Mu) : mR := g_M_readsLexWord_61 (fun pc ls st μ => mE z d q_M_readsLexWord pc ls st μ) v1 μ
def g_M_readsLexWord_63 (E : Nat → List zv → List zv → Mu → mR) (v1 : Int) (v2 : Int) (μ : Mu) : mR := E 63 [(2, 86), (0, v1), (0, v2)] [] μ
noncomputable def f_M_readsLexWord_63 (z : zZ) (d : Nat) (v1 : Int) (v2 : Int) (μ : Mu) : mR := g_M_readsLexWord_63 (fun pc ls st μ => mE z d q_M_readsLexWord pc ls st μ) v1 v2 μ
def g_M_readsLexWord_113 (E : Nat → List zv → List zv → Mu → mR) (v1 : Int) (v2 : Int) (v100 : Int) (μ : Mu) : mR := E 113 [(2, 86), (0, v1), (0, v2)] [(0, v100)] μ
noncomputable def f_M_readsLexWord_113 (z : zZ) (d : Nat) (v1 : Int) (v2 : Int) (v100 : Int) (μ : Mu) : mR := g_M_readsLexWord_113 (fun pc ls st μ => mE z d q_M_readsLexWord pc ls st μ) v1 v2 v100 μ
def g_M_readsLexWord_114 (E : Nat → List zv → List zv → Mu → mR) (v1 : Int) (v2 : Int) (μ : Mu) : mR := E 114 [(2, 86), (0, v1), (0, v2)] [] μ
noncomputable def f_M_readsLexWord_114 (z : zZ) (d : Nat) (v1 : Int) (v2 : Int) (μ : Mu) : mR := g_M_readsLexWord_114 (fun pc ls st μ => mE z d q_M_readsLexWord pc ls st μ) v1 v2 μ
theorem k_M_readsLexWord : zprK q_M_readsLexWord.2.2.2 = true ∧ zinc q_M_readsLexWord.2.2.2 = true := by decide +kernel
set_option maxRecDepth 100000 in
theorem c_M_readsLexWord (z : zZ) (d : Nat) (μ : Mu) : mC z (d + 1) 191 [(2, 86)] μ = (mC z d 192 [(2, 86)] μ).bind fun q1 => (bif !decide (q1.1 = 0) then (bif !decide (q1.2 86 22 = 12) then ((mC z d 195 [(2, 86), (2, 96), (0, zw (8 * (q1.2 86 22)))] q1.2).bind fun q2 => (bif !decide (q2.1 = 0) then (f_M_readsLexWord_61 z d (μ 86 10) q2.2) else (some (0, q2.2)))) else ((mC z d 194 [(2, 86), (0, 4), (0, q1.2 86 10)] q1.2).bind fun q3 => (g01 q3.1 (some (q3.1, q3.2))))) else ((mC z d 194 [(2, 86), (0, 1), (0, q1.2 86 10)] q1.2).bind fun q4 => (g01 q4.1 (some (q4.1, q4.2))))) := by
  rw [mC_succ q_M_readsLexWord rfl rfl rfl]
  rw [mE_bk (M := q_M_readsLexWord) k_M_readsLexWord.1 k_M_readsLexWord.2 [61, 63, 113, 114] 400]
  have key : ∀ (C : Nat → List zv → Mu → mR) (E : Nat → List zv → List zv → Mu → mR), mbk C E q_M_readsLexWord.1 q_M_readsLexWord.2.1 z q_M_readsLexWord.2.2.2 [61, 63, 113, 114] 400 (zfind q_M_readsLexWord.2.2.2 0) (zentry q_M_readsLexWord.2.2.1 [(2, 86)]) [] μ = (C 192 [(2, 86)] μ).bind fun q1 => (bif !decide (q1.1 = 0) then (bif !decide (q1.2 86 22 = 12) then ((C 195 [(2, 86), (2, 96), (0, zw (8 * (q1.2 86 22)))] q1.2).bind fun q2 => (bif !decide (q2.1 = 0) then (g_M_readsLexWord_61 E (μ 86 10) q2.2) else (some (0, q2.2)))) else ((C 194 [(2, 86), (0, 4), (0, q1.2 86 10)] q1.2).bind fun q3 => (g01 q3.1 (some (q3.1, q3.2))))) else ((C 194 [(2, 86), (0, 1), (0, q1.2 86 10)] q1.2).bind fun q4 => (g01 q4.1 (some (q4.1, q4.2))))) := by
    intro C E
    rfl
  exact key _ _
set_option maxRecDepth 100000 in
theorem e_M_readsLexWord_61 (z : zZ) (d : Nat) (v1 : Int) (μ : Mu) : f_M_readsLexWord_61 z d v1 μ = f_M_readsLexWord_63 z d v1 0 μ := by
  show mE z d q_M_readsLexWord 61 [(2, 86), (0, v1), (9, 0)] [] μ = _
  rw [mE_bk (M := q_M_readsLexWord) k_M_readsLexWord.1 k_M_readsLexWord.2 [61, 63, 113, 114] 400]
  have key : ∀ (C : Nat → List zv → Mu → mR) (E : Nat → List zv → List zv → Mu → mR), mbk C E q_M_readsLexWord.1 q_M_readsLexWord.2.1 z q_M_readsLexWord.2.2.2 [61, 63, 113, 114] 400 (zfind q_M_readsLexWord.2.2.2 61) [(2, 86), (0, v1), (9, 0)] [] μ = g_M_readsLexWord_63 E v1 0 μ := by
    intro C E
    rfl
  exact key _ _
set_option maxRecDepth 100000 in
theorem e_M_readsLexWord_63 (z : zZ) (d : Nat) (v1 : Int) (v2 : Int) (μ : Mu) : f_M_readsLexWord_63 z d v1 v2 μ = bif decide (μ 86 22 ≤ v2) then (gI (μ 86 22) 12 (some (1, zup (zup μ 97 ((μ 86 22).toNat) (μ 86 13)) 86 22 (zw ((μ 86 22) + 1))))) else (gI v2 12 ((mC z d 196 [(2, 96), (0, zw (8 * v2)), (0, μ 97 v2.toNat), (2, 96), (0, zw (8 * (μ 86 22))), (0, μ 86 13)] μ).bind fun q1 => (bif decide (q1.1 = 0) then (f_M_readsLexWord_114 z d v1 v2 q1.2) else ((mC z d 194 [(2, 86), (0, 6), (0, v1)] q1.2).bind fun q2 => (f_M_readsLexWord_113 z d v1 v2 q2.1 q2.2))))) := by
  show mE z d q_M_readsLexWord 63 [(2, 86), (0, v1), (0, v2)] [] μ = _
  rw [mE_bk (M := q_M_readsLexWord) k_M_readsLexWord.1 k_M_readsLexWord.2 [61, 63, 113, 114] 400]
  have key : ∀ (C : Nat → List zv → Mu → mR) (E : Nat → List zv → List zv → Mu → mR), mbk C E q_M_readsLexWord.1 q_M_readsLexWord.2.1 z q_M_readsLexWord.2.2.2 [61, 63, 113, 114] 400 (zfind q_M_readsLexWord.2.2.2 63) [(2, 86), (0, v1), (0, v2)] [] μ = bif decide (μ 86 22 ≤ v2) then (gI (μ 86 22) 12 (some (1, zup (zup μ 97 ((μ 86 22).toNat) (μ 86 13)) 86 22 (zw ((μ 86 22) + 1))))) else (gI v2 12 ((C 196 [(2, 96), (0, zw (8 * v2)), (0, μ 97 v2.toNat), (2, 96), (0, zw (8 * (μ 86 22))), (0, μ 86 13)] μ).bind fun q1 => (bif decide (q1.1 = 0) then (g_M_readsLexWord_114 E v1 v2 q1.2) else ((C 194 [(2, 86), (0, 6), (0, v1)] q1.2).bind fun q2 => (g_M_readsLexWord_113 E v1 v2 q2.1 q2.2))))) := by
    intro C E
    rfl
  exact key _ _
set_option maxRecDepth 100000 in
theorem e_M_readsLexWord_114 (z : zZ) (d : Nat) (v1 : Int) (v2 : Int) (μ : Mu) : f_M_readsLexWord_114 z d v1 v2 μ = f_M_readsLexWord_63 z d v1 (zw (v2 + 1)) μ := by
  show mE z d q_M_readsLexWord 114 [(2, 86), (0, v1), (0, v2)] [] μ = _
  rw [mE_bk (M := q_M_readsLexWord) k_M_readsLexWord.1 k_M_readsLexWord.2 [61, 63, 113, 114] 400]
  have key : ∀ (C : Nat → List zv → Mu → mR) (E : Nat → List zv → List zv → Mu → mR), mbk C E q_M_readsLexWord.1 q_M_readsLexWord.2.1 z q_M_readsLexWord.2.2.2 [61, 63, 113, 114] 400 (zfind q_M_readsLexWord.2.2.2 114) [(2, 86), (0, v1), (0, v2)] [] μ = g_M_readsLexWord_63 E v1 (zw (v2 + 1)) μ := by
    intro C E
    rfl
  exact key _ _
set_option maxRecDepth 100000 in
theorem e_M_readsLexWord_113 (z : zZ) (d : Nat) (v1 : Int) (v2 : Int) (v100 : Int) (μ : Mu) : f_M_readsLexWord_113 z d v1 v2 v100 μ = g01 v100 (some (v100, μ)) := by
  show mE z d q_M_readsLexWord 113 [(2, 86), (0, v1), (0, v2)] [(0, v100)] μ = _
  rw [mE_bk (M := q_M_readsLexWord) k_M_readsLexWord.1 k_M_readsLexWord.2 [61, 63, 113, 114] 400]
  have key : ∀ (C : Nat → List zv → Mu → mR) (E : Nat → List zv → List zv → Mu → mR), mbk C E q_M_readsLexWord.1 q_M_readsLexWord.2.1 z q_M_readsLexWord.2.2.2 [61, 63, 113, 114] 400 (zfind q_M_readsLexWord.2.2.2 113) [(2, 86), (0, v1), (0, v2)] [(0, v100)] μ = g01 v100 (some (v100, μ)) := by
    intro C E
    rfl
  exact key _ _
theorem k_M_isLetterHere : zprK q_M_isLetterHere.2.2.2 = true ∧ zinc q_M_isLetterHere.2.2.2 = true := by decide +kernel
set_option maxRecDepth 100000 in
theorem c_M_isLetterHere (z : zZ) (d : Nat) (μ : Mu) : mC z (d + 1) 192 [(2, 86)] μ = (mC z d 193 [(2, 86)] μ).bind fun q1 => ((mC z d 183 [(0, q1.1), (0, 97), (0, 108)] q1.2).bind fun q2 => (g01 q2.1 (some (q2.1, q2.2)))) := by
  rw [mC_succ q_M_isLetterHere rfl rfl rfl]
  rw [mE_bk (M := q_M_isLetterHere) k_M_isLetterHere.1 k_M_isLetterHere.2 [] 400]
  have key : ∀ (C : Nat → List zv → Mu → mR) (E : Nat → List zv → List zv → Mu → mR), mbk C E q_M_isLetterHere.1 q_M_isLetterHere.2.1 z q_M_isLetterHere.2.2.2 [] 400 (zfind q_M_isLetterHere.2.2.2 0) (zentry q_M_isLetterHere.2.2.1 [(2, 86)]) [] μ = (C 193 [(2, 86)] μ).bind fun q1 => ((C 183 [(0, q1.1), (0, 97), (0, 108)] q1.2).bind fun q2 => (g01 q2.1 (some (q2.1, q2.2)))) := by
    intro C E
    rfl
  exact key _ _
def g_M_here_28 (E : Nat → List zv → List zv → Mu → mR) (v100 : Int) (μ : Mu) : mR := E 28 [(9, 0)] [(0, v100)] μ
noncomputable def f_M_here_28 (z : zZ) (d : Nat) (v100 : Int) (μ : Mu) : mR := g_M_here_28 (fun pc ls st μ => mE z d q_M_here pc ls st μ) v100 μ
theorem k_M_here : zprK q_M_here.2.2.2 = true ∧ zinc q_M_here.2.2.2 = true := by decide +kernel
set_option maxRecDepth 100000 in
theorem c_M_here (z : zZ) (d : Nat) (μ : Mu) : mC z (d + 1) 193 [(2, 86)] μ = bif decide (μ 86 11 ≤ μ 86 10) then (f_M_here_28 z d ((-1)) μ) else (gI (μ 86 10) 220 (f_M_here_28 z d (z_and (μ 93 ((μ 86 10).toNat)) 255) μ)) := by
  rw [mC_succ q_M_here rfl rfl rfl]
  rw [mE_bk (M := q_M_here) k_M_here.1 k_M_here.2 [28] 400]
  have key : ∀ (C : Nat → List zv → Mu → mR) (E : Nat → List zv → List zv → Mu → mR), mbk C E q_M_here.1 q_M_here.2.1 z q_M_here.2.2.2 [28] 400 (zfind q_M_here.2.2.2 0) (zentry q_M_here.2.2.1 [(2, 86)]) [] μ = bif decide (μ 86 11 ≤ μ 86 10) then (g_M_here_28 E ((-1)) μ) else (gI (μ 86 10) 220 (g_M_here_28 E (z_and (μ 93 ((μ 86 10).toNat)) 255) μ)) := by
    intro C E
    rfl
  exact key _ _
set_option maxRecDepth 100000 in
theorem e_M_here_28 (z : zZ) (d : Nat) (v100 : Int) (μ : Mu) : f_M_here_28 z d v100 μ = some (v100, μ) := by
  show mE z d q_M_here 28 [(9, 0)] [(0, v100)] μ = _
  rw [mE_bk (M := q_M_here) k_M_here.1 k_M_here.2 [28] 400]
  have key : ∀ (C : Nat → List zv → Mu → mR) (E : Nat → List zv → List zv → Mu → mR), mbk C E q_M_here.1 q_M_here.2.1 z q_M_here.2.2.2 [28] 400 (zfind q_M_here.2.2.2 28) [(9, 0)] [(0, v100)] μ = some (v100, μ) := by
    intro C E
    rfl
  exact key _ _
theorem k_M_wrongAt : zprK q_M_wrongAt.2.2.2 = true ∧ zinc q_M_wrongAt.2.2.2 = true := by decide +kernel
set_option maxRecDepth 100000 in
theorem c_M_wrongAt (z : zZ) (d : Nat) (v1 : Int) (v2 : Int) (μ : Mu) : mC z (d + 1) 194 [(2, 86), (0, v1), (0, v2)] μ = some (0, zup μ 86 12 (zw ((zw (((-1000)) * v1)) - v2))) := by
  rw [mC_succ q_M_wrongAt rfl rfl rfl]
  rw [mE_bk (M := q_M_wrongAt) k_M_wrongAt.1 k_M_wrongAt.2 [] 400]
  have key : ∀ (C : Nat → List zv → Mu → mR) (E : Nat → List zv → List zv → Mu → mR), mbk C E q_M_wrongAt.1 q_M_wrongAt.2.1 z q_M_wrongAt.2.2.2 [] 400 (zfind q_M_wrongAt.2.2.2 0) (zentry q_M_wrongAt.2.2.1 [(2, 86), (0, v1), (0, v2)]) [] μ = some (0, zup μ 86 12 (zw ((zw (((-1000)) * v1)) - v2))) := by
    intro C E
    rfl
  exact key _ _
def g_M_readsWord_22 (E : Nat → List zv → List zv → Mu → mR) (v1 : Int) (v2 : Int) (μ : Mu) : mR := E 22 [(2, 86), (2, v1), (0, v2)] [] μ
noncomputable def f_M_readsWord_22 (z : zZ) (d : Nat) (v1 : Int) (v2 : Int) (μ : Mu) : mR := g_M_readsWord_22 (fun pc ls st μ => mE z d q_M_readsWord pc ls st μ) v1 v2 μ
theorem k_M_readsWord : zprK q_M_readsWord.2.2.2 = true ∧ zinc q_M_readsWord.2.2.2 = true := by decide +kernel
set_option maxRecDepth 100000 in
theorem c_M_readsWord (z : zZ) (d : Nat) (v1 : Int) (v2 : Int) (μ : Mu) : mC z (d + 1) 195 [(2, 86), (2, v1), (0, v2)] μ = (mC z d 192 [(2, 86)] (zup μ 86 13 0)).bind fun q1 => (bif !decide (q1.1 = 0) then (f_M_readsWord_22 z d v1 v2 q1.2) else ((mC z d 194 [(2, 86), (0, 1), (0, q1.2 86 10)] q1.2).bind fun q2 => (g01 q2.1 (some (q2.1, q2.2))))) := by
  rw [mC_succ q_M_readsWord rfl rfl rfl]
  rw [mE_bk (M := q_M_readsWord) k_M_readsWord.1 k_M_readsWord.2 [22] 400]
  have key : ∀ (C : Nat → List zv → Mu → mR) (E : Nat → List zv → List zv → Mu → mR), mbk C E q_M_readsWord.1 q_M_readsWord.2.1 z q_M_readsWord.2.2.2 [22] 400 (zfind q_M_readsWord.2.2.2 0) (zentry q_M_readsWord.2.2.1 [(2, 86), (2, v1), (0, v2)]) [] μ = (C 192 [(2, 86)] (zup μ 86 13 0)).bind fun q1 => (bif !decide (q1.1 = 0) then (g_M_readsWord_22 E v1 v2 q1.2) else ((C 194 [(2, 86), (0, 1), (0, q1.2 86 10)] q1.2).bind fun q2 => (g01 q2.1 (some (q2.1, q2.2))))) := by
    intro C E
    rfl
  exact key _ _
set_option maxRecDepth 100000 in
theorem e_M_readsWord_22 (z : zZ) (d : Nat) (v1 : Int) (v2 : Int) (μ : Mu) : f_M_readsWord_22 z d v1 v2 μ = (mC z d 192 [(2, 86)] μ).bind fun q1 => (bif decide (q1.1 = 0) then (some (1, q1.2)) else (bif !decide (q1.2 86 13 = 8) then ((mC z d 193 [(2, 86)] q1.2).bind fun q2 => (gA v1 (zw (v2 + (q1.2 86 13))) (f_M_readsWord_22 z d v1 v2 (zup (zup (zup q2.2 v1.toNat ((zw (v2 + (q1.2 86 13))).toNat) (zw (q2.1 - 97))) 86 13 (zw (((zup q2.2 v1.toNat ((zw (v2 + (q1.2 86 13))).toNat) (zw (q2.1 - 97))) 86 13) + 1))) 86 10 (zw (((zup q2.2 v1.toNat ((zw (v2 + (q1.2 86 13))).toNat) (zw (q2.1 - 97))) 86 10) + 1)))))) else ((mC z d 194 [(2, 86), (0, 3), (0, q1.2 86 10)] q1.2).bind fun q3 => (g01 q3.1 (some (q3.1, q3.2)))))) := by
  show mE z d q_M_readsWord 22 [(2, 86), (2, v1), (0, v2)] [] μ = _
  rw [mE_bk (M := q_M_readsWord) k_M_readsWord.1 k_M_readsWord.2 [22] 400]
  have key : ∀ (C : Nat → List zv → Mu → mR) (E : Nat → List zv → List zv → Mu → mR), mbk C E q_M_readsWord.1 q_M_readsWord.2.1 z q_M_readsWord.2.2.2 [22] 400 (zfind q_M_readsWord.2.2.2 22) [(2, 86), (2, v1), (0, v2)] [] μ = (C 192 [(2, 86)] μ).bind fun q1 => (bif decide (q1.1 = 0) then (some (1, q1.2)) else (bif !decide (q1.2 86 13 = 8) then ((C 193 [(2, 86)] q1.2).bind fun q2 => (gA v1 (zw (v2 + (q1.2 86 13))) (g_M_readsWord_22 E v1 v2 (zup (zup (zup q2.2 v1.toNat ((zw (v2 + (q1.2 86 13))).toNat) (zw (q2.1 - 97))) 86 13 (zw (((zup q2.2 v1.toNat ((zw (v2 + (q1.2 86 13))).toNat) (zw (q2.1 - 97))) 86 13) + 1))) 86 10 (zw (((zup q2.2 v1.toNat ((zw (v2 + (q1.2 86 13))).toNat) (zw (q2.1 - 97))) 86 10) + 1)))))) else ((C 194 [(2, 86), (0, 3), (0, q1.2 86 10)] q1.2).bind fun q3 => (g01 q3.1 (some (q3.1, q3.2)))))) := by
    intro C E
    rfl
  exact key _ _
def g_M_areAlike_11 (E : Nat → List zv → List zv → Mu → mR) (v0 : Int) (v1 : Int) (v2 : Int) (v3 : Int) (v4 : Int) (v6 : Int) (μ : Mu) : mR := E 11 [(2, v0), (0, v1), (0, v2), (2, v3), (0, v4), (9, 0), (0, v6)] [] μ
noncomputable def f_M_areAlike_11 (z : zZ) (d : Nat) (v0 : Int) (v1 : Int) (v2 : Int) (v3 : Int) (v4 : Int) (v6 : Int) (μ : Mu) : mR := g_M_areAlike_11 (fun pc ls st μ => mE z d q_M_areAlike pc ls st μ) v0 v1 v2 v3 v4 v6 μ
def g_M_areAlike_35 (E : Nat → List zv → List zv → Mu → mR) (v0 : Int) (v1 : Int) (v2 : Int) (v3 : Int) (v4 : Int) (v6 : Int) (μ : Mu) : mR := E 35 [(2, v0), (0, v1), (0, v2), (2, v3), (0, v4), (9, 0), (0, v6)] [] μ
noncomputable def f_M_areAlike_35 (z : zZ) (d : Nat) (v0 : Int) (v1 : Int) (v2 : Int) (v3 : Int) (v4 : Int) (v6 : Int) (μ : Mu) : mR := g_M_areAlike_35 (fun pc ls st μ => mE z d q_M_areAlike pc ls st μ) v0 v1 v2 v3 v4 v6 μ
theorem k_M_areAlike : zprK q_M_areAlike.2.2.2 = true ∧ zinc q_M_areAlike.2.2.2 = true := by decide +kernel
set_option maxRecDepth 100000 in
theorem c_M_areAlike (z : zZ) (d : Nat) (v0 : Int) (v1 : Int) (v2 : Int) (v3 : Int) (v4 : Int) (v5 : Int) (μ : Mu) : mC z (d + 1) 196 [(2, v0), (0, v1), (0, v2), (2, v3), (0, v4), (0, v5)] μ = bif decide (v2 = v5) then (f_M_areAlike_11 z d v0 v1 v2 v3 v4 0 μ) else (some (0, μ)) := by
  rw [mC_succ q_M_areAlike rfl rfl rfl]
  rw [mE_bk (M := q_M_areAlike) k_M_areAlike.1 k_M_areAlike.2 [11, 35] 400]
  have key : ∀ (C : Nat → List zv → Mu → mR) (E : Nat → List zv → List zv → Mu → mR), mbk C E q_M_areAlike.1 q_M_areAlike.2.1 z q_M_areAlike.2.2.2 [11, 35] 400 (zfind q_M_areAlike.2.2.2 0) (zentry q_M_areAlike.2.2.1 [(2, v0), (0, v1), (0, v2), (2, v3), (0, v4), (0, v5)]) [] μ = bif decide (v2 = v5) then (g_M_areAlike_11 E v0 v1 v2 v3 v4 0 μ) else (some (0, μ)) := by
    intro C E
    rfl
  exact key _ _
set_option maxRecDepth 100000 in
theorem e_M_areAlike_11 (z : zZ) (d : Nat) (v0 : Int) (v1 : Int) (v2 : Int) (v3 : Int) (v4 : Int) (v6 : Int) (μ : Mu) : f_M_areAlike_11 z d v0 v1 v2 v3 v4 v6 μ = bif decide (v2 ≤ v6) then (some (1, μ)) else (gA v0 (zw (v1 + v6)) (gA v3 (zw (v4 + v6)) (bif decide (μ v0.toNat ((zw (v1 + v6)).toNat) = μ v3.toNat ((zw (v4 + v6)).toNat)) then (f_M_areAlike_35 z d v0 v1 v2 v3 v4 v6 μ) else (some (0, μ))))) := by
  show mE z d q_M_areAlike 11 [(2, v0), (0, v1), (0, v2), (2, v3), (0, v4), (9, 0), (0, v6)] [] μ = _
  rw [mE_bk (M := q_M_areAlike) k_M_areAlike.1 k_M_areAlike.2 [11, 35] 400]
  have key : ∀ (C : Nat → List zv → Mu → mR) (E : Nat → List zv → List zv → Mu → mR), mbk C E q_M_areAlike.1 q_M_areAlike.2.1 z q_M_areAlike.2.2.2 [11, 35] 400 (zfind q_M_areAlike.2.2.2 11) [(2, v0), (0, v1), (0, v2), (2, v3), (0, v4), (9, 0), (0, v6)] [] μ = bif decide (v2 ≤ v6) then (some (1, μ)) else (gA v0 (zw (v1 + v6)) (gA v3 (zw (v4 + v6)) (bif decide (μ v0.toNat ((zw (v1 + v6)).toNat) = μ v3.toNat ((zw (v4 + v6)).toNat)) then (g_M_areAlike_35 E v0 v1 v2 v3 v4 v6 μ) else (some (0, μ))))) := by
    intro C E
    rfl
  exact key _ _
set_option maxRecDepth 100000 in
theorem e_M_areAlike_35 (z : zZ) (d : Nat) (v0 : Int) (v1 : Int) (v2 : Int) (v3 : Int) (v4 : Int) (v6 : Int) (μ : Mu) : f_M_areAlike_35 z d v0 v1 v2 v3 v4 v6 μ = f_M_areAlike_11 z d v0 v1 v2 v3 v4 (zw (v6 + 1)) μ := by
  show mE z d q_M_areAlike 35 [(2, v0), (0, v1), (0, v2), (2, v3), (0, v4), (9, 0), (0, v6)] [] μ = _
  rw [mE_bk (M := q_M_areAlike) k_M_areAlike.1 k_M_areAlike.2 [11, 35] 400]
  have key : ∀ (C : Nat → List zv → Mu → mR) (E : Nat → List zv → List zv → Mu → mR), mbk C E q_M_areAlike.1 q_M_areAlike.2.1 z q_M_areAlike.2.2.2 [11, 35] 400 (zfind q_M_areAlike.2.2.2 35) [(2, v0), (0, v1), (0, v2), (2, v3), (0, v4), (9, 0), (0, v6)] [] μ = g_M_areAlike_11 E v0 v1 v2 v3 v4 (zw (v6 + 1)) μ := by
    intro C E
    rfl
  exact key _ _
theorem k_M_takes : zprK q_M_takes.2.2.2 = true ∧ zinc q_M_takes.2.2.2 = true := by decide +kernel
set_option maxRecDepth 100000 in
theorem c_M_takes (z : zZ) (d : Nat) (v1 : Int) (μ : Mu) : mC z (d + 1) 197 [(2, 86), (0, v1)] μ = (mC z d 193 [(2, 86)] μ).bind fun q1 => (bif decide (q1.1 = v1) then (some (1, zup q1.2 86 10 (zw ((q1.2 86 10) + 1)))) else ((mC z d 194 [(2, 86), (0, 1), (0, q1.2 86 10)] q1.2).bind fun q2 => (g01 q2.1 (some (q2.1, q2.2))))) := by
  rw [mC_succ q_M_takes rfl rfl rfl]
  rw [mE_bk (M := q_M_takes) k_M_takes.1 k_M_takes.2 [] 400]
  have key : ∀ (C : Nat → List zv → Mu → mR) (E : Nat → List zv → List zv → Mu → mR), mbk C E q_M_takes.1 q_M_takes.2.1 z q_M_takes.2.2.2 [] 400 (zfind q_M_takes.2.2.2 0) (zentry q_M_takes.2.2.1 [(2, 86), (0, v1)]) [] μ = (C 193 [(2, 86)] μ).bind fun q1 => (bif decide (q1.1 = v1) then (some (1, zup q1.2 86 10 (zw ((q1.2 86 10) + 1)))) else ((C 194 [(2, 86), (0, 1), (0, q1.2 86 10)] q1.2).bind fun q2 => (g01 q2.1 (some (q2.1, q2.2))))) := by
    intro C E
    rfl
  exact key _ _
def g_M_manyOf_15 (E : Nat → List zv → List zv → Mu → mR) (v100 : Int) (μ : Mu) : mR := E 15 [(9, 0), (9, 0)] [(0, v100)] μ
noncomputable def f_M_manyOf_15 (z : zZ) (d : Nat) (v100 : Int) (μ : Mu) : mR := g_M_manyOf_15 (fun pc ls st μ => mE z d q_M_manyOf pc ls st μ) v100 μ
theorem k_M_manyOf : zprK q_M_manyOf.2.2.2 = true ∧ zinc q_M_manyOf.2.2.2 = true := by decide +kernel
set_option maxRecDepth 100000 in
theorem c_M_manyOf (z : zZ) (d : Nat) (v1 : Int) (μ : Mu) : mC z (d + 1) 198 [(2, 86), (0, v1)] μ = bif !decide (v1 = 0) then (f_M_manyOf_15 z d (μ 86 15) μ) else (f_M_manyOf_15 z d (μ 86 14) μ) := by
  rw [mC_succ q_M_manyOf rfl rfl rfl]
  rw [mE_bk (M := q_M_manyOf) k_M_manyOf.1 k_M_manyOf.2 [15] 400]
  have key : ∀ (C : Nat → List zv → Mu → mR) (E : Nat → List zv → List zv → Mu → mR), mbk C E q_M_manyOf.1 q_M_manyOf.2.1 z q_M_manyOf.2.2.2 [15] 400 (zfind q_M_manyOf.2.2.2 0) (zentry q_M_manyOf.2.2.1 [(2, 86), (0, v1)]) [] μ = bif !decide (v1 = 0) then (g_M_manyOf_15 E (μ 86 15) μ) else (g_M_manyOf_15 E (μ 86 14) μ) := by
    intro C E
    rfl
  exact key _ _
set_option maxRecDepth 100000 in
theorem e_M_manyOf_15 (z : zZ) (d : Nat) (v100 : Int) (μ : Mu) : f_M_manyOf_15 z d v100 μ = some (v100, μ) := by
  show mE z d q_M_manyOf 15 [(9, 0), (9, 0)] [(0, v100)] μ = _
  rw [mE_bk (M := q_M_manyOf) k_M_manyOf.1 k_M_manyOf.2 [15] 400]
  have key : ∀ (C : Nat → List zv → Mu → mR) (E : Nat → List zv → List zv → Mu → mR), mbk C E q_M_manyOf.1 q_M_manyOf.2.1 z q_M_manyOf.2.2.2 [15] 400 (zfind q_M_manyOf.2.2.2 15) [(9, 0), (9, 0)] [(0, v100)] μ = some (v100, μ) := by
    intro C E
    rfl
  exact key _ _
def g_M_fieldOf_15 (E : Nat → List zv → List zv → Mu → mR) (v100 : Int) (μ : Mu) : mR := E 15 [(9, 0), (9, 0)] [(0, v100)] μ
noncomputable def f_M_fieldOf_15 (z : zZ) (d : Nat) (v100 : Int) (μ : Mu) : mR := g_M_fieldOf_15 (fun pc ls st μ => mE z d q_M_fieldOf pc ls st μ) v100 μ
theorem k_M_fieldOf : zprK q_M_fieldOf.2.2.2 = true ∧ zinc q_M_fieldOf.2.2.2 = true := by decide +kernel
set_option maxRecDepth 100000 in
theorem c_M_fieldOf (z : zZ) (d : Nat) (v1 : Int) (μ : Mu) : mC z (d + 1) 199 [(2, 86), (0, v1)] μ = bif !decide (v1 = 0) then (f_M_fieldOf_15 z d (μ 86 17) μ) else (f_M_fieldOf_15 z d (μ 86 16) μ) := by
  rw [mC_succ q_M_fieldOf rfl rfl rfl]
  rw [mE_bk (M := q_M_fieldOf) k_M_fieldOf.1 k_M_fieldOf.2 [15] 400]
  have key : ∀ (C : Nat → List zv → Mu → mR) (E : Nat → List zv → List zv → Mu → mR), mbk C E q_M_fieldOf.1 q_M_fieldOf.2.1 z q_M_fieldOf.2.2.2 [15] 400 (zfind q_M_fieldOf.2.2.2 0) (zentry q_M_fieldOf.2.2.1 [(2, 86), (0, v1)]) [] μ = bif !decide (v1 = 0) then (g_M_fieldOf_15 E (μ 86 17) μ) else (g_M_fieldOf_15 E (μ 86 16) μ) := by
    intro C E
    rfl
  exact key _ _
set_option maxRecDepth 100000 in
theorem e_M_fieldOf_15 (z : zZ) (d : Nat) (v100 : Int) (μ : Mu) : f_M_fieldOf_15 z d v100 μ = some (v100, μ) := by
  show mE z d q_M_fieldOf 15 [(9, 0), (9, 0)] [(0, v100)] μ = _
  rw [mE_bk (M := q_M_fieldOf) k_M_fieldOf.1 k_M_fieldOf.2 [15] 400]
  have key : ∀ (C : Nat → List zv → Mu → mR) (E : Nat → List zv → List zv → Mu → mR), mbk C E q_M_fieldOf.1 q_M_fieldOf.2.1 z q_M_fieldOf.2.2.2 [15] 400 (zfind q_M_fieldOf.2.2.2 15) [(9, 0), (9, 0)] [(0, v100)] μ = some (v100, μ) := by
    intro C E
    rfl
  exact key _ _
