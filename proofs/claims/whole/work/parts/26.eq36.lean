def g_Tre_make_33 (E : Nat → List zv → List zv → Mu → mR) (v1 : Int) (v2 : Int) (v3 : Int) (v4 : Int) (v5 : Int) (v6 : Int) (v7 : Int) (μ : Mu) : mR := E 33 [(2, 55), (0, v1), (0, v2), (2, v3), (0, v4), (0, v5), (0, v6), (0, v7), (9, 0), (9, 0), (9, 0)] [] μ
noncomputable def f_Tre_make_33 (z : zZ) (d : Nat) (v1 : Int) (v2 : Int) (v3 : Int) (v4 : Int) (v5 : Int) (v6 : Int) (v7 : Int) (μ : Mu) : mR := g_Tre_make_33 (fun pc ls st μ => mE z d q_Tre_make pc ls st μ) v1 v2 v3 v4 v5 v6 v7 μ
def g_Tre_make_59 (E : Nat → List zv → List zv → Mu → mR) (v1 : Int) (v2 : Int) (v3 : Int) (v4 : Int) (v5 : Int) (v6 : Int) (v7 : Int) (μ : Mu) : mR := E 59 [(2, 55), (0, v1), (0, v2), (2, v3), (0, v4), (0, v5), (0, v6), (0, v7), (9, 0), (9, 0), (9, 0)] [] μ
noncomputable def f_Tre_make_59 (z : zZ) (d : Nat) (v1 : Int) (v2 : Int) (v3 : Int) (v4 : Int) (v5 : Int) (v6 : Int) (v7 : Int) (μ : Mu) : mR := g_Tre_make_59 (fun pc ls st μ => mE z d q_Tre_make pc ls st μ) v1 v2 v3 v4 v5 v6 v7 μ
def g_Tre_make_115 (E : Nat → List zv → List zv → Mu → mR) (v1 : Int) (v2 : Int) (v3 : Int) (v4 : Int) (v5 : Int) (v6 : Int) (v7 : Int) (v8 : Int) (v9 : Int) (v101 : Int) (v102 : Int) (v103 : Int) (v104 : Int) (μ : Mu) : mR := E 115 [(2, 55), (0, v1), (0, v2), (2, v3), (0, v4), (0, v5), (0, v6), (0, v7), (0, v8), (0, v9), (9, 0)] [(0, v104), (0, v103), (0, v102), (0, v101), (2, 55)] μ
noncomputable def f_Tre_make_115 (z : zZ) (d : Nat) (v1 : Int) (v2 : Int) (v3 : Int) (v4 : Int) (v5 : Int) (v6 : Int) (v7 : Int) (v8 : Int) (v9 : Int) (v101 : Int) (v102 : Int) (v103 : Int) (v104 : Int) (μ : Mu) : mR := g_Tre_make_115 (fun pc ls st μ => mE z d q_Tre_make pc ls st μ) v1 v2 v3 v4 v5 v6 v7 v8 v9 v101 v102 v103 v104 μ
def g_Tre_make_116 (E : Nat → List zv → List zv → Mu → mR) (v1 : Int) (v2 : Int) (v3 : Int) (v4 : Int) (v5 : Int) (v6 : Int) (v7 : Int) (v8 : Int) (v9 : Int) (v101 : Int) (v102 : Int) (v103 : Int) (v104 : Int) (v105 : Int) (μ : Mu) : mR := E 116 [(2, 55), (0, v1), (0, v2), (2, v3), (0, v4), (0, v5), (0, v6), (0, v7), (0, v8), (0, v9), (9, 0)] [(0, v105), (0, v104), (0, v103), (0, v102), (0, v101), (2, 55)] μ
noncomputable def f_Tre_make_116 (z : zZ) (d : Nat) (v1 : Int) (v2 : Int) (v3 : Int) (v4 : Int) (v5 : Int) (v6 : Int) (v7 : Int) (v8 : Int) (v9 : Int) (v101 : Int) (v102 : Int) (v103 : Int) (v104 : Int) (v105 : Int) (μ : Mu) : mR := g_Tre_make_116 (fun pc ls st μ => mE z d q_Tre_make pc ls st μ) v1 v2 v3 v4 v5 v6 v7 v8 v9 v101 v102 v103 v104 v105 μ
def g_Tre_make_141 (E : Nat → List zv → List zv → Mu → mR) (v1 : Int) (v2 : Int) (v3 : Int) (v4 : Int) (v5 : Int) (v6 : Int) (v7 : Int) (v8 : Int) (v9 : Int) (v10 : Int) (v101 : Int) (μ : Mu) : mR := E 141 [(2, 55), (0, v1), (0, v2), (2, v3), (0, v4), (0, v5), (0, v6), (0, v7), (0, v8), (0, v9), (0, v10)] [(0, v101), (2, 56)] μ
noncomputable def f_Tre_make_141 (z : zZ) (d : Nat) (v1 : Int) (v2 : Int) (v3 : Int) (v4 : Int) (v5 : Int) (v6 : Int) (v7 : Int) (v8 : Int) (v9 : Int) (v10 : Int) (v101 : Int) (μ : Mu) : mR := g_Tre_make_141 (fun pc ls st μ => mE z d q_Tre_make pc ls st μ) v1 v2 v3 v4 v5 v6 v7 v8 v9 v10 v101 μ
def g_Tre_make_146 (E : Nat → List zv → List zv → Mu → mR) (v1 : Int) (v2 : Int) (v3 : Int) (v4 : Int) (v5 : Int) (v6 : Int) (v7 : Int) (v8 : Int) (v9 : Int) (v10 : Int) (v101 : Int) (μ : Mu) : mR := E 146 [(2, 55), (0, v1), (0, v2), (2, v3), (0, v4), (0, v5), (0, v6), (0, v7), (0, v8), (0, v9), (0, v10)] [(0, v101), (2, 56)] μ
noncomputable def f_Tre_make_146 (z : zZ) (d : Nat) (v1 : Int) (v2 : Int) (v3 : Int) (v4 : Int) (v5 : Int) (v6 : Int) (v7 : Int) (v8 : Int) (v9 : Int) (v10 : Int) (v101 : Int) (μ : Mu) : mR := g_Tre_make_146 (fun pc ls st μ => mE z d q_Tre_make pc ls st μ) v1 v2 v3 v4 v5 v6 v7 v8 v9 v10 v101 μ
def g_Tre_make_148 (E : Nat → List zv → List zv → Mu → mR) (v1 : Int) (v2 : Int) (v3 : Int) (v4 : Int) (v5 : Int) (v6 : Int) (v7 : Int) (v8 : Int) (v9 : Int) (v10 : Int) (v101 : Int) (v102 : Int) (μ : Mu) : mR := E 148 [(2, 55), (0, v1), (0, v2), (2, v3), (0, v4), (0, v5), (0, v6), (0, v7), (0, v8), (0, v9), (0, v10)] [(0, v102), (0, v101), (2, 56)] μ
noncomputable def f_Tre_make_148 (z : zZ) (d : Nat) (v1 : Int) (v2 : Int) (v3 : Int) (v4 : Int) (v5 : Int) (v6 : Int) (v7 : Int) (v8 : Int) (v9 : Int) (v10 : Int) (v101 : Int) (v102 : Int) (μ : Mu) : mR := g_Tre_make_148 (fun pc ls st μ => mE z d q_Tre_make pc ls st μ) v1 v2 v3 v4 v5 v6 v7 v8 v9 v10 v101 v102 μ
def g_Tre_make_171 (E : Nat → List zv → List zv → Mu → mR) (v1 : Int) (v2 : Int) (v3 : Int) (v4 : Int) (v5 : Int) (v6 : Int) (v7 : Int) (v8 : Int) (v9 : Int) (v10 : Int) (μ : Mu) : mR := E 171 [(2, 55), (0, v1), (0, v2), (2, v3), (0, v4), (0, v5), (0, v6), (0, v7), (0, v8), (0, v9), (0, v10)] [] μ
noncomputable def f_Tre_make_171 (z : zZ) (d : Nat) (v1 : Int) (v2 : Int) (v3 : Int) (v4 : Int) (v5 : Int) (v6 : Int) (v7 : Int) (v8 : Int) (v9 : Int) (v10 : Int) (μ : Mu) : mR := g_Tre_make_171 (fun pc ls st μ => mE z d q_Tre_make pc ls st μ) v1 v2 v3 v4 v5 v6 v7 v8 v9 v10 μ
def g_Tre_make_174 (E : Nat → List zv → List zv → Mu → mR) (v1 : Int) (v2 : Int) (v3 : Int) (v4 : Int) (v5 : Int) (v6 : Int) (v7 : Int) (v8 : Int) (v9 : Int) (v10 : Int) (μ : Mu) : mR := E 174 [(2, 55), (0, v1), (0, v2), (2, v3), (0, v4), (0, v5), (0, v6), (0, v7), (0, v8), (0, v9), (0, v10)] [] μ
noncomputable def f_Tre_make_174 (z : zZ) (d : Nat) (v1 : Int) (v2 : Int) (v3 : Int) (v4 : Int) (v5 : Int) (v6 : Int) (v7 : Int) (v8 : Int) (v9 : Int) (v10 : Int) (μ : Mu) : mR := g_Tre_make_174 (fun pc ls st μ => mE z d q_Tre_make pc ls st μ) v1 v2 v3 v4 v5 v6 v7 v8 v9 v10 μ
def g_Tre_make_186 (E : Nat → List zv → List zv → Mu → mR) (v1 : Int) (v2 : Int) (v3 : Int) (v4 : Int) (v5 : Int) (v6 : Int) (v7 : Int) (μ : Mu) : mR := E 186 [(2, 55), (0, v1), (0, v2), (2, v3), (0, v4), (0, v5), (0, v6), (0, v7), (9, 0), (9, 0), (9, 0)] [] μ
noncomputable def f_Tre_make_186 (z : zZ) (d : Nat) (v1 : Int) (v2 : Int) (v3 : Int) (v4 : Int) (v5 : Int) (v6 : Int) (v7 : Int) (μ : Mu) : mR := g_Tre_make_186 (fun pc ls st μ => mE z d q_Tre_make pc ls st μ) v1 v2 v3 v4 v5 v6 v7 μ
def g_Tre_make_189 (E : Nat → List zv → List zv → Mu → mR) (v1 : Int) (v2 : Int) (v3 : Int) (v4 : Int) (v5 : Int) (v6 : Int) (v7 : Int) (μ : Mu) : mR := E 189 [(2, 55), (0, v1), (0, v2), (2, v3), (0, v4), (0, v5), (0, v6), (0, v7), (9, 0), (9, 0), (9, 0)] [] μ
noncomputable def f_Tre_make_189 (z : zZ) (d : Nat) (v1 : Int) (v2 : Int) (v3 : Int) (v4 : Int) (v5 : Int) (v6 : Int) (v7 : Int) (μ : Mu) : mR := g_Tre_make_189 (fun pc ls st μ => mE z d q_Tre_make pc ls st μ) v1 v2 v3 v4 v5 v6 v7 μ
def g_Tre_make_192 (E : Nat → List zv → List zv → Mu → mR) (μ : Mu) : mR := E 192 [(9, 0), (9, 0), (9, 0), (9, 0), (9, 0), (9, 0), (9, 0), (9, 0), (9, 0), (9, 0), (9, 0)] [] μ
noncomputable def f_Tre_make_192 (z : zZ) (d : Nat) (μ : Mu) : mR := g_Tre_make_192 (fun pc ls st μ => mE z d q_Tre_make pc ls st μ) μ
theorem k_Tre_make : zprK q_Tre_make.2.2.2 = true ∧ zinc q_Tre_make.2.2.2 = true := by decide +kernel
set_option maxRecDepth 100000 in
theorem c_Tre_make (z : zZ) (d : Nat) (v1 : Int) (v2 : Int) (v3 : Int) (μ : Mu) : mC z (d + 1) 129 [(2, 55), (0, v1), (0, v2), (2, v3)] μ = (mC z d 68 [(0, v1)] μ).bind fun q1 => ((mC z d 68 [(0, v2)] q1.2).bind fun q2 => ((mC z d 130 [(2, 55), (0, v1), (0, v2), (0, q1.1), (0, q2.1)] q2.2).bind fun q3 => (f_Tre_make_33 z d v1 v2 v3 q1.1 q2.1 0 0 (zup q3.2 55 1 0)))) := by
  rw [mC_succ q_Tre_make rfl rfl rfl]
  rw [mE_bk (M := q_Tre_make) k_Tre_make.1 k_Tre_make.2 [33, 59, 115, 116, 141, 146, 148, 171, 174, 186, 189, 192] 400]
  have key : ∀ (C : Nat → List zv → Mu → mR) (E : Nat → List zv → List zv → Mu → mR), mbk C E q_Tre_make.1 q_Tre_make.2.1 z q_Tre_make.2.2.2 [33, 59, 115, 116, 141, 146, 148, 171, 174, 186, 189, 192] 400 (zfind q_Tre_make.2.2.2 0) (zentry q_Tre_make.2.2.1 [(2, 55), (0, v1), (0, v2), (2, v3)]) [] μ = (C 68 [(0, v1)] μ).bind fun q1 => ((C 68 [(0, v2)] q1.2).bind fun q2 => ((C 130 [(2, 55), (0, v1), (0, v2), (0, q1.1), (0, q2.1)] q2.2).bind fun q3 => (g_Tre_make_33 E v1 v2 v3 q1.1 q2.1 0 0 (zup q3.2 55 1 0)))) := by
    intro C E
    rfl
  exact key _ _
set_option maxRecDepth 100000 in
theorem e_Tre_make_33 (z : zZ) (d : Nat) (v1 : Int) (v2 : Int) (v3 : Int) (v4 : Int) (v5 : Int) (v6 : Int) (v7 : Int) (μ : Mu) : f_Tre_make_33 z d v1 v2 v3 v4 v5 v6 v7 μ = bif decide (16 ≤ μ 55 1) then (f_Tre_make_192 z d μ) else (bif decide (v6 < v4) then (f_Tre_make_59 z d v1 v2 v3 v4 v5 v6 v7 μ) else (bif decide (v5 ≤ v7) then (f_Tre_make_192 z d μ) else (f_Tre_make_59 z d v1 v2 v3 v4 v5 v6 v7 μ))) := by
  show mE z d q_Tre_make 33 [(2, 55), (0, v1), (0, v2), (2, v3), (0, v4), (0, v5), (0, v6), (0, v7), (9, 0), (9, 0), (9, 0)] [] μ = _
  rw [mE_bk (M := q_Tre_make) k_Tre_make.1 k_Tre_make.2 [33, 59, 115, 116, 141, 146, 148, 171, 174, 186, 189, 192] 400]
  have key : ∀ (C : Nat → List zv → Mu → mR) (E : Nat → List zv → List zv → Mu → mR), mbk C E q_Tre_make.1 q_Tre_make.2.1 z q_Tre_make.2.2.2 [33, 59, 115, 116, 141, 146, 148, 171, 174, 186, 189, 192] 400 (zfind q_Tre_make.2.2.2 33) [(2, 55), (0, v1), (0, v2), (2, v3), (0, v4), (0, v5), (0, v6), (0, v7), (9, 0), (9, 0), (9, 0)] [] μ = bif decide (16 ≤ μ 55 1) then (g_Tre_make_192 E μ) else (bif decide (v6 < v4) then (g_Tre_make_59 E v1 v2 v3 v4 v5 v6 v7 μ) else (bif decide (v5 ≤ v7) then (g_Tre_make_192 E μ) else (g_Tre_make_59 E v1 v2 v3 v4 v5 v6 v7 μ))) := by
    intro C E
    rfl
  exact key _ _
set_option maxRecDepth 100000 in
theorem e_Tre_make_192 (z : zZ) (d : Nat) (μ : Mu) : f_Tre_make_192 z d μ = some (0, μ) := by
  show mE z d q_Tre_make 192 [(9, 0), (9, 0), (9, 0), (9, 0), (9, 0), (9, 0), (9, 0), (9, 0), (9, 0), (9, 0), (9, 0)] [] μ = _
  rw [mE_bk (M := q_Tre_make) k_Tre_make.1 k_Tre_make.2 [33, 59, 115, 116, 141, 146, 148, 171, 174, 186, 189, 192] 400]
  have key : ∀ (C : Nat → List zv → Mu → mR) (E : Nat → List zv → List zv → Mu → mR), mbk C E q_Tre_make.1 q_Tre_make.2.1 z q_Tre_make.2.2.2 [33, 59, 115, 116, 141, 146, 148, 171, 174, 186, 189, 192] 400 (zfind q_Tre_make.2.2.2 192) [(9, 0), (9, 0), (9, 0), (9, 0), (9, 0), (9, 0), (9, 0), (9, 0), (9, 0), (9, 0), (9, 0)] [] μ = some (0, μ) := by
    intro C E
    rfl
  exact key _ _
set_option maxRecDepth 100000 in
theorem e_Tre_make_59 (z : zZ) (d : Nat) (v1 : Int) (v2 : Int) (v3 : Int) (v4 : Int) (v5 : Int) (v6 : Int) (v7 : Int) (μ : Mu) : f_Tre_make_59 z d v1 v2 v3 v4 v5 v6 v7 μ = (mC z d 41 [(0, v1), (0, v6)] μ).bind fun q1 => ((mC z d 41 [(0, v2), (0, v7)] q1.2).bind fun q2 => ((mC z d 13 [(0, q1.1)] q2.2).bind fun q3 => (bif decide (q3.1 = 0) then (f_Tre_make_115 z d v1 v2 v3 v4 v5 v6 v7 q1.1 q2.1 v6 v7 v4 v5 q3.2) else ((mC z d 13 [(0, q2.1)] q3.2).bind fun q4 => (bif decide (q4.1 = 0) then (f_Tre_make_115 z d v1 v2 v3 v4 v5 v6 v7 q1.1 q2.1 v6 v7 v4 v5 q4.2) else (gA v3 q1.1 (gA v3 q2.1 (bif decide (q4.2 v3.toNat q2.1.toNat ≤ q4.2 v3.toNat q1.1.toNat) then (f_Tre_make_115 z d v1 v2 v3 v4 v5 v6 v7 q1.1 q2.1 v6 v7 v4 v5 q4.2) else (f_Tre_make_116 z d v1 v2 v3 v4 v5 v6 v7 q1.1 q2.1 v6 v7 v4 v5 1 q4.2))))))))) := by
  show mE z d q_Tre_make 59 [(2, 55), (0, v1), (0, v2), (2, v3), (0, v4), (0, v5), (0, v6), (0, v7), (9, 0), (9, 0), (9, 0)] [] μ = _
  rw [mE_bk (M := q_Tre_make) k_Tre_make.1 k_Tre_make.2 [33, 59, 115, 116, 141, 146, 148, 171, 174, 186, 189, 192] 400]
  have key : ∀ (C : Nat → List zv → Mu → mR) (E : Nat → List zv → List zv → Mu → mR), mbk C E q_Tre_make.1 q_Tre_make.2.1 z q_Tre_make.2.2.2 [33, 59, 115, 116, 141, 146, 148, 171, 174, 186, 189, 192] 400 (zfind q_Tre_make.2.2.2 59) [(2, 55), (0, v1), (0, v2), (2, v3), (0, v4), (0, v5), (0, v6), (0, v7), (9, 0), (9, 0), (9, 0)] [] μ = (C 41 [(0, v1), (0, v6)] μ).bind fun q1 => ((C 41 [(0, v2), (0, v7)] q1.2).bind fun q2 => ((C 13 [(0, q1.1)] q2.2).bind fun q3 => (bif decide (q3.1 = 0) then (g_Tre_make_115 E v1 v2 v3 v4 v5 v6 v7 q1.1 q2.1 v6 v7 v4 v5 q3.2) else ((C 13 [(0, q2.1)] q3.2).bind fun q4 => (bif decide (q4.1 = 0) then (g_Tre_make_115 E v1 v2 v3 v4 v5 v6 v7 q1.1 q2.1 v6 v7 v4 v5 q4.2) else (gA v3 q1.1 (gA v3 q2.1 (bif decide (q4.2 v3.toNat q2.1.toNat ≤ q4.2 v3.toNat q1.1.toNat) then (g_Tre_make_115 E v1 v2 v3 v4 v5 v6 v7 q1.1 q2.1 v6 v7 v4 v5 q4.2) else (g_Tre_make_116 E v1 v2 v3 v4 v5 v6 v7 q1.1 q2.1 v6 v7 v4 v5 1 q4.2))))))))) := by
    intro C E
    rfl
  exact key _ _
set_option maxRecDepth 100000 in
theorem e_Tre_make_115 (z : zZ) (d : Nat) (v1 : Int) (v2 : Int) (v3 : Int) (v4 : Int) (v5 : Int) (v6 : Int) (v7 : Int) (v8 : Int) (v9 : Int) (v101 : Int) (v102 : Int) (v103 : Int) (v104 : Int) (μ : Mu) : f_Tre_make_115 z d v1 v2 v3 v4 v5 v6 v7 v8 v9 v101 v102 v103 v104 μ = f_Tre_make_116 z d v1 v2 v3 v4 v5 v6 v7 v8 v9 v101 v102 v103 v104 0 μ := by
  show mE z d q_Tre_make 115 [(2, 55), (0, v1), (0, v2), (2, v3), (0, v4), (0, v5), (0, v6), (0, v7), (0, v8), (0, v9), (9, 0)] [(0, v104), (0, v103), (0, v102), (0, v101), (2, 55)] μ = _
  rw [mE_bk (M := q_Tre_make) k_Tre_make.1 k_Tre_make.2 [33, 59, 115, 116, 141, 146, 148, 171, 174, 186, 189, 192] 400]
  have key : ∀ (C : Nat → List zv → Mu → mR) (E : Nat → List zv → List zv → Mu → mR), mbk C E q_Tre_make.1 q_Tre_make.2.1 z q_Tre_make.2.2.2 [33, 59, 115, 116, 141, 146, 148, 171, 174, 186, 189, 192] 400 (zfind q_Tre_make.2.2.2 115) [(2, 55), (0, v1), (0, v2), (2, v3), (0, v4), (0, v5), (0, v6), (0, v7), (0, v8), (0, v9), (9, 0)] [(0, v104), (0, v103), (0, v102), (0, v101), (2, 55)] μ = g_Tre_make_116 E v1 v2 v3 v4 v5 v6 v7 v8 v9 v101 v102 v103 v104 0 μ := by
    intro C E
    rfl
  exact key _ _
set_option maxRecDepth 100000 in
theorem e_Tre_make_116 (z : zZ) (d : Nat) (v1 : Int) (v2 : Int) (v3 : Int) (v4 : Int) (v5 : Int) (v6 : Int) (v7 : Int) (v8 : Int) (v9 : Int) (v101 : Int) (v102 : Int) (v103 : Int) (v104 : Int) (v105 : Int) (μ : Mu) : f_Tre_make_116 z d v1 v2 v3 v4 v5 v6 v7 v8 v9 v101 v102 v103 v104 v105 μ = (mC z d 132 [(2, 55), (0, v101), (0, v102), (0, v103), (0, v104), (0, v105)] μ).bind fun q1 => (bif decide (v8 = v9) then (f_Tre_make_141 z d v1 v2 v3 v4 v5 v6 v7 v8 v9 q1.1 (q1.2 55 1) q1.2) else (bif decide (q1.1 = 0) then (f_Tre_make_146 z d v1 v2 v3 v4 v5 v6 v7 v8 v9 q1.1 (q1.2 55 1) q1.2) else (f_Tre_make_141 z d v1 v2 v3 v4 v5 v6 v7 v8 v9 q1.1 (q1.2 55 1) q1.2))) := by
  show mE z d q_Tre_make 116 [(2, 55), (0, v1), (0, v2), (2, v3), (0, v4), (0, v5), (0, v6), (0, v7), (0, v8), (0, v9), (9, 0)] [(0, v105), (0, v104), (0, v103), (0, v102), (0, v101), (2, 55)] μ = _
  rw [mE_bk (M := q_Tre_make) k_Tre_make.1 k_Tre_make.2 [33, 59, 115, 116, 141, 146, 148, 171, 174, 186, 189, 192] 400]
  have key : ∀ (C : Nat → List zv → Mu → mR) (E : Nat → List zv → List zv → Mu → mR), mbk C E q_Tre_make.1 q_Tre_make.2.1 z q_Tre_make.2.2.2 [33, 59, 115, 116, 141, 146, 148, 171, 174, 186, 189, 192] 400 (zfind q_Tre_make.2.2.2 116) [(2, 55), (0, v1), (0, v2), (2, v3), (0, v4), (0, v5), (0, v6), (0, v7), (0, v8), (0, v9), (9, 0)] [(0, v105), (0, v104), (0, v103), (0, v102), (0, v101), (2, 55)] μ = (C 132 [(2, 55), (0, v101), (0, v102), (0, v103), (0, v104), (0, v105)] μ).bind fun q1 => (bif decide (v8 = v9) then (g_Tre_make_141 E v1 v2 v3 v4 v5 v6 v7 v8 v9 q1.1 (q1.2 55 1) q1.2) else (bif decide (q1.1 = 0) then (g_Tre_make_146 E v1 v2 v3 v4 v5 v6 v7 v8 v9 q1.1 (q1.2 55 1) q1.2) else (g_Tre_make_141 E v1 v2 v3 v4 v5 v6 v7 v8 v9 q1.1 (q1.2 55 1) q1.2))) := by
    intro C E
    rfl
  exact key _ _
set_option maxRecDepth 100000 in
theorem e_Tre_make_141 (z : zZ) (d : Nat) (v1 : Int) (v2 : Int) (v3 : Int) (v4 : Int) (v5 : Int) (v6 : Int) (v7 : Int) (v8 : Int) (v9 : Int) (v10 : Int) (v101 : Int) (μ : Mu) : f_Tre_make_141 z d v1 v2 v3 v4 v5 v6 v7 v8 v9 v10 v101 μ = f_Tre_make_148 z d v1 v2 v3 v4 v5 v6 v7 v8 v9 v10 v101 v8 μ := by
  show mE z d q_Tre_make 141 [(2, 55), (0, v1), (0, v2), (2, v3), (0, v4), (0, v5), (0, v6), (0, v7), (0, v8), (0, v9), (0, v10)] [(0, v101), (2, 56)] μ = _
  rw [mE_bk (M := q_Tre_make) k_Tre_make.1 k_Tre_make.2 [33, 59, 115, 116, 141, 146, 148, 171, 174, 186, 189, 192] 400]
  have key : ∀ (C : Nat → List zv → Mu → mR) (E : Nat → List zv → List zv → Mu → mR), mbk C E q_Tre_make.1 q_Tre_make.2.1 z q_Tre_make.2.2.2 [33, 59, 115, 116, 141, 146, 148, 171, 174, 186, 189, 192] 400 (zfind q_Tre_make.2.2.2 141) [(2, 55), (0, v1), (0, v2), (2, v3), (0, v4), (0, v5), (0, v6), (0, v7), (0, v8), (0, v9), (0, v10)] [(0, v101), (2, 56)] μ = g_Tre_make_148 E v1 v2 v3 v4 v5 v6 v7 v8 v9 v10 v101 v8 μ := by
    intro C E
    rfl
  exact key _ _
set_option maxRecDepth 100000 in
theorem e_Tre_make_146 (z : zZ) (d : Nat) (v1 : Int) (v2 : Int) (v3 : Int) (v4 : Int) (v5 : Int) (v6 : Int) (v7 : Int) (v8 : Int) (v9 : Int) (v10 : Int) (v101 : Int) (μ : Mu) : f_Tre_make_146 z d v1 v2 v3 v4 v5 v6 v7 v8 v9 v10 v101 μ = f_Tre_make_148 z d v1 v2 v3 v4 v5 v6 v7 v8 v9 v10 v101 v9 μ := by
  show mE z d q_Tre_make 146 [(2, 55), (0, v1), (0, v2), (2, v3), (0, v4), (0, v5), (0, v6), (0, v7), (0, v8), (0, v9), (0, v10)] [(0, v101), (2, 56)] μ = _
  rw [mE_bk (M := q_Tre_make) k_Tre_make.1 k_Tre_make.2 [33, 59, 115, 116, 141, 146, 148, 171, 174, 186, 189, 192] 400]
  have key : ∀ (C : Nat → List zv → Mu → mR) (E : Nat → List zv → List zv → Mu → mR), mbk C E q_Tre_make.1 q_Tre_make.2.1 z q_Tre_make.2.2.2 [33, 59, 115, 116, 141, 146, 148, 171, 174, 186, 189, 192] 400 (zfind q_Tre_make.2.2.2 146) [(2, 55), (0, v1), (0, v2), (2, v3), (0, v4), (0, v5), (0, v6), (0, v7), (0, v8), (0, v9), (0, v10)] [(0, v101), (2, 56)] μ = g_Tre_make_148 E v1 v2 v3 v4 v5 v6 v7 v8 v9 v10 v101 v9 μ := by
    intro C E
    rfl
  exact key _ _
set_option maxRecDepth 100000 in
theorem e_Tre_make_148 (z : zZ) (d : Nat) (v1 : Int) (v2 : Int) (v3 : Int) (v4 : Int) (v5 : Int) (v6 : Int) (v7 : Int) (v8 : Int) (v9 : Int) (v10 : Int) (v101 : Int) (v102 : Int) (μ : Mu) : f_Tre_make_148 z d v1 v2 v3 v4 v5 v6 v7 v8 v9 v10 v101 v102 μ = gI v101 16 (bif decide (v8 = v9) then (f_Tre_make_171 z d v1 v2 v3 v4 v5 v6 v7 v8 v9 v10 (zup (zup μ 56 v101.toNat v102) 55 1 (zw ((μ 55 1) + 1)))) else (bif decide (v10 = 0) then (f_Tre_make_174 z d v1 v2 v3 v4 v5 v6 v7 v8 v9 v10 (zup (zup μ 56 v101.toNat v102) 55 1 (zw ((μ 55 1) + 1)))) else (f_Tre_make_171 z d v1 v2 v3 v4 v5 v6 v7 v8 v9 v10 (zup (zup μ 56 v101.toNat v102) 55 1 (zw ((μ 55 1) + 1)))))) := by
  show mE z d q_Tre_make 148 [(2, 55), (0, v1), (0, v2), (2, v3), (0, v4), (0, v5), (0, v6), (0, v7), (0, v8), (0, v9), (0, v10)] [(0, v102), (0, v101), (2, 56)] μ = _
  rw [mE_bk (M := q_Tre_make) k_Tre_make.1 k_Tre_make.2 [33, 59, 115, 116, 141, 146, 148, 171, 174, 186, 189, 192] 400]
  have key : ∀ (C : Nat → List zv → Mu → mR) (E : Nat → List zv → List zv → Mu → mR), mbk C E q_Tre_make.1 q_Tre_make.2.1 z q_Tre_make.2.2.2 [33, 59, 115, 116, 141, 146, 148, 171, 174, 186, 189, 192] 400 (zfind q_Tre_make.2.2.2 148) [(2, 55), (0, v1), (0, v2), (2, v3), (0, v4), (0, v5), (0, v6), (0, v7), (0, v8), (0, v9), (0, v10)] [(0, v102), (0, v101), (2, 56)] μ = gI v101 16 (bif decide (v8 = v9) then (g_Tre_make_171 E v1 v2 v3 v4 v5 v6 v7 v8 v9 v10 (zup (zup μ 56 v101.toNat v102) 55 1 (zw ((μ 55 1) + 1)))) else (bif decide (v10 = 0) then (g_Tre_make_174 E v1 v2 v3 v4 v5 v6 v7 v8 v9 v10 (zup (zup μ 56 v101.toNat v102) 55 1 (zw ((μ 55 1) + 1)))) else (g_Tre_make_171 E v1 v2 v3 v4 v5 v6 v7 v8 v9 v10 (zup (zup μ 56 v101.toNat v102) 55 1 (zw ((μ 55 1) + 1)))))) := by
    intro C E
    rfl
  exact key _ _
set_option maxRecDepth 100000 in
theorem e_Tre_make_171 (z : zZ) (d : Nat) (v1 : Int) (v2 : Int) (v3 : Int) (v4 : Int) (v5 : Int) (v6 : Int) (v7 : Int) (v8 : Int) (v9 : Int) (v10 : Int) (μ : Mu) : f_Tre_make_171 z d v1 v2 v3 v4 v5 v6 v7 v8 v9 v10 μ = f_Tre_make_174 z d v1 v2 v3 v4 v5 (zw (v6 + 1)) v7 v8 v9 v10 μ := by
  show mE z d q_Tre_make 171 [(2, 55), (0, v1), (0, v2), (2, v3), (0, v4), (0, v5), (0, v6), (0, v7), (0, v8), (0, v9), (0, v10)] [] μ = _
  rw [mE_bk (M := q_Tre_make) k_Tre_make.1 k_Tre_make.2 [33, 59, 115, 116, 141, 146, 148, 171, 174, 186, 189, 192] 400]
  have key : ∀ (C : Nat → List zv → Mu → mR) (E : Nat → List zv → List zv → Mu → mR), mbk C E q_Tre_make.1 q_Tre_make.2.1 z q_Tre_make.2.2.2 [33, 59, 115, 116, 141, 146, 148, 171, 174, 186, 189, 192] 400 (zfind q_Tre_make.2.2.2 171) [(2, 55), (0, v1), (0, v2), (2, v3), (0, v4), (0, v5), (0, v6), (0, v7), (0, v8), (0, v9), (0, v10)] [] μ = g_Tre_make_174 E v1 v2 v3 v4 v5 (zw (v6 + 1)) v7 v8 v9 v10 μ := by
    intro C E
    rfl
  exact key _ _
set_option maxRecDepth 100000 in
theorem e_Tre_make_174 (z : zZ) (d : Nat) (v1 : Int) (v2 : Int) (v3 : Int) (v4 : Int) (v5 : Int) (v6 : Int) (v7 : Int) (v8 : Int) (v9 : Int) (v10 : Int) (μ : Mu) : f_Tre_make_174 z d v1 v2 v3 v4 v5 v6 v7 v8 v9 v10 μ = bif decide (v8 = v9) then (f_Tre_make_186 z d v1 v2 v3 v4 v5 v6 v7 μ) else (bif !decide (v10 = 0) then (f_Tre_make_189 z d v1 v2 v3 v4 v5 v6 v7 μ) else (f_Tre_make_186 z d v1 v2 v3 v4 v5 v6 v7 μ)) := by
  show mE z d q_Tre_make 174 [(2, 55), (0, v1), (0, v2), (2, v3), (0, v4), (0, v5), (0, v6), (0, v7), (0, v8), (0, v9), (0, v10)] [] μ = _
  rw [mE_bk (M := q_Tre_make) k_Tre_make.1 k_Tre_make.2 [33, 59, 115, 116, 141, 146, 148, 171, 174, 186, 189, 192] 400]
  have key : ∀ (C : Nat → List zv → Mu → mR) (E : Nat → List zv → List zv → Mu → mR), mbk C E q_Tre_make.1 q_Tre_make.2.1 z q_Tre_make.2.2.2 [33, 59, 115, 116, 141, 146, 148, 171, 174, 186, 189, 192] 400 (zfind q_Tre_make.2.2.2 174) [(2, 55), (0, v1), (0, v2), (2, v3), (0, v4), (0, v5), (0, v6), (0, v7), (0, v8), (0, v9), (0, v10)] [] μ = bif decide (v8 = v9) then (g_Tre_make_186 E v1 v2 v3 v4 v5 v6 v7 μ) else (bif !decide (v10 = 0) then (g_Tre_make_189 E v1 v2 v3 v4 v5 v6 v7 μ) else (g_Tre_make_186 E v1 v2 v3 v4 v5 v6 v7 μ)) := by
    intro C E
    rfl
  exact key _ _
set_option maxRecDepth 100000 in
theorem e_Tre_make_186 (z : zZ) (d : Nat) (v1 : Int) (v2 : Int) (v3 : Int) (v4 : Int) (v5 : Int) (v6 : Int) (v7 : Int) (μ : Mu) : f_Tre_make_186 z d v1 v2 v3 v4 v5 v6 v7 μ = f_Tre_make_189 z d v1 v2 v3 v4 v5 v6 (zw (v7 + 1)) μ := by
  show mE z d q_Tre_make 186 [(2, 55), (0, v1), (0, v2), (2, v3), (0, v4), (0, v5), (0, v6), (0, v7), (9, 0), (9, 0), (9, 0)] [] μ = _
  rw [mE_bk (M := q_Tre_make) k_Tre_make.1 k_Tre_make.2 [33, 59, 115, 116, 141, 146, 148, 171, 174, 186, 189, 192] 400]
  have key : ∀ (C : Nat → List zv → Mu → mR) (E : Nat → List zv → List zv → Mu → mR), mbk C E q_Tre_make.1 q_Tre_make.2.1 z q_Tre_make.2.2.2 [33, 59, 115, 116, 141, 146, 148, 171, 174, 186, 189, 192] 400 (zfind q_Tre_make.2.2.2 186) [(2, 55), (0, v1), (0, v2), (2, v3), (0, v4), (0, v5), (0, v6), (0, v7), (9, 0), (9, 0), (9, 0)] [] μ = g_Tre_make_189 E v1 v2 v3 v4 v5 v6 (zw (v7 + 1)) μ := by
    intro C E
    rfl
  exact key _ _
set_option maxRecDepth 100000 in
theorem e_Tre_make_189 (z : zZ) (d : Nat) (v1 : Int) (v2 : Int) (v3 : Int) (v4 : Int) (v5 : Int) (v6 : Int) (v7 : Int) (μ : Mu) : f_Tre_make_189 z d v1 v2 v3 v4 v5 v6 v7 μ = f_Tre_make_33 z d v1 v2 v3 v4 v5 v6 v7 μ := by
  show mE z d q_Tre_make 189 [(2, 55), (0, v1), (0, v2), (2, v3), (0, v4), (0, v5), (0, v6), (0, v7), (9, 0), (9, 0), (9, 0)] [] μ = _
  rw [mE_bk (M := q_Tre_make) k_Tre_make.1 k_Tre_make.2 [33, 59, 115, 116, 141, 146, 148, 171, 174, 186, 189, 192] 400]
  have key : ∀ (C : Nat → List zv → Mu → mR) (E : Nat → List zv → List zv → Mu → mR), mbk C E q_Tre_make.1 q_Tre_make.2.1 z q_Tre_make.2.2.2 [33, 59, 115, 116, 141, 146, 148, 171, 174, 186, 189, 192] 400 (zfind q_Tre_make.2.2.2 189) [(2, 55), (0, v1), (0, v2), (2, v3), (0, v4), (0, v5), (0, v6), (0, v7), (9, 0), (9, 0), (9, 0)] [] μ = g_Tre_make_33 E v1 v2 v3 v4 v5 v6 v7 μ := by
    intro C E
    rfl
  exact key _ _
def g_Tre_fillLeft_3 (E : Nat → List zv → List zv → Mu → mR) (v1 : Int) (v2 : Int) (v3 : Int) (v4 : Int) (v5 : Int) (μ : Mu) : mR := E 3 [(2, 55), (0, v1), (0, v2), (0, v3), (0, v4), (0, v5), (9, 0)] [] μ
noncomputable def f_Tre_fillLeft_3 (z : zZ) (d : Nat) (v1 : Int) (v2 : Int) (v3 : Int) (v4 : Int) (v5 : Int) (μ : Mu) : mR := g_Tre_fillLeft_3 (fun pc ls st μ => mE z d q_Tre_fillLeft pc ls st μ) v1 v2 v3 v4 v5 μ
def g_Tre_fillLeft_12 (E : Nat → List zv → List zv → Mu → mR) (v1 : Int) (v2 : Int) (v3 : Int) (v4 : Int) (v5 : Int) (v6 : Int) (μ : Mu) : mR := E 12 [(2, 55), (0, v1), (0, v2), (0, v3), (0, v4), (0, v5), (0, v6)] [] μ
noncomputable def f_Tre_fillLeft_12 (z : zZ) (d : Nat) (v1 : Int) (v2 : Int) (v3 : Int) (v4 : Int) (v5 : Int) (v6 : Int) (μ : Mu) : mR := g_Tre_fillLeft_12 (fun pc ls st μ => mE z d q_Tre_fillLeft pc ls st μ) v1 v2 v3 v4 v5 v6 μ
def g_Tre_fillLeft_49 (E : Nat → List zv → List zv → Mu → mR) (v1 : Int) (v2 : Int) (v3 : Int) (v4 : Int) (v5 : Int) (μ : Mu) : mR := E 49 [(2, 55), (0, v1), (0, v2), (0, v3), (0, v4), (0, v5), (9, 0)] [] μ
noncomputable def f_Tre_fillLeft_49 (z : zZ) (d : Nat) (v1 : Int) (v2 : Int) (v3 : Int) (v4 : Int) (v5 : Int) (μ : Mu) : mR := g_Tre_fillLeft_49 (fun pc ls st μ => mE z d q_Tre_fillLeft pc ls st μ) v1 v2 v3 v4 v5 μ
def g_Tre_fillLeft_55 (E : Nat → List zv → List zv → Mu → mR) (μ : Mu) : mR := E 55 [(9, 0), (9, 0), (9, 0), (9, 0), (9, 0), (9, 0), (9, 0)] [] μ
noncomputable def f_Tre_fillLeft_55 (z : zZ) (d : Nat) (μ : Mu) : mR := g_Tre_fillLeft_55 (fun pc ls st μ => mE z d q_Tre_fillLeft pc ls st μ) μ
theorem k_Tre_fillLeft : zprK q_Tre_fillLeft.2.2.2 = true ∧ zinc q_Tre_fillLeft.2.2.2 = true := by decide +kernel
set_option maxRecDepth 100000 in
theorem c_Tre_fillLeft (z : zZ) (d : Nat) (v1 : Int) (v2 : Int) (v3 : Int) (v4 : Int) (μ : Mu) : mC z (d + 1) 130 [(2, 55), (0, v1), (0, v2), (0, v3), (0, v4)] μ = f_Tre_fillLeft_3 z d v1 v2 v3 v4 v3 μ := by
  rw [mC_succ q_Tre_fillLeft rfl rfl rfl]
  rw [mE_bk (M := q_Tre_fillLeft) k_Tre_fillLeft.1 k_Tre_fillLeft.2 [3, 12, 49, 55] 400]
  have key : ∀ (C : Nat → List zv → Mu → mR) (E : Nat → List zv → List zv → Mu → mR), mbk C E q_Tre_fillLeft.1 q_Tre_fillLeft.2.1 z q_Tre_fillLeft.2.2.2 [3, 12, 49, 55] 400 (zfind q_Tre_fillLeft.2.2.2 0) (zentry q_Tre_fillLeft.2.2.1 [(2, 55), (0, v1), (0, v2), (0, v3), (0, v4)]) [] μ = g_Tre_fillLeft_3 E v1 v2 v3 v4 v3 μ := by
    intro C E
    rfl
  exact key _ _
set_option maxRecDepth 100000 in
theorem e_Tre_fillLeft_3 (z : zZ) (d : Nat) (v1 : Int) (v2 : Int) (v3 : Int) (v4 : Int) (v5 : Int) (μ : Mu) : f_Tre_fillLeft_3 z d v1 v2 v3 v4 v5 μ = bif decide (v5 < 0) then (f_Tre_fillLeft_55 z d μ) else (f_Tre_fillLeft_12 z d v1 v2 v3 v4 v5 v4 μ) := by
  show mE z d q_Tre_fillLeft 3 [(2, 55), (0, v1), (0, v2), (0, v3), (0, v4), (0, v5), (9, 0)] [] μ = _
  rw [mE_bk (M := q_Tre_fillLeft) k_Tre_fillLeft.1 k_Tre_fillLeft.2 [3, 12, 49, 55] 400]
  have key : ∀ (C : Nat → List zv → Mu → mR) (E : Nat → List zv → List zv → Mu → mR), mbk C E q_Tre_fillLeft.1 q_Tre_fillLeft.2.1 z q_Tre_fillLeft.2.2.2 [3, 12, 49, 55] 400 (zfind q_Tre_fillLeft.2.2.2 3) [(2, 55), (0, v1), (0, v2), (0, v3), (0, v4), (0, v5), (9, 0)] [] μ = bif decide (v5 < 0) then (g_Tre_fillLeft_55 E μ) else (g_Tre_fillLeft_12 E v1 v2 v3 v4 v5 v4 μ) := by
    intro C E
    rfl
  exact key _ _
set_option maxRecDepth 100000 in
theorem e_Tre_fillLeft_55 (z : zZ) (d : Nat) (μ : Mu) : f_Tre_fillLeft_55 z d μ = some (0, μ) := by
  show mE z d q_Tre_fillLeft 55 [(9, 0), (9, 0), (9, 0), (9, 0), (9, 0), (9, 0), (9, 0)] [] μ = _
  rw [mE_bk (M := q_Tre_fillLeft) k_Tre_fillLeft.1 k_Tre_fillLeft.2 [3, 12, 49, 55] 400]
  have key : ∀ (C : Nat → List zv → Mu → mR) (E : Nat → List zv → List zv → Mu → mR), mbk C E q_Tre_fillLeft.1 q_Tre_fillLeft.2.1 z q_Tre_fillLeft.2.2.2 [3, 12, 49, 55] 400 (zfind q_Tre_fillLeft.2.2.2 55) [(9, 0), (9, 0), (9, 0), (9, 0), (9, 0), (9, 0), (9, 0)] [] μ = some (0, μ) := by
    intro C E
    rfl
  exact key _ _
set_option maxRecDepth 100000 in
theorem e_Tre_fillLeft_12 (z : zZ) (d : Nat) (v1 : Int) (v2 : Int) (v3 : Int) (v4 : Int) (v5 : Int) (v6 : Int) (μ : Mu) : f_Tre_fillLeft_12 z d v1 v2 v3 v4 v5 v6 μ = bif decide (v6 < 0) then (f_Tre_fillLeft_49 z d v1 v2 v3 v4 v5 μ) else ((mC z d 131 [(2, 55), (0, v1), (0, v2), (0, v5), (0, v6), (0, v3), (0, v4)] μ).bind fun q1 => (gI (zw ((zw (v5 * 9)) + v6)) 81 (f_Tre_fillLeft_12 z d v1 v2 v3 v4 v5 (zw (v6 + (-1))) (zup q1.2 57 ((zw ((zw (v5 * 9)) + v6)).toNat) q1.1)))) := by
  show mE z d q_Tre_fillLeft 12 [(2, 55), (0, v1), (0, v2), (0, v3), (0, v4), (0, v5), (0, v6)] [] μ = _
  rw [mE_bk (M := q_Tre_fillLeft) k_Tre_fillLeft.1 k_Tre_fillLeft.2 [3, 12, 49, 55] 400]
  have key : ∀ (C : Nat → List zv → Mu → mR) (E : Nat → List zv → List zv → Mu → mR), mbk C E q_Tre_fillLeft.1 q_Tre_fillLeft.2.1 z q_Tre_fillLeft.2.2.2 [3, 12, 49, 55] 400 (zfind q_Tre_fillLeft.2.2.2 12) [(2, 55), (0, v1), (0, v2), (0, v3), (0, v4), (0, v5), (0, v6)] [] μ = bif decide (v6 < 0) then (g_Tre_fillLeft_49 E v1 v2 v3 v4 v5 μ) else ((C 131 [(2, 55), (0, v1), (0, v2), (0, v5), (0, v6), (0, v3), (0, v4)] μ).bind fun q1 => (gI (zw ((zw (v5 * 9)) + v6)) 81 (g_Tre_fillLeft_12 E v1 v2 v3 v4 v5 (zw (v6 + (-1))) (zup q1.2 57 ((zw ((zw (v5 * 9)) + v6)).toNat) q1.1)))) := by
    intro C E
    rfl
  exact key _ _
set_option maxRecDepth 100000 in
theorem e_Tre_fillLeft_49 (z : zZ) (d : Nat) (v1 : Int) (v2 : Int) (v3 : Int) (v4 : Int) (v5 : Int) (μ : Mu) : f_Tre_fillLeft_49 z d v1 v2 v3 v4 v5 μ = f_Tre_fillLeft_3 z d v1 v2 v3 v4 (zw (v5 + (-1))) μ := by
  show mE z d q_Tre_fillLeft 49 [(2, 55), (0, v1), (0, v2), (0, v3), (0, v4), (0, v5), (9, 0)] [] μ = _
  rw [mE_bk (M := q_Tre_fillLeft) k_Tre_fillLeft.1 k_Tre_fillLeft.2 [3, 12, 49, 55] 400]
  have key : ∀ (C : Nat → List zv → Mu → mR) (E : Nat → List zv → List zv → Mu → mR), mbk C E q_Tre_fillLeft.1 q_Tre_fillLeft.2.1 z q_Tre_fillLeft.2.2.2 [3, 12, 49, 55] 400 (zfind q_Tre_fillLeft.2.2.2 49) [(2, 55), (0, v1), (0, v2), (0, v3), (0, v4), (0, v5), (9, 0)] [] μ = g_Tre_fillLeft_3 E v1 v2 v3 v4 (zw (v5 + (-1))) μ := by
    intro C E
    rfl
  exact key _ _
def g_Tre_leftAt_12 (E : Nat → List zv → List zv → Mu → mR) (v1 : Int) (v2 : Int) (v3 : Int) (v4 : Int) (v5 : Int) (v6 : Int) (μ : Mu) : mR := E 12 [(2, 55), (0, v1), (0, v2), (0, v3), (0, v4), (0, v5), (0, v6)] [] μ
noncomputable def f_Tre_leftAt_12 (z : zZ) (d : Nat) (v1 : Int) (v2 : Int) (v3 : Int) (v4 : Int) (v5 : Int) (v6 : Int) (μ : Mu) : mR := g_Tre_leftAt_12 (fun pc ls st μ => mE z d q_Tre_leftAt pc ls st μ) v1 v2 v3 v4 v5 v6 μ
def g_Tre_leftAt_24 (E : Nat → List zv → List zv → Mu → mR) (v1 : Int) (v2 : Int) (v3 : Int) (v4 : Int) (μ : Mu) : mR := E 24 [(2, 55), (0, v1), (0, v2), (0, v3), (0, v4), (9, 0), (9, 0)] [] μ
noncomputable def f_Tre_leftAt_24 (z : zZ) (d : Nat) (v1 : Int) (v2 : Int) (v3 : Int) (v4 : Int) (μ : Mu) : mR := g_Tre_leftAt_24 (fun pc ls st μ => mE z d q_Tre_leftAt pc ls st μ) v1 v2 v3 v4 μ
def g_Tre_leftAt_57 (E : Nat → List zv → List zv → Mu → mR) (v3 : Int) (v4 : Int) (μ : Mu) : mR := E 57 [(2, 55), (9, 0), (9, 0), (0, v3), (0, v4), (9, 0), (9, 0)] [] μ
noncomputable def f_Tre_leftAt_57 (z : zZ) (d : Nat) (v3 : Int) (v4 : Int) (μ : Mu) : mR := g_Tre_leftAt_57 (fun pc ls st μ => mE z d q_Tre_leftAt pc ls st μ) v3 v4 μ
theorem k_Tre_leftAt : zprK q_Tre_leftAt.2.2.2 = true ∧ zinc q_Tre_leftAt.2.2.2 = true := by decide +kernel
set_option maxRecDepth 100000 in
theorem c_Tre_leftAt (z : zZ) (d : Nat) (v1 : Int) (v2 : Int) (v3 : Int) (v4 : Int) (v5 : Int) (v6 : Int) (μ : Mu) : mC z (d + 1) 131 [(2, 55), (0, v1), (0, v2), (0, v3), (0, v4), (0, v5), (0, v6)] μ = bif decide (v3 < v5) then (f_Tre_leftAt_12 z d v1 v2 v3 v4 v5 v6 μ) else (some (zw (v6 - v4), μ)) := by
  rw [mC_succ q_Tre_leftAt rfl rfl rfl]
  rw [mE_bk (M := q_Tre_leftAt) k_Tre_leftAt.1 k_Tre_leftAt.2 [12, 24, 57] 400]
  have key : ∀ (C : Nat → List zv → Mu → mR) (E : Nat → List zv → List zv → Mu → mR), mbk C E q_Tre_leftAt.1 q_Tre_leftAt.2.1 z q_Tre_leftAt.2.2.2 [12, 24, 57] 400 (zfind q_Tre_leftAt.2.2.2 0) (zentry q_Tre_leftAt.2.2.1 [(2, 55), (0, v1), (0, v2), (0, v3), (0, v4), (0, v5), (0, v6)]) [] μ = bif decide (v3 < v5) then (g_Tre_leftAt_12 E v1 v2 v3 v4 v5 v6 μ) else (some (zw (v6 - v4), μ)) := by
    intro C E
    rfl
  exact key _ _
set_option maxRecDepth 100000 in
theorem e_Tre_leftAt_12 (z : zZ) (d : Nat) (v1 : Int) (v2 : Int) (v3 : Int) (v4 : Int) (v5 : Int) (v6 : Int) (μ : Mu) : f_Tre_leftAt_12 z d v1 v2 v3 v4 v5 v6 μ = bif decide (v4 < v6) then (f_Tre_leftAt_24 z d v1 v2 v3 v4 μ) else (some (zw (v5 - v3), μ)) := by
  show mE z d q_Tre_leftAt 12 [(2, 55), (0, v1), (0, v2), (0, v3), (0, v4), (0, v5), (0, v6)] [] μ = _
  rw [mE_bk (M := q_Tre_leftAt) k_Tre_leftAt.1 k_Tre_leftAt.2 [12, 24, 57] 400]
  have key : ∀ (C : Nat → List zv → Mu → mR) (E : Nat → List zv → List zv → Mu → mR), mbk C E q_Tre_leftAt.1 q_Tre_leftAt.2.1 z q_Tre_leftAt.2.2.2 [12, 24, 57] 400 (zfind q_Tre_leftAt.2.2.2 12) [(2, 55), (0, v1), (0, v2), (0, v3), (0, v4), (0, v5), (0, v6)] [] μ = bif decide (v4 < v6) then (g_Tre_leftAt_24 E v1 v2 v3 v4 μ) else (some (zw (v5 - v3), μ)) := by
    intro C E
    rfl
  exact key _ _
set_option maxRecDepth 100000 in
theorem e_Tre_leftAt_24 (z : zZ) (d : Nat) (v1 : Int) (v2 : Int) (v3 : Int) (v4 : Int) (μ : Mu) : f_Tre_leftAt_24 z d v1 v2 v3 v4 μ = (mC z d 41 [(0, v1), (0, v3)] μ).bind fun q1 => ((mC z d 41 [(0, v2), (0, v4)] q1.2).bind fun q2 => (bif !decide (q1.1 = q2.1) then (f_Tre_leftAt_57 z d v3 v4 q2.2) else (gI (zw ((zw ((zw ((zw (v3 + 1)) * 9)) + v4)) + 1)) 81 (some (zw (1 + (q2.2 57 ((zw ((zw ((zw ((zw (v3 + 1)) * 9)) + v4)) + 1)).toNat))), q2.2))))) := by
  show mE z d q_Tre_leftAt 24 [(2, 55), (0, v1), (0, v2), (0, v3), (0, v4), (9, 0), (9, 0)] [] μ = _
  rw [mE_bk (M := q_Tre_leftAt) k_Tre_leftAt.1 k_Tre_leftAt.2 [12, 24, 57] 400]
  have key : ∀ (C : Nat → List zv → Mu → mR) (E : Nat → List zv → List zv → Mu → mR), mbk C E q_Tre_leftAt.1 q_Tre_leftAt.2.1 z q_Tre_leftAt.2.2.2 [12, 24, 57] 400 (zfind q_Tre_leftAt.2.2.2 24) [(2, 55), (0, v1), (0, v2), (0, v3), (0, v4), (9, 0), (9, 0)] [] μ = (C 41 [(0, v1), (0, v3)] μ).bind fun q1 => ((C 41 [(0, v2), (0, v4)] q1.2).bind fun q2 => (bif !decide (q1.1 = q2.1) then (g_Tre_leftAt_57 E v3 v4 q2.2) else (gI (zw ((zw ((zw ((zw (v3 + 1)) * 9)) + v4)) + 1)) 81 (some (zw (1 + (q2.2 57 ((zw ((zw ((zw ((zw (v3 + 1)) * 9)) + v4)) + 1)).toNat))), q2.2))))) := by
    intro C E
    rfl
  exact key _ _
set_option maxRecDepth 100000 in
theorem e_Tre_leftAt_57 (z : zZ) (d : Nat) (v3 : Int) (v4 : Int) (μ : Mu) : f_Tre_leftAt_57 z d v3 v4 μ = gI (zw ((zw ((zw (v3 + 1)) * 9)) + v4)) 81 (gI (zw ((zw ((zw (v3 * 9)) + v4)) + 1)) 81 (some (zw (1 + (if μ 57 ((zw ((zw ((zw (v3 * 9)) + v4)) + 1)).toNat) < μ 57 ((zw ((zw ((zw (v3 + 1)) * 9)) + v4)).toNat) then μ 57 ((zw ((zw ((zw (v3 * 9)) + v4)) + 1)).toNat) else μ 57 ((zw ((zw ((zw (v3 + 1)) * 9)) + v4)).toNat))), μ))) := by
  show mE z d q_Tre_leftAt 57 [(2, 55), (9, 0), (9, 0), (0, v3), (0, v4), (9, 0), (9, 0)] [] μ = _
  rw [mE_bk (M := q_Tre_leftAt) k_Tre_leftAt.1 k_Tre_leftAt.2 [12, 24, 57] 400]
  have key : ∀ (C : Nat → List zv → Mu → mR) (E : Nat → List zv → List zv → Mu → mR), mbk C E q_Tre_leftAt.1 q_Tre_leftAt.2.1 z q_Tre_leftAt.2.2.2 [12, 24, 57] 400 (zfind q_Tre_leftAt.2.2.2 57) [(2, 55), (9, 0), (9, 0), (0, v3), (0, v4), (9, 0), (9, 0)] [] μ = gI (zw ((zw ((zw (v3 + 1)) * 9)) + v4)) 81 (gI (zw ((zw ((zw (v3 * 9)) + v4)) + 1)) 81 (some (zw (1 + (if μ 57 ((zw ((zw ((zw (v3 * 9)) + v4)) + 1)).toNat) < μ 57 ((zw ((zw ((zw (v3 + 1)) * 9)) + v4)).toNat) then μ 57 ((zw ((zw ((zw (v3 * 9)) + v4)) + 1)).toNat) else μ 57 ((zw ((zw ((zw (v3 + 1)) * 9)) + v4)).toNat))), μ))) := by
    intro C E
    rfl
  exact key _ _
def g_Tre_takesFirst_11 (E : Nat → List zv → List zv → Mu → mR) (v1 : Int) (v3 : Int) (μ : Mu) : mR := E 11 [(9, 0), (0, v1), (9, 0), (0, v3), (9, 0), (9, 0), (9, 0), (9, 0)] [] μ
noncomputable def f_Tre_takesFirst_11 (z : zZ) (d : Nat) (v1 : Int) (v3 : Int) (μ : Mu) : mR := g_Tre_takesFirst_11 (fun pc ls st μ => mE z d q_Tre_takesFirst pc ls st μ) v1 v3 μ
def g_Tre_takesFirst_20 (E : Nat → List zv → List zv → Mu → mR) (μ : Mu) : mR := E 20 [(9, 0), (9, 0), (9, 0), (9, 0), (9, 0), (9, 0), (9, 0), (9, 0)] [] μ
noncomputable def f_Tre_takesFirst_20 (z : zZ) (d : Nat) (μ : Mu) : mR := g_Tre_takesFirst_20 (fun pc ls st μ => mE z d q_Tre_takesFirst pc ls st μ) μ
def g_Tre_takesFirst_21 (E : Nat → List zv → List zv → Mu → mR) (v100 : Int) (μ : Mu) : mR := E 21 [(9, 0), (9, 0), (9, 0), (9, 0), (9, 0), (9, 0), (9, 0), (9, 0)] [(0, v100)] μ
noncomputable def f_Tre_takesFirst_21 (z : zZ) (d : Nat) (v100 : Int) (μ : Mu) : mR := g_Tre_takesFirst_21 (fun pc ls st μ => mE z d q_Tre_takesFirst pc ls st μ) v100 μ
def g_Tre_takesFirst_22 (E : Nat → List zv → List zv → Mu → mR) (v1 : Int) (v2 : Int) (v5 : Int) (μ : Mu) : mR := E 22 [(2, 55), (0, v1), (0, v2), (9, 0), (9, 0), (0, v5), (9, 0), (9, 0)] [] μ
noncomputable def f_Tre_takesFirst_22 (z : zZ) (d : Nat) (v1 : Int) (v2 : Int) (v5 : Int) (μ : Mu) : mR := g_Tre_takesFirst_22 (fun pc ls st μ => mE z d q_Tre_takesFirst pc ls st μ) v1 v2 v5 μ
def g_Tre_takesFirst_64 (E : Nat → List zv → List zv → Mu → mR) (v6 : Int) (v7 : Int) (μ : Mu) : mR := E 64 [(9, 0), (9, 0), (9, 0), (9, 0), (9, 0), (9, 0), (0, v6), (0, v7)] [] μ
noncomputable def f_Tre_takesFirst_64 (z : zZ) (d : Nat) (v6 : Int) (v7 : Int) (μ : Mu) : mR := g_Tre_takesFirst_64 (fun pc ls st μ => mE z d q_Tre_takesFirst pc ls st μ) v6 v7 μ
def g_Tre_takesFirst_75 (E : Nat → List zv → List zv → Mu → mR) (μ : Mu) : mR := E 75 [(9, 0), (9, 0), (9, 0), (9, 0), (9, 0), (9, 0), (9, 0), (9, 0)] [] μ
noncomputable def f_Tre_takesFirst_75 (z : zZ) (d : Nat) (μ : Mu) : mR := g_Tre_takesFirst_75 (fun pc ls st μ => mE z d q_Tre_takesFirst pc ls st μ) μ
def g_Tre_takesFirst_76 (E : Nat → List zv → List zv → Mu → mR) (v100 : Int) (μ : Mu) : mR := E 76 [(9, 0), (9, 0), (9, 0), (9, 0), (9, 0), (9, 0), (9, 0), (9, 0)] [(0, v100)] μ
noncomputable def f_Tre_takesFirst_76 (z : zZ) (d : Nat) (v100 : Int) (μ : Mu) : mR := g_Tre_takesFirst_76 (fun pc ls st μ => mE z d q_Tre_takesFirst pc ls st μ) v100 μ
theorem k_Tre_takesFirst : zprK q_Tre_takesFirst.2.2.2 = true ∧ zinc q_Tre_takesFirst.2.2.2 = true := by decide +kernel
set_option maxRecDepth 100000 in
theorem c_Tre_takesFirst (z : zZ) (d : Nat) (v1 : Int) (v2 : Int) (v3 : Int) (v4 : Int) (v5 : Int) (μ : Mu) : mC z (d + 1) 132 [(2, 55), (0, v1), (0, v2), (0, v3), (0, v4), (0, v5)] μ = bif decide (v3 ≤ v1) then (f_Tre_takesFirst_11 z d v1 v3 μ) else (bif decide (v2 < v4) then (f_Tre_takesFirst_22 z d v1 v2 v5 μ) else (f_Tre_takesFirst_11 z d v1 v3 μ)) := by
  rw [mC_succ q_Tre_takesFirst rfl rfl rfl]
  rw [mE_bk (M := q_Tre_takesFirst) k_Tre_takesFirst.1 k_Tre_takesFirst.2 [11, 20, 21, 22, 64, 75, 76] 400]
  have key : ∀ (C : Nat → List zv → Mu → mR) (E : Nat → List zv → List zv → Mu → mR), mbk C E q_Tre_takesFirst.1 q_Tre_takesFirst.2.1 z q_Tre_takesFirst.2.2.2 [11, 20, 21, 22, 64, 75, 76] 400 (zfind q_Tre_takesFirst.2.2.2 0) (zentry q_Tre_takesFirst.2.2.1 [(2, 55), (0, v1), (0, v2), (0, v3), (0, v4), (0, v5)]) [] μ = bif decide (v3 ≤ v1) then (g_Tre_takesFirst_11 E v1 v3 μ) else (bif decide (v2 < v4) then (g_Tre_takesFirst_22 E v1 v2 v5 μ) else (g_Tre_takesFirst_11 E v1 v3 μ)) := by
    intro C E
    rfl
  exact key _ _
set_option maxRecDepth 100000 in
theorem e_Tre_takesFirst_11 (z : zZ) (d : Nat) (v1 : Int) (v3 : Int) (μ : Mu) : f_Tre_takesFirst_11 z d v1 v3 μ = bif decide (v3 ≤ v1) then (f_Tre_takesFirst_20 z d μ) else (f_Tre_takesFirst_21 z d 1 μ) := by
  show mE z d q_Tre_takesFirst 11 [(9, 0), (0, v1), (9, 0), (0, v3), (9, 0), (9, 0), (9, 0), (9, 0)] [] μ = _
  rw [mE_bk (M := q_Tre_takesFirst) k_Tre_takesFirst.1 k_Tre_takesFirst.2 [11, 20, 21, 22, 64, 75, 76] 400]
  have key : ∀ (C : Nat → List zv → Mu → mR) (E : Nat → List zv → List zv → Mu → mR), mbk C E q_Tre_takesFirst.1 q_Tre_takesFirst.2.1 z q_Tre_takesFirst.2.2.2 [11, 20, 21, 22, 64, 75, 76] 400 (zfind q_Tre_takesFirst.2.2.2 11) [(9, 0), (0, v1), (9, 0), (0, v3), (9, 0), (9, 0), (9, 0), (9, 0)] [] μ = bif decide (v3 ≤ v1) then (g_Tre_takesFirst_20 E μ) else (g_Tre_takesFirst_21 E 1 μ) := by
    intro C E
    rfl
  exact key _ _
set_option maxRecDepth 100000 in
theorem e_Tre_takesFirst_22 (z : zZ) (d : Nat) (v1 : Int) (v2 : Int) (v5 : Int) (μ : Mu) : f_Tre_takesFirst_22 z d v1 v2 v5 μ = gI (zw ((zw ((zw (v1 + 1)) * 9)) + v2)) 81 (gI (zw ((zw ((zw (v1 * 9)) + v2)) + 1)) 81 (bif !decide (μ 57 ((zw ((zw ((zw (v1 + 1)) * 9)) + v2)).toNat) = μ 57 ((zw ((zw ((zw (v1 * 9)) + v2)) + 1)).toNat)) then (f_Tre_takesFirst_64 z d (μ 57 ((zw ((zw ((zw (v1 + 1)) * 9)) + v2)).toNat)) (μ 57 ((zw ((zw ((zw (v1 * 9)) + v2)) + 1)).toNat)) μ) else (f_Tre_takesFirst_76 z d v5 μ))) := by
  show mE z d q_Tre_takesFirst 22 [(2, 55), (0, v1), (0, v2), (9, 0), (9, 0), (0, v5), (9, 0), (9, 0)] [] μ = _
  rw [mE_bk (M := q_Tre_takesFirst) k_Tre_takesFirst.1 k_Tre_takesFirst.2 [11, 20, 21, 22, 64, 75, 76] 400]
  have key : ∀ (C : Nat → List zv → Mu → mR) (E : Nat → List zv → List zv → Mu → mR), mbk C E q_Tre_takesFirst.1 q_Tre_takesFirst.2.1 z q_Tre_takesFirst.2.2.2 [11, 20, 21, 22, 64, 75, 76] 400 (zfind q_Tre_takesFirst.2.2.2 22) [(2, 55), (0, v1), (0, v2), (9, 0), (9, 0), (0, v5), (9, 0), (9, 0)] [] μ = gI (zw ((zw ((zw (v1 + 1)) * 9)) + v2)) 81 (gI (zw ((zw ((zw (v1 * 9)) + v2)) + 1)) 81 (bif !decide (μ 57 ((zw ((zw ((zw (v1 + 1)) * 9)) + v2)).toNat) = μ 57 ((zw ((zw ((zw (v1 * 9)) + v2)) + 1)).toNat)) then (g_Tre_takesFirst_64 E (μ 57 ((zw ((zw ((zw (v1 + 1)) * 9)) + v2)).toNat)) (μ 57 ((zw ((zw ((zw (v1 * 9)) + v2)) + 1)).toNat)) μ) else (g_Tre_takesFirst_76 E v5 μ))) := by
    intro C E
    rfl
  exact key _ _
set_option maxRecDepth 100000 in
theorem e_Tre_takesFirst_20 (z : zZ) (d : Nat) (μ : Mu) : f_Tre_takesFirst_20 z d μ = f_Tre_takesFirst_21 z d 0 μ := by
  show mE z d q_Tre_takesFirst 20 [(9, 0), (9, 0), (9, 0), (9, 0), (9, 0), (9, 0), (9, 0), (9, 0)] [] μ = _
  rw [mE_bk (M := q_Tre_takesFirst) k_Tre_takesFirst.1 k_Tre_takesFirst.2 [11, 20, 21, 22, 64, 75, 76] 400]
  have key : ∀ (C : Nat → List zv → Mu → mR) (E : Nat → List zv → List zv → Mu → mR), mbk C E q_Tre_takesFirst.1 q_Tre_takesFirst.2.1 z q_Tre_takesFirst.2.2.2 [11, 20, 21, 22, 64, 75, 76] 400 (zfind q_Tre_takesFirst.2.2.2 20) [(9, 0), (9, 0), (9, 0), (9, 0), (9, 0), (9, 0), (9, 0), (9, 0)] [] μ = g_Tre_takesFirst_21 E 0 μ := by
    intro C E
    rfl
  exact key _ _
set_option maxRecDepth 100000 in
theorem e_Tre_takesFirst_21 (z : zZ) (d : Nat) (v100 : Int) (μ : Mu) : f_Tre_takesFirst_21 z d v100 μ = g01 v100 (some (v100, μ)) := by
  show mE z d q_Tre_takesFirst 21 [(9, 0), (9, 0), (9, 0), (9, 0), (9, 0), (9, 0), (9, 0), (9, 0)] [(0, v100)] μ = _
  rw [mE_bk (M := q_Tre_takesFirst) k_Tre_takesFirst.1 k_Tre_takesFirst.2 [11, 20, 21, 22, 64, 75, 76] 400]
  have key : ∀ (C : Nat → List zv → Mu → mR) (E : Nat → List zv → List zv → Mu → mR), mbk C E q_Tre_takesFirst.1 q_Tre_takesFirst.2.1 z q_Tre_takesFirst.2.2.2 [11, 20, 21, 22, 64, 75, 76] 400 (zfind q_Tre_takesFirst.2.2.2 21) [(9, 0), (9, 0), (9, 0), (9, 0), (9, 0), (9, 0), (9, 0), (9, 0)] [(0, v100)] μ = g01 v100 (some (v100, μ)) := by
    intro C E
    rfl
  exact key _ _
set_option maxRecDepth 100000 in
theorem e_Tre_takesFirst_64 (z : zZ) (d : Nat) (v6 : Int) (v7 : Int) (μ : Mu) : f_Tre_takesFirst_64 z d v6 v7 μ = bif decide (v7 ≤ v6) then (f_Tre_takesFirst_75 z d μ) else (f_Tre_takesFirst_76 z d 1 μ) := by
  show mE z d q_Tre_takesFirst 64 [(9, 0), (9, 0), (9, 0), (9, 0), (9, 0), (9, 0), (0, v6), (0, v7)] [] μ = _
  rw [mE_bk (M := q_Tre_takesFirst) k_Tre_takesFirst.1 k_Tre_takesFirst.2 [11, 20, 21, 22, 64, 75, 76] 400]
  have key : ∀ (C : Nat → List zv → Mu → mR) (E : Nat → List zv → List zv → Mu → mR), mbk C E q_Tre_takesFirst.1 q_Tre_takesFirst.2.1 z q_Tre_takesFirst.2.2.2 [11, 20, 21, 22, 64, 75, 76] 400 (zfind q_Tre_takesFirst.2.2.2 64) [(9, 0), (9, 0), (9, 0), (9, 0), (9, 0), (9, 0), (0, v6), (0, v7)] [] μ = bif decide (v7 ≤ v6) then (g_Tre_takesFirst_75 E μ) else (g_Tre_takesFirst_76 E 1 μ) := by
    intro C E
    rfl
  exact key _ _
set_option maxRecDepth 100000 in
theorem e_Tre_takesFirst_76 (z : zZ) (d : Nat) (v100 : Int) (μ : Mu) : f_Tre_takesFirst_76 z d v100 μ = g01 v100 (some (v100, μ)) := by
  show mE z d q_Tre_takesFirst 76 [(9, 0), (9, 0), (9, 0), (9, 0), (9, 0), (9, 0), (9, 0), (9, 0)] [(0, v100)] μ = _
  rw [mE_bk (M := q_Tre_takesFirst) k_Tre_takesFirst.1 k_Tre_takesFirst.2 [11, 20, 21, 22, 64, 75, 76] 400]
  have key : ∀ (C : Nat → List zv → Mu → mR) (E : Nat → List zv → List zv → Mu → mR), mbk C E q_Tre_takesFirst.1 q_Tre_takesFirst.2.1 z q_Tre_takesFirst.2.2.2 [11, 20, 21, 22, 64, 75, 76] 400 (zfind q_Tre_takesFirst.2.2.2 76) [(9, 0), (9, 0), (9, 0), (9, 0), (9, 0), (9, 0), (9, 0), (9, 0)] [(0, v100)] μ = g01 v100 (some (v100, μ)) := by
    intro C E
    rfl
  exact key _ _
set_option maxRecDepth 100000 in
theorem e_Tre_takesFirst_75 (z : zZ) (d : Nat) (μ : Mu) : f_Tre_takesFirst_75 z d μ = f_Tre_takesFirst_76 z d 0 μ := by
  show mE z d q_Tre_takesFirst 75 [(9, 0), (9, 0), (9, 0), (9, 0), (9, 0), (9, 0), (9, 0), (9, 0)] [] μ = _
  rw [mE_bk (M := q_Tre_takesFirst) k_Tre_takesFirst.1 k_Tre_takesFirst.2 [11, 20, 21, 22, 64, 75, 76] 400]
  have key : ∀ (C : Nat → List zv → Mu → mR) (E : Nat → List zv → List zv → Mu → mR), mbk C E q_Tre_takesFirst.1 q_Tre_takesFirst.2.1 z q_Tre_takesFirst.2.2.2 [11, 20, 21, 22, 64, 75, 76] 400 (zfind q_Tre_takesFirst.2.2.2 75) [(9, 0), (9, 0), (9, 0), (9, 0), (9, 0), (9, 0), (9, 0), (9, 0)] [] μ = g_Tre_takesFirst_76 E 0 μ := by
    intro C E
    rfl
  exact key _ _
