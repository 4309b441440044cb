def g_M_turns_10 (E : Nat → List zv → List zv → Mu → mR) (v1 : Int) (v2 : Int) (v3 : Int) (v4 : Int) (μ : Mu) : mR := E 10 [(2, 86), (0, v1), (0, v2), (0, v3), (0, v4)] [] μ
noncomputable def f_M_turns_10 (z : zZ) (d : Nat) (v1 : Int) (v2 : Int) (v3 : Int) (v4 : Int) (μ : Mu) : mR := g_M_turns_10 (fun pc ls st μ => mE z d q_M_turns pc ls st μ) v1 v2 v3 v4 μ
def g_M_turns_31 (E : Nat → List zv → List zv → Mu → mR) (v1 : Int) (v2 : Int) (v3 : Int) (v4 : Int) (v101 : Int) (v103 : Int) (μ : Mu) : mR := E 31 [(2, 86), (0, v1), (0, v2), (0, v3), (0, v4)] [(0, v103), (2, 94), (0, v101), (2, 118)] μ
noncomputable def f_M_turns_31 (z : zZ) (d : Nat) (v1 : Int) (v2 : Int) (v3 : Int) (v4 : Int) (v101 : Int) (v103 : Int) (μ : Mu) : mR := g_M_turns_31 (fun pc ls st μ => mE z d q_M_turns pc ls st μ) v1 v2 v3 v4 v101 v103 μ
def g_M_turns_84 (E : Nat → List zv → List zv → Mu → mR) (μ : Mu) : mR := E 84 [(9, 0), (9, 0), (9, 0), (9, 0), (9, 0)] [] μ
noncomputable def f_M_turns_84 (z : zZ) (d : Nat) (μ : Mu) : mR := g_M_turns_84 (fun pc ls st μ => mE z d q_M_turns pc ls st μ) μ
theorem k_M_turns : zprK q_M_turns.2.2.2 = true ∧ zinc q_M_turns.2.2.2 = true := by decide +kernel
set_option maxRecDepth 100000 in
theorem c_M_turns (z : zZ) (d : Nat) (v1 : Int) (v2 : Int) (μ : Mu) : mC z (d + 1) 239 [(2, 86), (0, v1), (0, v2)] μ = (mC z d 202 [(2, 86), (0, v1), (0, v2)] μ).bind fun q1 => (f_M_turns_10 z d v1 v2 q1.1 0 q1.2) := by
  rw [mC_succ q_M_turns rfl rfl rfl]
  rw [mE_bk (M := q_M_turns) k_M_turns.1 k_M_turns.2 [10, 31, 84] 400]
  have key : ∀ (C : Nat → List zv → Mu → mR) (E : Nat → List zv → List zv → Mu → mR), mbk C E q_M_turns.1 q_M_turns.2.1 z q_M_turns.2.2.2 [10, 31, 84] 400 (zfind q_M_turns.2.2.2 0) (zentry q_M_turns.2.2.1 [(2, 86), (0, v1), (0, v2)]) [] μ = (C 202 [(2, 86), (0, v1), (0, v2)] μ).bind fun q1 => (g_M_turns_10 E v1 v2 q1.1 0 q1.2) := by
    intro C E
    rfl
  exact key _ _
set_option maxRecDepth 100000 in
theorem e_M_turns_10 (z : zZ) (d : Nat) (v1 : Int) (v2 : Int) (v3 : Int) (v4 : Int) (μ : Mu) : f_M_turns_10 z d v1 v2 v3 v4 μ = bif decide (v3 ≤ v4) then ((mC z d 206 [(2, 86), (0, v1), (2, 118), (0, 0), (0, v3)] μ).bind fun q1 => (bif decide (q1.1 = (-1)) then (f_M_turns_84 z d q1.2) else (bif decide (q1.1 = v2) then (f_M_turns_84 z d q1.2) else ((mC z d 199 [(2, 86), (0, v1)] q1.2).bind fun q2 => ((mC z d 189 [(0, q2.1), (0, q1.1)] q2.2).bind fun q3 => (bif decide (q3.1 = 0) then ((mC z d 238 [(2, 86), (0, v1), (0, v2), (0, 0)] q3.2).bind fun q4 => ((mC z d 238 [(2, 86), (0, v1), (0, q1.1), (0, 1)] q4.2).bind fun q5 => (some (1, q5.2)))) else (f_M_turns_84 z d q3.2))))))) else ((mC z d 201 [(0, v1), (0, v2)] μ).bind fun q6 => (f_M_turns_31 z d v1 v2 v3 v4 v4 q6.1 q6.2)) := by
  show mE z d q_M_turns 10 [(2, 86), (0, v1), (0, v2), (0, v3), (0, v4)] [] μ = _
  rw [mE_bk (M := q_M_turns) k_M_turns.1 k_M_turns.2 [10, 31, 84] 400]
  have key : ∀ (C : Nat → List zv → Mu → mR) (E : Nat → List zv → List zv → Mu → mR), mbk C E q_M_turns.1 q_M_turns.2.1 z q_M_turns.2.2.2 [10, 31, 84] 400 (zfind q_M_turns.2.2.2 10) [(2, 86), (0, v1), (0, v2), (0, v3), (0, v4)] [] μ = bif decide (v3 ≤ v4) then ((C 206 [(2, 86), (0, v1), (2, 118), (0, 0), (0, v3)] μ).bind fun q1 => (bif decide (q1.1 = (-1)) then (g_M_turns_84 E q1.2) else (bif decide (q1.1 = v2) then (g_M_turns_84 E q1.2) else ((C 199 [(2, 86), (0, v1)] q1.2).bind fun q2 => ((C 189 [(0, q2.1), (0, q1.1)] q2.2).bind fun q3 => (bif decide (q3.1 = 0) then ((C 238 [(2, 86), (0, v1), (0, v2), (0, 0)] q3.2).bind fun q4 => ((C 238 [(2, 86), (0, v1), (0, q1.1), (0, 1)] q4.2).bind fun q5 => (some (1, q5.2)))) else (g_M_turns_84 E q3.2))))))) else ((C 201 [(0, v1), (0, v2)] μ).bind fun q6 => (g_M_turns_31 E v1 v2 v3 v4 v4 q6.1 q6.2)) := by
    intro C E
    rfl
  exact key _ _
set_option maxRecDepth 100000 in
theorem e_M_turns_84 (z : zZ) (d : Nat) (μ : Mu) : f_M_turns_84 z d μ = some (0, μ) := by
  show mE z d q_M_turns 84 [(9, 0), (9, 0), (9, 0), (9, 0), (9, 0)] [] μ = _
  rw [mE_bk (M := q_M_turns) k_M_turns.1 k_M_turns.2 [10, 31, 84] 400]
  have key : ∀ (C : Nat → List zv → Mu → mR) (E : Nat → List zv → List zv → Mu → mR), mbk C E q_M_turns.1 q_M_turns.2.1 z q_M_turns.2.2.2 [10, 31, 84] 400 (zfind q_M_turns.2.2.2 84) [(9, 0), (9, 0), (9, 0), (9, 0), (9, 0)] [] μ = some (0, μ) := by
    intro C E
    rfl
  exact key _ _
set_option maxRecDepth 100000 in
theorem e_M_turns_31 (z : zZ) (d : Nat) (v1 : Int) (v2 : Int) (v3 : Int) (v4 : Int) (v101 : Int) (v103 : Int) (μ : Mu) : f_M_turns_31 z d v1 v2 v3 v4 v101 v103 μ = gI (zw ((zw ((zw (v103 + v3)) - 1)) - v4)) 192 (gI v101 8 (f_M_turns_10 z d v1 v2 v3 (zw (v4 + 1)) (zup μ 118 v101.toNat (μ 94 ((zw ((zw ((zw (v103 + v3)) - 1)) - v4)).toNat))))) := by
  show mE z d q_M_turns 31 [(2, 86), (0, v1), (0, v2), (0, v3), (0, v4)] [(0, v103), (2, 94), (0, v101), (2, 118)] μ = _
  rw [mE_bk (M := q_M_turns) k_M_turns.1 k_M_turns.2 [10, 31, 84] 400]
  have key : ∀ (C : Nat → List zv → Mu → mR) (E : Nat → List zv → List zv → Mu → mR), mbk C E q_M_turns.1 q_M_turns.2.1 z q_M_turns.2.2.2 [10, 31, 84] 400 (zfind q_M_turns.2.2.2 31) [(2, 86), (0, v1), (0, v2), (0, v3), (0, v4)] [(0, v103), (2, 94), (0, v101), (2, 118)] μ = gI (zw ((zw ((zw (v103 + v3)) - 1)) - v4)) 192 (gI v101 8 (g_M_turns_10 E v1 v2 v3 (zw (v4 + 1)) (zup μ 118 v101.toNat (μ 94 ((zw ((zw ((zw (v103 + v3)) - 1)) - v4)).toNat))))) := by
    intro C E
    rfl
  exact key _ _
def g_M_spies_34 (E : Nat → List zv → List zv → Mu → mR) (v1 : Int) (v2 : Int) (v3 : Int) (v4 : Int) (v5 : Int) (v6 : Int) (v7 : Int) (μ : Mu) : mR := E 34 [(2, 86), (0, v1), (0, v2), (0, v3), (0, v4), (0, v5), (0, v6), (0, v7), (9, 0)] [] μ
noncomputable def f_M_spies_34 (z : zZ) (d : Nat) (v1 : Int) (v2 : Int) (v3 : Int) (v4 : Int) (v5 : Int) (v6 : Int) (v7 : Int) (μ : Mu) : mR := g_M_spies_34 (fun pc ls st μ => mE z d q_M_spies pc ls st μ) v1 v2 v3 v4 v5 v6 v7 μ
def g_M_spies_119 (E : Nat → List zv → List zv → Mu → mR) (μ : Mu) : mR := E 119 [(9, 0), (9, 0), (9, 0), (9, 0), (9, 0), (9, 0), (9, 0), (9, 0), (9, 0)] [] μ
noncomputable def f_M_spies_119 (z : zZ) (d : Nat) (μ : Mu) : mR := g_M_spies_119 (fun pc ls st μ => mE z d q_M_spies pc ls st μ) μ
def g_M_spies_121 (E : Nat → List zv → List zv → Mu → mR) (v1 : Int) (v2 : Int) (v4 : Int) (v5 : Int) (v7 : Int) (v8 : Int) (μ : Mu) : mR := E 121 [(2, 86), (0, v1), (0, v2), (9, 0), (0, v4), (0, v5), (9, 0), (0, v7), (0, v8)] [] μ
noncomputable def f_M_spies_121 (z : zZ) (d : Nat) (v1 : Int) (v2 : Int) (v4 : Int) (v5 : Int) (v7 : Int) (v8 : Int) (μ : Mu) : mR := g_M_spies_121 (fun pc ls st μ => mE z d q_M_spies pc ls st μ) v1 v2 v4 v5 v7 v8 μ
theorem k_M_spies : zprK q_M_spies.2.2.2 = true ∧ zinc q_M_spies.2.2.2 = true := by decide +kernel
set_option maxRecDepth 100000 in
theorem c_M_spies (z : zZ) (d : Nat) (v1 : Int) (v2 : Int) (v3 : Int) (v4 : Int) (μ : Mu) : mC z (d + 1) 240 [(2, 86), (0, v1), (0, v2), (0, v3), (0, v4)] μ = (mC z d 202 [(2, 86), (0, zw (1 - v1)), (0, v2)] μ).bind fun q1 => (gI (zw ((zw (12 * v1)) + v4)) 24 (bif !decide (q1.2 90 ((zw ((zw (12 * v1)) + v4)).toNat) = 0) then (f_M_spies_34 z d v1 v2 v3 v4 (zw (1 - v1)) q1.1 0 q1.2) else (some (0, q1.2)))) := by
  rw [mC_succ q_M_spies rfl rfl rfl]
  rw [mE_bk (M := q_M_spies) k_M_spies.1 k_M_spies.2 [34, 119, 121] 400]
  have key : ∀ (C : Nat → List zv → Mu → mR) (E : Nat → List zv → List zv → Mu → mR), mbk C E q_M_spies.1 q_M_spies.2.1 z q_M_spies.2.2.2 [34, 119, 121] 400 (zfind q_M_spies.2.2.2 0) (zentry q_M_spies.2.2.1 [(2, 86), (0, v1), (0, v2), (0, v3), (0, v4)]) [] μ = (C 202 [(2, 86), (0, zw (1 - v1)), (0, v2)] μ).bind fun q1 => (gI (zw ((zw (12 * v1)) + v4)) 24 (bif !decide (q1.2 90 ((zw ((zw (12 * v1)) + v4)).toNat) = 0) then (g_M_spies_34 E v1 v2 v3 v4 (zw (1 - v1)) q1.1 0 q1.2) else (some (0, q1.2)))) := by
    intro C E
    rfl
  exact key _ _
set_option maxRecDepth 100000 in
theorem e_M_spies_34 (z : zZ) (d : Nat) (v1 : Int) (v2 : Int) (v3 : Int) (v4 : Int) (v5 : Int) (v6 : Int) (v7 : Int) (μ : Mu) : f_M_spies_34 z d v1 v2 v3 v4 v5 v6 v7 μ = bif decide (v6 ≤ v7) then (gI v3 8 (gI v3 8 ((mC z d 206 [(2, 86), (0, v5), (2, 118), (0, 0), (0, v6)] (zup μ 118 v3.toNat v4)).bind fun q1 => (bif decide (q1.1 = (-1)) then (f_M_spies_119 z d q1.2) else ((mC z d 199 [(2, 86), (0, v5)] q1.2).bind fun q2 => ((mC z d 189 [(0, q2.1), (0, q1.1)] q2.2).bind fun q3 => (bif decide (q3.1 = 0) then (f_M_spies_121 z d v1 v2 v4 v5 (μ 118 v3.toNat) q1.1 q3.2) else (f_M_spies_119 z d q3.2)))))))) else ((mC z d 201 [(0, v5), (0, v2)] μ).bind fun q4 => (gI (zw (q4.1 + v7)) 192 (gI v7 8 (f_M_spies_34 z d v1 v2 v3 v4 v5 v6 (zw (v7 + 1)) (zup q4.2 118 v7.toNat (q4.2 94 ((zw (q4.1 + v7)).toNat))))))) := by
  show mE z d q_M_spies 34 [(2, 86), (0, v1), (0, v2), (0, v3), (0, v4), (0, v5), (0, v6), (0, v7), (9, 0)] [] μ = _
  rw [mE_bk (M := q_M_spies) k_M_spies.1 k_M_spies.2 [34, 119, 121] 400]
  have key : ∀ (C : Nat → List zv → Mu → mR) (E : Nat → List zv → List zv → Mu → mR), mbk C E q_M_spies.1 q_M_spies.2.1 z q_M_spies.2.2.2 [34, 119, 121] 400 (zfind q_M_spies.2.2.2 34) [(2, 86), (0, v1), (0, v2), (0, v3), (0, v4), (0, v5), (0, v6), (0, v7), (9, 0)] [] μ = bif decide (v6 ≤ v7) then (gI v3 8 (gI v3 8 ((C 206 [(2, 86), (0, v5), (2, 118), (0, 0), (0, v6)] (zup μ 118 v3.toNat v4)).bind fun q1 => (bif decide (q1.1 = (-1)) then (g_M_spies_119 E q1.2) else ((C 199 [(2, 86), (0, v5)] q1.2).bind fun q2 => ((C 189 [(0, q2.1), (0, q1.1)] q2.2).bind fun q3 => (bif decide (q3.1 = 0) then (g_M_spies_121 E v1 v2 v4 v5 (μ 118 v3.toNat) q1.1 q3.2) else (g_M_spies_119 E q3.2)))))))) else ((C 201 [(0, v5), (0, v2)] μ).bind fun q4 => (gI (zw (q4.1 + v7)) 192 (gI v7 8 (g_M_spies_34 E v1 v2 v3 v4 v5 v6 (zw (v7 + 1)) (zup q4.2 118 v7.toNat (q4.2 94 ((zw (q4.1 + v7)).toNat))))))) := by
    intro C E
    rfl
  exact key _ _
set_option maxRecDepth 100000 in
theorem e_M_spies_119 (z : zZ) (d : Nat) (μ : Mu) : f_M_spies_119 z d μ = some (0, μ) := by
  show mE z d q_M_spies 119 [(9, 0), (9, 0), (9, 0), (9, 0), (9, 0), (9, 0), (9, 0), (9, 0), (9, 0)] [] μ = _
  rw [mE_bk (M := q_M_spies) k_M_spies.1 k_M_spies.2 [34, 119, 121] 400]
  have key : ∀ (C : Nat → List zv → Mu → mR) (E : Nat → List zv → List zv → Mu → mR), mbk C E q_M_spies.1 q_M_spies.2.1 z q_M_spies.2.2.2 [34, 119, 121] 400 (zfind q_M_spies.2.2.2 119) [(9, 0), (9, 0), (9, 0), (9, 0), (9, 0), (9, 0), (9, 0), (9, 0), (9, 0)] [] μ = some (0, μ) := by
    intro C E
    rfl
  exact key _ _
set_option maxRecDepth 100000 in
theorem e_M_spies_121 (z : zZ) (d : Nat) (v1 : Int) (v2 : Int) (v4 : Int) (v5 : Int) (v7 : Int) (v8 : Int) (μ : Mu) : f_M_spies_121 z d v1 v2 v4 v5 v7 v8 μ = gI (zw ((zw (12 * v1)) + v4)) 24 (gI (zw ((zw (12 * v1)) + v4)) 24 ((mC z d 204 [(2, 91), (0, zw ((zw (12 * v5)) + v7)), (0, 1)] (zup μ 90 ((zw ((zw (12 * v1)) + v4)).toNat) (zw ((μ 90 ((zw ((zw (12 * v1)) + v4)).toNat)) - 1)))).bind fun q1 => ((mC z d 238 [(2, 86), (0, v5), (0, v2), (0, 0)] q1.2).bind fun q2 => ((mC z d 238 [(2, 86), (0, v5), (0, v8), (0, 1)] q2.2).bind fun q3 => (some (1, q3.2)))))) := by
  show mE z d q_M_spies 121 [(2, 86), (0, v1), (0, v2), (9, 0), (0, v4), (0, v5), (9, 0), (0, v7), (0, v8)] [] μ = _
  rw [mE_bk (M := q_M_spies) k_M_spies.1 k_M_spies.2 [34, 119, 121] 400]
  have key : ∀ (C : Nat → List zv → Mu → mR) (E : Nat → List zv → List zv → Mu → mR), mbk C E q_M_spies.1 q_M_spies.2.1 z q_M_spies.2.2.2 [34, 119, 121] 400 (zfind q_M_spies.2.2.2 121) [(2, 86), (0, v1), (0, v2), (9, 0), (0, v4), (0, v5), (9, 0), (0, v7), (0, v8)] [] μ = gI (zw ((zw (12 * v1)) + v4)) 24 (gI (zw ((zw (12 * v1)) + v4)) 24 ((C 204 [(2, 91), (0, zw ((zw (12 * v5)) + v7)), (0, 1)] (zup μ 90 ((zw ((zw (12 * v1)) + v4)).toNat) (zw ((μ 90 ((zw ((zw (12 * v1)) + v4)).toNat)) - 1)))).bind fun q1 => ((C 238 [(2, 86), (0, v5), (0, v2), (0, 0)] q1.2).bind fun q2 => ((C 238 [(2, 86), (0, v5), (0, v8), (0, 1)] q2.2).bind fun q3 => (some (1, q3.2)))))) := by
    intro C E
    rfl
  exact key _ _
def g_M_isBeating_49 (E : Nat → List zv → List zv → Mu → mR) (v100 : Int) (μ : Mu) : mR := E 49 [(9, 0), (9, 0), (9, 0), (9, 0)] [(0, v100)] μ
noncomputable def f_M_isBeating_49 (z : zZ) (d : Nat) (v100 : Int) (μ : Mu) : mR := g_M_isBeating_49 (fun pc ls st μ => mE z d q_M_isBeating pc ls st μ) v100 μ
theorem k_M_isBeating : zprK q_M_isBeating.2.2.2 = true ∧ zinc q_M_isBeating.2.2.2 = true := by decide +kernel
set_option maxRecDepth 100000 in
theorem c_M_isBeating (z : zZ) (d : Nat) (v1 : Int) (v2 : Int) (v3 : Int) (μ : Mu) : mC z (d + 1) 241 [(2, 86), (0, v1), (0, v2), (0, v3)] μ = (mC z d 201 [(0, v1), (0, v2)] μ).bind fun q1 => ((mC z d 202 [(2, 86), (0, v1), (0, v2)] q1.2).bind fun q2 => ((mC z d 201 [(0, zw (1 - v1)), (0, v3)] q2.2).bind fun q3 => ((mC z d 202 [(2, 86), (0, zw (1 - v1)), (0, v3)] q3.2).bind fun q4 => ((mC z d 242 [(2, 86), (0, zw (1 - v1)), (2, 94), (0, q1.1), (0, q2.1), (2, 94), (0, q3.1), (0, q4.1)] q4.2).bind fun q5 => (bif decide (0 ≤ q5.1) then (f_M_isBeating_49 z d 0 q5.2) else (f_M_isBeating_49 z d 1 q5.2)))))) := by
  rw [mC_succ q_M_isBeating rfl rfl rfl]
  rw [mE_bk (M := q_M_isBeating) k_M_isBeating.1 k_M_isBeating.2 [49] 400]
  have key : ∀ (C : Nat → List zv → Mu → mR) (E : Nat → List zv → List zv → Mu → mR), mbk C E q_M_isBeating.1 q_M_isBeating.2.1 z q_M_isBeating.2.2.2 [49] 400 (zfind q_M_isBeating.2.2.2 0) (zentry q_M_isBeating.2.2.1 [(2, 86), (0, v1), (0, v2), (0, v3)]) [] μ = (C 201 [(0, v1), (0, v2)] μ).bind fun q1 => ((C 202 [(2, 86), (0, v1), (0, v2)] q1.2).bind fun q2 => ((C 201 [(0, zw (1 - v1)), (0, v3)] q2.2).bind fun q3 => ((C 202 [(2, 86), (0, zw (1 - v1)), (0, v3)] q3.2).bind fun q4 => ((C 242 [(2, 86), (0, zw (1 - v1)), (2, 94), (0, q1.1), (0, q2.1), (2, 94), (0, q3.1), (0, q4.1)] q4.2).bind fun q5 => (bif decide (0 ≤ q5.1) then (g_M_isBeating_49 E 0 q5.2) else (g_M_isBeating_49 E 1 q5.2)))))) := by
    intro C E
    rfl
  exact key _ _
set_option maxRecDepth 100000 in
theorem e_M_isBeating_49 (z : zZ) (d : Nat) (v100 : Int) (μ : Mu) : f_M_isBeating_49 z d v100 μ = g01 v100 (some (v100, μ)) := by
  show mE z d q_M_isBeating 49 [(9, 0), (9, 0), (9, 0), (9, 0)] [(0, v100)] μ = _
  rw [mE_bk (M := q_M_isBeating) k_M_isBeating.1 k_M_isBeating.2 [49] 400]
  have key : ∀ (C : Nat → List zv → Mu → mR) (E : Nat → List zv → List zv → Mu → mR), mbk C E q_M_isBeating.1 q_M_isBeating.2.1 z q_M_isBeating.2.2.2 [49] 400 (zfind q_M_isBeating.2.2.2 49) [(9, 0), (9, 0), (9, 0), (9, 0)] [(0, v100)] μ = g01 v100 (some (v100, μ)) := by
    intro C E
    rfl
  exact key _ _
def g_M_compare_3 (E : Nat → List zv → List zv → Mu → mR) (v1 : Int) (v2 : Int) (v3 : Int) (v4 : Int) (v5 : Int) (v6 : Int) (v7 : Int) (v8 : Int) (μ : Mu) : mR := E 3 [(2, 86), (0, v1), (2, v2), (0, v3), (0, v4), (2, v5), (0, v6), (0, v7), (0, v8), (9, 0)] [] μ
noncomputable def f_M_compare_3 (z : zZ) (d : Nat) (v1 : Int) (v2 : Int) (v3 : Int) (v4 : Int) (v5 : Int) (v6 : Int) (v7 : Int) (v8 : Int) (μ : Mu) : mR := g_M_compare_3 (fun pc ls st μ => mE z d q_M_compare pc ls st μ) v1 v2 v3 v4 v5 v6 v7 v8 μ
def g_M_compare_62 (E : Nat → List zv → List zv → Mu → mR) (v1 : Int) (v2 : Int) (v3 : Int) (v4 : Int) (v5 : Int) (v6 : Int) (v7 : Int) (v8 : Int) (μ : Mu) : mR := E 62 [(2, 86), (0, v1), (2, v2), (0, v3), (0, v4), (2, v5), (0, v6), (0, v7), (0, v8), (9, 0)] [] μ
noncomputable def f_M_compare_62 (z : zZ) (d : Nat) (v1 : Int) (v2 : Int) (v3 : Int) (v4 : Int) (v5 : Int) (v6 : Int) (v7 : Int) (v8 : Int) (μ : Mu) : mR := g_M_compare_62 (fun pc ls st μ => mE z d q_M_compare pc ls st μ) v1 v2 v3 v4 v5 v6 v7 v8 μ
def g_M_compare_68 (E : Nat → List zv → List zv → Mu → mR) (v4 : Int) (v7 : Int) (μ : Mu) : mR := E 68 [(9, 0), (9, 0), (9, 0), (9, 0), (0, v4), (9, 0), (9, 0), (0, v7), (9, 0), (9, 0)] [] μ
noncomputable def f_M_compare_68 (z : zZ) (d : Nat) (v4 : Int) (v7 : Int) (μ : Mu) : mR := g_M_compare_68 (fun pc ls st μ => mE z d q_M_compare pc ls st μ) v4 v7 μ
theorem k_M_compare : zprK q_M_compare.2.2.2 = true ∧ zinc q_M_compare.2.2.2 = true := by decide +kernel
set_option maxRecDepth 100000 in
theorem c_M_compare (z : zZ) (d : Nat) (v1 : Int) (v2 : Int) (v3 : Int) (v4 : Int) (v5 : Int) (v6 : Int) (v7 : Int) (μ : Mu) : mC z (d + 1) 242 [(2, 86), (0, v1), (2, v2), (0, v3), (0, v4), (2, v5), (0, v6), (0, v7)] μ = f_M_compare_3 z d v1 v2 v3 v4 v5 v6 v7 0 μ := by
  rw [mC_succ q_M_compare rfl rfl rfl]
  rw [mE_bk (M := q_M_compare) k_M_compare.1 k_M_compare.2 [3, 62, 68] 400]
  have key : ∀ (C : Nat → List zv → Mu → mR) (E : Nat → List zv → List zv → Mu → mR), mbk C E q_M_compare.1 q_M_compare.2.1 z q_M_compare.2.2.2 [3, 62, 68] 400 (zfind q_M_compare.2.2.2 0) (zentry q_M_compare.2.2.1 [(2, 86), (0, v1), (2, v2), (0, v3), (0, v4), (2, v5), (0, v6), (0, v7)]) [] μ = g_M_compare_3 E v1 v2 v3 v4 v5 v6 v7 0 μ := by
    intro C E
    rfl
  exact key _ _
set_option maxRecDepth 100000 in
theorem e_M_compare_3 (z : zZ) (d : Nat) (v1 : Int) (v2 : Int) (v3 : Int) (v4 : Int) (v5 : Int) (v6 : Int) (v7 : Int) (v8 : Int) (μ : Mu) : f_M_compare_3 z d v1 v2 v3 v4 v5 v6 v7 v8 μ = bif decide (v4 ≤ v8) then (f_M_compare_68 z d v4 v7 μ) else (bif decide (v7 ≤ v8) then (f_M_compare_68 z d v4 v7 μ) else (gA v2 (zw (v3 + v8)) (gI (zw ((zw (12 * v1)) + (μ v2.toNat ((zw (v3 + v8)).toNat)))) 24 (gA v5 (zw (v6 + v8)) (gI (zw ((zw (12 * v1)) + (μ v5.toNat ((zw (v6 + v8)).toNat)))) 24 (bif decide (zw ((μ 89 ((zw ((zw (12 * v1)) + (μ v2.toNat ((zw (v3 + v8)).toNat)))).toNat)) - (μ 89 ((zw ((zw (12 * v1)) + (μ v5.toNat ((zw (v6 + v8)).toNat)))).toNat))) = 0) then (f_M_compare_62 z d v1 v2 v3 v4 v5 v6 v7 v8 μ) else (some (zw ((μ 89 ((zw ((zw (12 * v1)) + (μ v2.toNat ((zw (v3 + v8)).toNat)))).toNat)) - (μ 89 ((zw ((zw (12 * v1)) + (μ v5.toNat ((zw (v6 + v8)).toNat)))).toNat))), μ)))))))) := by
  show mE z d q_M_compare 3 [(2, 86), (0, v1), (2, v2), (0, v3), (0, v4), (2, v5), (0, v6), (0, v7), (0, v8), (9, 0)] [] μ = _
  rw [mE_bk (M := q_M_compare) k_M_compare.1 k_M_compare.2 [3, 62, 68] 400]
  have key : ∀ (C : Nat → List zv → Mu → mR) (E : Nat → List zv → List zv → Mu → mR), mbk C E q_M_compare.1 q_M_compare.2.1 z q_M_compare.2.2.2 [3, 62, 68] 400 (zfind q_M_compare.2.2.2 3) [(2, 86), (0, v1), (2, v2), (0, v3), (0, v4), (2, v5), (0, v6), (0, v7), (0, v8), (9, 0)] [] μ = bif decide (v4 ≤ v8) then (g_M_compare_68 E v4 v7 μ) else (bif decide (v7 ≤ v8) then (g_M_compare_68 E v4 v7 μ) else (gA v2 (zw (v3 + v8)) (gI (zw ((zw (12 * v1)) + (μ v2.toNat ((zw (v3 + v8)).toNat)))) 24 (gA v5 (zw (v6 + v8)) (gI (zw ((zw (12 * v1)) + (μ v5.toNat ((zw (v6 + v8)).toNat)))) 24 (bif decide (zw ((μ 89 ((zw ((zw (12 * v1)) + (μ v2.toNat ((zw (v3 + v8)).toNat)))).toNat)) - (μ 89 ((zw ((zw (12 * v1)) + (μ v5.toNat ((zw (v6 + v8)).toNat)))).toNat))) = 0) then (g_M_compare_62 E v1 v2 v3 v4 v5 v6 v7 v8 μ) else (some (zw ((μ 89 ((zw ((zw (12 * v1)) + (μ v2.toNat ((zw (v3 + v8)).toNat)))).toNat)) - (μ 89 ((zw ((zw (12 * v1)) + (μ v5.toNat ((zw (v6 + v8)).toNat)))).toNat))), μ)))))))) := by
    intro C E
    rfl
  exact key _ _
set_option maxRecDepth 100000 in
theorem e_M_compare_68 (z : zZ) (d : Nat) (v4 : Int) (v7 : Int) (μ : Mu) : f_M_compare_68 z d v4 v7 μ = some (zw (v4 - v7), μ) := by
  show mE z d q_M_compare 68 [(9, 0), (9, 0), (9, 0), (9, 0), (0, v4), (9, 0), (9, 0), (0, v7), (9, 0), (9, 0)] [] μ = _
  rw [mE_bk (M := q_M_compare) k_M_compare.1 k_M_compare.2 [3, 62, 68] 400]
  have key : ∀ (C : Nat → List zv → Mu → mR) (E : Nat → List zv → List zv → Mu → mR), mbk C E q_M_compare.1 q_M_compare.2.1 z q_M_compare.2.2.2 [3, 62, 68] 400 (zfind q_M_compare.2.2.2 68) [(9, 0), (9, 0), (9, 0), (9, 0), (0, v4), (9, 0), (9, 0), (0, v7), (9, 0), (9, 0)] [] μ = some (zw (v4 - v7), μ) := by
    intro C E
    rfl
  exact key _ _
set_option maxRecDepth 100000 in
theorem e_M_compare_62 (z : zZ) (d : Nat) (v1 : Int) (v2 : Int) (v3 : Int) (v4 : Int) (v5 : Int) (v6 : Int) (v7 : Int) (v8 : Int) (μ : Mu) : f_M_compare_62 z d v1 v2 v3 v4 v5 v6 v7 v8 μ = f_M_compare_3 z d v1 v2 v3 v4 v5 v6 v7 (zw (v8 + 1)) μ := by
  show mE z d q_M_compare 62 [(2, 86), (0, v1), (2, v2), (0, v3), (0, v4), (2, v5), (0, v6), (0, v7), (0, v8), (9, 0)] [] μ = _
  rw [mE_bk (M := q_M_compare) k_M_compare.1 k_M_compare.2 [3, 62, 68] 400]
  have key : ∀ (C : Nat → List zv → Mu → mR) (E : Nat → List zv → List zv → Mu → mR), mbk C E q_M_compare.1 q_M_compare.2.1 z q_M_compare.2.2.2 [3, 62, 68] 400 (zfind q_M_compare.2.2.2 62) [(2, 86), (0, v1), (2, v2), (0, v3), (0, v4), (2, v5), (0, v6), (0, v7), (0, v8), (9, 0)] [] μ = g_M_compare_3 E v1 v2 v3 v4 v5 v6 v7 (zw (v8 + 1)) μ := by
    intro C E
    rfl
  exact key _ _
def g_M_loses_74 (E : Nat → List zv → List zv → Mu → mR) (v1 : Int) (v2 : Int) (v3 : Int) (v4 : Int) (v5 : Int) (v6 : Int) (v100 : Int) (v101 : Int) (μ : Mu) : mR := E 74 [(2, 86), (0, v1), (0, v2), (0, v3), (0, v4), (0, v5), (0, v6), (9, 0), (9, 0), (9, 0), (9, 0)] [(0, v101), (0, v100)] μ
noncomputable def f_M_loses_74 (z : zZ) (d : Nat) (v1 : Int) (v2 : Int) (v3 : Int) (v4 : Int) (v5 : Int) (v6 : Int) (v100 : Int) (v101 : Int) (μ : Mu) : mR := g_M_loses_74 (fun pc ls st μ => mE z d q_M_loses pc ls st μ) v1 v2 v3 v4 v5 v6 v100 v101 μ
def g_M_loses_114 (E : Nat → List zv → List zv → Mu → mR) (v1 : Int) (v2 : Int) (v5 : Int) (v6 : Int) (v8 : Int) (v9 : Int) (v10 : Int) (μ : Mu) : mR := E 114 [(2, 86), (0, v1), (0, v2), (9, 0), (9, 0), (0, v5), (0, v6), (9, 0), (0, v8), (0, v9), (0, v10)] [] μ
noncomputable def f_M_loses_114 (z : zZ) (d : Nat) (v1 : Int) (v2 : Int) (v5 : Int) (v6 : Int) (v8 : Int) (v9 : Int) (v10 : Int) (μ : Mu) : mR := g_M_loses_114 (fun pc ls st μ => mE z d q_M_loses pc ls st μ) v1 v2 v5 v6 v8 v9 v10 μ
def g_M_loses_154 (E : Nat → List zv → List zv → Mu → mR) (v1 : Int) (v2 : Int) (v5 : Int) (v6 : Int) (v8 : Int) (v9 : Int) (v10 : Int) (μ : Mu) : mR := E 154 [(2, 86), (0, v1), (0, v2), (9, 0), (9, 0), (0, v5), (0, v6), (9, 0), (0, v8), (0, v9), (0, v10)] [] μ
noncomputable def f_M_loses_154 (z : zZ) (d : Nat) (v1 : Int) (v2 : Int) (v5 : Int) (v6 : Int) (v8 : Int) (v9 : Int) (v10 : Int) (μ : Mu) : mR := g_M_loses_154 (fun pc ls st μ => mE z d q_M_loses pc ls st μ) v1 v2 v5 v6 v8 v9 v10 μ
def g_M_loses_230 (E : Nat → List zv → List zv → Mu → mR) (v1 : Int) (v6 : Int) (v9 : Int) (v100 : Int) (μ : Mu) : mR := E 230 [(2, 86), (0, v1), (9, 0), (9, 0), (9, 0), (9, 0), (0, v6), (9, 0), (9, 0), (0, v9), (9, 0)] [(0, v100)] μ
noncomputable def f_M_loses_230 (z : zZ) (d : Nat) (v1 : Int) (v6 : Int) (v9 : Int) (v100 : Int) (μ : Mu) : mR := g_M_loses_230 (fun pc ls st μ => mE z d q_M_loses pc ls st μ) v1 v6 v9 v100 μ
def g_M_loses_262 (E : Nat → List zv → List zv → Mu → mR) (v1 : Int) (v6 : Int) (v9 : Int) (μ : Mu) : mR := E 262 [(2, 86), (0, v1), (9, 0), (9, 0), (9, 0), (9, 0), (0, v6), (9, 0), (9, 0), (0, v9), (9, 0)] [] μ
noncomputable def f_M_loses_262 (z : zZ) (d : Nat) (v1 : Int) (v6 : Int) (v9 : Int) (μ : Mu) : mR := g_M_loses_262 (fun pc ls st μ => mE z d q_M_loses pc ls st μ) v1 v6 v9 μ
def g_M_loses_275 (E : Nat → List zv → List zv → Mu → mR) (μ : Mu) : mR := E 275 [(9, 0), (9, 0), (9, 0), (9, 0), (9, 0), (9, 0), (9, 0), (9, 0), (9, 0), (9, 0), (9, 0)] [] μ
noncomputable def f_M_loses_275 (z : zZ) (d : Nat) (μ : Mu) : mR := g_M_loses_275 (fun pc ls st μ => mE z d q_M_loses pc ls st μ) μ
theorem k_M_loses : zprK q_M_loses.2.2.2 = true ∧ zinc q_M_loses.2.2.2 = true := by decide +kernel
set_option maxRecDepth 100000 in
theorem c_M_loses (z : zZ) (d : Nat) (v1 : Int) (v2 : Int) (v3 : Int) (μ : Mu) : mC z (d + 1) 243 [(2, 86), (0, v1), (0, v2), (0, v3)] μ = (mC z d 244 [(2, 86)] μ).bind fun q1 => ((mC z d 245 [(2, 86), (0, v1), (0, v2)] q1.2).bind fun q2 => ((mC z d 202 [(2, 86), (0, zw (1 - v1)), (0, v3)] q2.2).bind fun q3 => ((mC z d 247 [(2, 86), (0, zw (1 - v1)), (0, v3)] (zup q3.2 110 4 q3.1)).bind fun q4 => ((mC z d 202 [(2, 86), (0, v1), (0, v2)] (zup (zup q4.2 110 5 q4.1) 110 6 q1.1)).bind fun q5 => ((mC z d 201 [(0, v1), (0, v2)] q5.2).bind fun q6 => ((mC z d 248 [(2, 86), (0, 102), (0, 8)] q6.2).bind fun q7 => (f_M_loses_74 z d v1 v2 v3 q1.1 q5.1 q6.1 q5.1 q7.1 q7.2))))))) := by
  rw [mC_succ q_M_loses rfl rfl rfl]
  rw [mE_bk (M := q_M_loses) k_M_loses.1 k_M_loses.2 [74, 114, 154, 230, 262, 275] 400]
  have key : ∀ (C : Nat → List zv → Mu → mR) (E : Nat → List zv → List zv → Mu → mR), mbk C E q_M_loses.1 q_M_loses.2.1 z q_M_loses.2.2.2 [74, 114, 154, 230, 262, 275] 400 (zfind q_M_loses.2.2.2 0) (zentry q_M_loses.2.2.1 [(2, 86), (0, v1), (0, v2), (0, v3)]) [] μ = (C 244 [(2, 86)] μ).bind fun q1 => ((C 245 [(2, 86), (0, v1), (0, v2)] q1.2).bind fun q2 => ((C 202 [(2, 86), (0, zw (1 - v1)), (0, v3)] q2.2).bind fun q3 => ((C 247 [(2, 86), (0, zw (1 - v1)), (0, v3)] (zup q3.2 110 4 q3.1)).bind fun q4 => ((C 202 [(2, 86), (0, v1), (0, v2)] (zup (zup q4.2 110 5 q4.1) 110 6 q1.1)).bind fun q5 => ((C 201 [(0, v1), (0, v2)] q5.2).bind fun q6 => ((C 248 [(2, 86), (0, 102), (0, 8)] q6.2).bind fun q7 => (g_M_loses_74 E v1 v2 v3 q1.1 q5.1 q6.1 q5.1 q7.1 q7.2))))))) := by
    intro C E
    rfl
  exact key _ _
set_option maxRecDepth 100000 in
theorem e_M_loses_74 (z : zZ) (d : Nat) (v1 : Int) (v2 : Int) (v3 : Int) (v4 : Int) (v5 : Int) (v6 : Int) (v100 : Int) (v101 : Int) (μ : Mu) : f_M_loses_74 z d v1 v2 v3 v4 v5 v6 v100 v101 μ = (mC z d 205 [(0, v100), (0, v101)] μ).bind fun q1 => ((mC z d 248 [(2, 86), (0, 112), (0, 8)] q1.2).bind fun q2 => ((mC z d 205 [(0, zw (v5 - q1.1)), (0, q2.1)] q2.2).bind fun q3 => (f_M_loses_114 z d v1 v2 v5 v6 q3.1 (zw ((zw (v5 - q1.1)) - q3.1)) (zw ((zw ((zw (v5 - q1.1)) - q3.1)) + q3.1)) q3.2))) := by
  show mE z d q_M_loses 74 [(2, 86), (0, v1), (0, v2), (0, v3), (0, v4), (0, v5), (0, v6), (9, 0), (9, 0), (9, 0), (9, 0)] [(0, v101), (0, v100)] μ = _
  rw [mE_bk (M := q_M_loses) k_M_loses.1 k_M_loses.2 [74, 114, 154, 230, 262, 275] 400]
  have key : ∀ (C : Nat → List zv → Mu → mR) (E : Nat → List zv → List zv → Mu → mR), mbk C E q_M_loses.1 q_M_loses.2.1 z q_M_loses.2.2.2 [74, 114, 154, 230, 262, 275] 400 (zfind q_M_loses.2.2.2 74) [(2, 86), (0, v1), (0, v2), (0, v3), (0, v4), (0, v5), (0, v6), (9, 0), (9, 0), (9, 0), (9, 0)] [(0, v101), (0, v100)] μ = (C 205 [(0, v100), (0, v101)] μ).bind fun q1 => ((C 248 [(2, 86), (0, 112), (0, 8)] q1.2).bind fun q2 => ((C 205 [(0, zw (v5 - q1.1)), (0, q2.1)] q2.2).bind fun q3 => (g_M_loses_114 E v1 v2 v5 v6 q3.1 (zw ((zw (v5 - q1.1)) - q3.1)) (zw ((zw ((zw (v5 - q1.1)) - q3.1)) + q3.1)) q3.2))) := by
    intro C E
    rfl
  exact key _ _
set_option maxRecDepth 100000 in
theorem e_M_loses_114 (z : zZ) (d : Nat) (v1 : Int) (v2 : Int) (v5 : Int) (v6 : Int) (v8 : Int) (v9 : Int) (v10 : Int) (μ : Mu) : f_M_loses_114 z d v1 v2 v5 v6 v8 v9 v10 μ = bif decide (v5 ≤ v10) then (f_M_loses_154 z d v1 v2 v5 v6 v8 v9 v9 μ) else (gI (zw (v6 + v10)) 192 ((mC z d 204 [(2, 91), (0, zw ((zw (12 * v1)) + (μ 94 ((zw (v6 + v10)).toNat)))), (0, 1)] μ).bind fun q1 => (f_M_loses_114 z d v1 v2 v5 v6 v8 v9 (zw (v10 + 1)) q1.2))) := by
  show mE z d q_M_loses 114 [(2, 86), (0, v1), (0, v2), (9, 0), (9, 0), (0, v5), (0, v6), (9, 0), (0, v8), (0, v9), (0, v10)] [] μ = _
  rw [mE_bk (M := q_M_loses) k_M_loses.1 k_M_loses.2 [74, 114, 154, 230, 262, 275] 400]
  have key : ∀ (C : Nat → List zv → Mu → mR) (E : Nat → List zv → List zv → Mu → mR), mbk C E q_M_loses.1 q_M_loses.2.1 z q_M_loses.2.2.2 [74, 114, 154, 230, 262, 275] 400 (zfind q_M_loses.2.2.2 114) [(2, 86), (0, v1), (0, v2), (9, 0), (9, 0), (0, v5), (0, v6), (9, 0), (0, v8), (0, v9), (0, v10)] [] μ = bif decide (v5 ≤ v10) then (g_M_loses_154 E v1 v2 v5 v6 v8 v9 v9 μ) else (gI (zw (v6 + v10)) 192 ((C 204 [(2, 91), (0, zw ((zw (12 * v1)) + (μ 94 ((zw (v6 + v10)).toNat)))), (0, 1)] μ).bind fun q1 => (g_M_loses_114 E v1 v2 v5 v6 v8 v9 (zw (v10 + 1)) q1.2))) := by
    intro C E
    rfl
  exact key _ _
set_option maxRecDepth 100000 in
theorem e_M_loses_154 (z : zZ) (d : Nat) (v1 : Int) (v2 : Int) (v5 : Int) (v6 : Int) (v8 : Int) (v9 : Int) (v10 : Int) (μ : Mu) : f_M_loses_154 z d v1 v2 v5 v6 v8 v9 v10 μ = bif decide (zw (v9 + v8) ≤ v10) then (bif !decide (v9 = v5) then ((mC z d 238 [(2, 86), (0, v1), (0, v2), (0, 0)] μ).bind fun q1 => (bif !decide (v9 = 0) then ((mC z d 206 [(2, 86), (0, v1), (2, 94), (0, v6), (0, v9)] q1.2).bind fun q2 => (f_M_loses_230 z d v1 v6 v9 q2.1 q2.2)) else (f_M_loses_230 z d v1 v6 v9 ((-1)) q1.2))) else (some (0, μ))) else (gI (zw (v6 + v10)) 192 ((mC z d 204 [(2, 92), (0, zw ((zw (12 * v1)) + (μ 94 ((zw (v6 + v10)).toNat)))), (0, 1)] μ).bind fun q3 => (f_M_loses_154 z d v1 v2 v5 v6 v8 v9 (zw (v10 + 1)) q3.2))) := by
  show mE z d q_M_loses 154 [(2, 86), (0, v1), (0, v2), (9, 0), (9, 0), (0, v5), (0, v6), (9, 0), (0, v8), (0, v9), (0, v10)] [] μ = _
  rw [mE_bk (M := q_M_loses) k_M_loses.1 k_M_loses.2 [74, 114, 154, 230, 262, 275] 400]
  have key : ∀ (C : Nat → List zv → Mu → mR) (E : Nat → List zv → List zv → Mu → mR), mbk C E q_M_loses.1 q_M_loses.2.1 z q_M_loses.2.2.2 [74, 114, 154, 230, 262, 275] 400 (zfind q_M_loses.2.2.2 154) [(2, 86), (0, v1), (0, v2), (9, 0), (9, 0), (0, v5), (0, v6), (9, 0), (0, v8), (0, v9), (0, v10)] [] μ = bif decide (zw (v9 + v8) ≤ v10) then (bif !decide (v9 = v5) then ((C 238 [(2, 86), (0, v1), (0, v2), (0, 0)] μ).bind fun q1 => (bif !decide (v9 = 0) then ((C 206 [(2, 86), (0, v1), (2, 94), (0, v6), (0, v9)] q1.2).bind fun q2 => (g_M_loses_230 E v1 v6 v9 q2.1 q2.2)) else (g_M_loses_230 E v1 v6 v9 ((-1)) q1.2))) else (some (0, μ))) else (gI (zw (v6 + v10)) 192 ((C 204 [(2, 92), (0, zw ((zw (12 * v1)) + (μ 94 ((zw (v6 + v10)).toNat)))), (0, 1)] μ).bind fun q3 => (g_M_loses_154 E v1 v2 v5 v6 v8 v9 (zw (v10 + 1)) q3.2))) := by
    intro C E
    rfl
  exact key _ _
set_option maxRecDepth 100000 in
theorem e_M_loses_230 (z : zZ) (d : Nat) (v1 : Int) (v6 : Int) (v9 : Int) (v100 : Int) (μ : Mu) : f_M_loses_230 z d v1 v6 v9 v100 μ = bif decide (v100 = (-1)) then (f_M_loses_262 z d v1 v6 v9 μ) else ((mC z d 199 [(2, 86), (0, v1)] μ).bind fun q1 => ((mC z d 189 [(0, q1.1), (0, v100)] q1.2).bind fun q2 => (bif !decide (q2.1 = 0) then (f_M_loses_262 z d v1 v6 v9 q2.2) else ((mC z d 238 [(2, 86), (0, v1), (0, v100), (0, 1)] q2.2).bind fun q3 => (f_M_loses_275 z d q3.2))))) := by
  show mE z d q_M_loses 230 [(2, 86), (0, v1), (9, 0), (9, 0), (9, 0), (9, 0), (0, v6), (9, 0), (9, 0), (0, v9), (9, 0)] [(0, v100)] μ = _
  rw [mE_bk (M := q_M_loses) k_M_loses.1 k_M_loses.2 [74, 114, 154, 230, 262, 275] 400]
  have key : ∀ (C : Nat → List zv → Mu → mR) (E : Nat → List zv → List zv → Mu → mR), mbk C E q_M_loses.1 q_M_loses.2.1 z q_M_loses.2.2.2 [74, 114, 154, 230, 262, 275] 400 (zfind q_M_loses.2.2.2 230) [(2, 86), (0, v1), (9, 0), (9, 0), (9, 0), (9, 0), (0, v6), (9, 0), (9, 0), (0, v9), (9, 0)] [(0, v100)] μ = bif decide (v100 = (-1)) then (g_M_loses_262 E v1 v6 v9 μ) else ((C 199 [(2, 86), (0, v1)] μ).bind fun q1 => ((C 189 [(0, q1.1), (0, v100)] q1.2).bind fun q2 => (bif !decide (q2.1 = 0) then (g_M_loses_262 E v1 v6 v9 q2.2) else ((C 238 [(2, 86), (0, v1), (0, v100), (0, 1)] q2.2).bind fun q3 => (g_M_loses_275 E q3.2))))) := by
    intro C E
    rfl
  exact key _ _
set_option maxRecDepth 100000 in
theorem e_M_loses_262 (z : zZ) (d : Nat) (v1 : Int) (v6 : Int) (v9 : Int) (μ : Mu) : f_M_loses_262 z d v1 v6 v9 μ = (mC z d 203 [(2, 86), (0, v1), (2, 94), (0, v6), (0, v9)] μ).bind fun q1 => (f_M_loses_275 z d q1.2) := by
  show mE z d q_M_loses 262 [(2, 86), (0, v1), (9, 0), (9, 0), (9, 0), (9, 0), (0, v6), (9, 0), (9, 0), (0, v9), (9, 0)] [] μ = _
  rw [mE_bk (M := q_M_loses) k_M_loses.1 k_M_loses.2 [74, 114, 154, 230, 262, 275] 400]
  have key : ∀ (C : Nat → List zv → Mu → mR) (E : Nat → List zv → List zv → Mu → mR), mbk C E q_M_loses.1 q_M_loses.2.1 z q_M_loses.2.2.2 [74, 114, 154, 230, 262, 275] 400 (zfind q_M_loses.2.2.2 262) [(2, 86), (0, v1), (9, 0), (9, 0), (9, 0), (9, 0), (0, v6), (9, 0), (9, 0), (0, v9), (9, 0)] [] μ = (C 203 [(2, 86), (0, v1), (2, 94), (0, v6), (0, v9)] μ).bind fun q1 => (g_M_loses_275 E q1.2) := by
    intro C E
    rfl
  exact key _ _
set_option maxRecDepth 100000 in
theorem e_M_loses_275 (z : zZ) (d : Nat) (μ : Mu) : f_M_loses_275 z d μ = some (0, μ) := by
  show mE z d q_M_loses 275 [(9, 0), (9, 0), (9, 0), (9, 0), (9, 0), (9, 0), (9, 0), (9, 0), (9, 0), (9, 0), (9, 0)] [] μ = _
  rw [mE_bk (M := q_M_loses) k_M_loses.1 k_M_loses.2 [74, 114, 154, 230, 262, 275] 400]
  have key : ∀ (C : Nat → List zv → Mu → mR) (E : Nat → List zv → List zv → Mu → mR), mbk C E q_M_loses.1 q_M_loses.2.1 z q_M_loses.2.2.2 [74, 114, 154, 230, 262, 275] 400 (zfind q_M_loses.2.2.2 275) [(9, 0), (9, 0), (9, 0), (9, 0), (9, 0), (9, 0), (9, 0), (9, 0), (9, 0), (9, 0), (9, 0)] [] μ = some (0, μ) := by
    intro C E
    rfl
  exact key _ _
theorem k_M_draws : zprK q_M_draws.2.2.2 = true ∧ zinc q_M_draws.2.2.2 = true := by decide +kernel
set_option maxRecDepth 100000 in
theorem c_M_draws (z : zZ) (d : Nat) (μ : Mu) : mC z (d + 1) 244 [(2, 86)] μ = some (z_rem (z_rem (zw ((zw (25173 * (μ 86 0))) + 13849)) 65536) 10, zup μ 86 0 (z_rem (zw ((zw (25173 * (μ 86 0))) + 13849)) 65536)) := by
  rw [mC_succ q_M_draws rfl rfl rfl]
  rw [mE_bk (M := q_M_draws) k_M_draws.1 k_M_draws.2 [] 400]
  have key : ∀ (C : Nat → List zv → Mu → mR) (E : Nat → List zv → List zv → Mu → mR), mbk C E q_M_draws.1 q_M_draws.2.1 z q_M_draws.2.2.2 [] 400 (zfind q_M_draws.2.2.2 0) (zentry q_M_draws.2.2.1 [(2, 86)]) [] μ = some (z_rem (z_rem (zw ((zw (25173 * (μ 86 0))) + 13849)) 65536) 10, zup μ 86 0 (z_rem (zw ((zw (25173 * (μ 86 0))) + 13849)) 65536)) := by
    intro C E
    rfl
  exact key _ _
theorem k_M_feelsWord : zprK q_M_feelsWord.2.2.2 = true ∧ zinc q_M_feelsWord.2.2.2 = true := by decide +kernel
set_option maxRecDepth 100000 in
theorem c_M_feelsWord (z : zZ) (d : Nat) (v1 : Int) (v2 : Int) (μ : Mu) : mC z (d + 1) 245 [(2, 86), (0, v1), (0, v2)] μ = (mC z d 246 [(2, 86), (0, v1)] μ).bind fun q1 => ((mC z d 202 [(2, 86), (0, v1), (0, v2)] q1.2).bind fun q2 => ((mC z d 247 [(2, 86), (0, v1), (0, v2)] (zup q2.2 110 2 q2.1)).bind fun q3 => (some (0, zup q3.2 110 3 q3.1)))) := by
  rw [mC_succ q_M_feelsWord rfl rfl rfl]
  rw [mE_bk (M := q_M_feelsWord) k_M_feelsWord.1 k_M_feelsWord.2 [] 400]
  have key : ∀ (C : Nat → List zv → Mu → mR) (E : Nat → List zv → List zv → Mu → mR), mbk C E q_M_feelsWord.1 q_M_feelsWord.2.1 z q_M_feelsWord.2.2.2 [] 400 (zfind q_M_feelsWord.2.2.2 0) (zentry q_M_feelsWord.2.2.1 [(2, 86), (0, v1), (0, v2)]) [] μ = (C 246 [(2, 86), (0, v1)] μ).bind fun q1 => ((C 202 [(2, 86), (0, v1), (0, v2)] q1.2).bind fun q2 => ((C 247 [(2, 86), (0, v1), (0, v2)] (zup q2.2 110 2 q2.1)).bind fun q3 => (some (0, zup q3.2 110 3 q3.1)))) := by
    intro C E
    rfl
  exact key _ _
def g_M_feels_2 (E : Nat → List zv → List zv → Mu → mR) (v1 : Int) (v2 : Int) (μ : Mu) : mR := E 2 [(2, 86), (0, v1), (0, v2)] [] μ
noncomputable def f_M_feels_2 (z : zZ) (d : Nat) (v1 : Int) (v2 : Int) (μ : Mu) : mR := g_M_feels_2 (fun pc ls st μ => mE z d q_M_feels pc ls st μ) v1 v2 μ
theorem k_M_feels : zprK q_M_feels.2.2.2 = true ∧ zinc q_M_feels.2.2.2 = true := by decide +kernel
set_option maxRecDepth 100000 in
theorem c_M_feels (z : zZ) (d : Nat) (v1 : Int) (μ : Mu) : mC z (d + 1) 246 [(2, 86), (0, v1)] μ = f_M_feels_2 z d v1 0 μ := by
  rw [mC_succ q_M_feels rfl rfl rfl]
  rw [mE_bk (M := q_M_feels) k_M_feels.1 k_M_feels.2 [2] 400]
  have key : ∀ (C : Nat → List zv → Mu → mR) (E : Nat → List zv → List zv → Mu → mR), mbk C E q_M_feels.1 q_M_feels.2.1 z q_M_feels.2.2.2 [2] 400 (zfind q_M_feels.2.2.2 0) (zentry q_M_feels.2.2.1 [(2, 86), (0, v1)]) [] μ = g_M_feels_2 E v1 0 μ := by
    intro C E
    rfl
  exact key _ _
set_option maxRecDepth 100000 in
theorem e_M_feels_2 (z : zZ) (d : Nat) (v1 : Int) (v2 : Int) (μ : Mu) : f_M_feels_2 z d v1 v2 μ = bif decide (10 ≤ v2) then (some (0, zup (zup μ 110 0 (μ 86 1)) 110 1 v1)) else (gI v2 10 (f_M_feels_2 z d v1 (zw (v2 + 1)) (zup μ 110 v2.toNat 0))) := by
  show mE z d q_M_feels 2 [(2, 86), (0, v1), (0, v2)] [] μ = _
  rw [mE_bk (M := q_M_feels) k_M_feels.1 k_M_feels.2 [2] 400]
  have key : ∀ (C : Nat → List zv → Mu → mR) (E : Nat → List zv → List zv → Mu → mR), mbk C E q_M_feels.1 q_M_feels.2.1 z q_M_feels.2.2.2 [2] 400 (zfind q_M_feels.2.2.2 2) [(2, 86), (0, v1), (0, v2)] [] μ = bif decide (10 ≤ v2) then (some (0, zup (zup μ 110 0 (μ 86 1)) 110 1 v1)) else (gI v2 10 (g_M_feels_2 E v1 (zw (v2 + 1)) (zup μ 110 v2.toNat 0))) := by
    intro C E
    rfl
  exact key _ _
def g_M_strengthIn_5 (E : Nat → List zv → List zv → Mu → mR) (v1 : Int) (v2 : Int) (v3 : Int) (v4 : Int) (μ : Mu) : mR := E 5 [(2, 86), (0, v1), (0, v2), (0, v3), (0, v4)] [] μ
noncomputable def f_M_strengthIn_5 (z : zZ) (d : Nat) (v1 : Int) (v2 : Int) (v3 : Int) (v4 : Int) (μ : Mu) : mR := g_M_strengthIn_5 (fun pc ls st μ => mE z d q_M_strengthIn pc ls st μ) v1 v2 v3 v4 μ
theorem k_M_strengthIn : zprK q_M_strengthIn.2.2.2 = true ∧ zinc q_M_strengthIn.2.2.2 = true := by decide +kernel
set_option maxRecDepth 100000 in
theorem c_M_strengthIn (z : zZ) (d : Nat) (v1 : Int) (v2 : Int) (μ : Mu) : mC z (d + 1) 247 [(2, 86), (0, v1), (0, v2)] μ = f_M_strengthIn_5 z d v1 v2 0 0 μ := by
  rw [mC_succ q_M_strengthIn rfl rfl rfl]
  rw [mE_bk (M := q_M_strengthIn) k_M_strengthIn.1 k_M_strengthIn.2 [5] 400]
  have key : ∀ (C : Nat → List zv → Mu → mR) (E : Nat → List zv → List zv → Mu → mR), mbk C E q_M_strengthIn.1 q_M_strengthIn.2.1 z q_M_strengthIn.2.2.2 [5] 400 (zfind q_M_strengthIn.2.2.2 0) (zentry q_M_strengthIn.2.2.1 [(2, 86), (0, v1), (0, v2)]) [] μ = g_M_strengthIn_5 E v1 v2 0 0 μ := by
    intro C E
    rfl
  exact key _ _
set_option maxRecDepth 100000 in
theorem e_M_strengthIn_5 (z : zZ) (d : Nat) (v1 : Int) (v2 : Int) (v3 : Int) (v4 : Int) (μ : Mu) : f_M_strengthIn_5 z d v1 v2 v3 v4 μ = (mC z d 202 [(2, 86), (0, v1), (0, v2)] μ).bind fun q1 => (bif decide (q1.1 ≤ v4) then (some (v3, q1.2)) else ((mC z d 201 [(0, v1), (0, v2)] q1.2).bind fun q2 => (gI (zw (q2.1 + v4)) 192 (gI (q2.2 94 ((zw (q2.1 + v4)).toNat)) 12 (f_M_strengthIn_5 z d v1 v2 (zw (v3 + (q2.2 87 ((q2.2 94 ((zw (q2.1 + v4)).toNat)).toNat)))) (zw (v4 + 1)) q2.2))))) := by
  show mE z d q_M_strengthIn 5 [(2, 86), (0, v1), (0, v2), (0, v3), (0, v4)] [] μ = _
  rw [mE_bk (M := q_M_strengthIn) k_M_strengthIn.1 k_M_strengthIn.2 [5] 400]
  have key : ∀ (C : Nat → List zv → Mu → mR) (E : Nat → List zv → List zv → Mu → mR), mbk C E q_M_strengthIn.1 q_M_strengthIn.2.1 z q_M_strengthIn.2.2.2 [5] 400 (zfind q_M_strengthIn.2.2.2 5) [(2, 86), (0, v1), (0, v2), (0, v3), (0, v4)] [] μ = (C 202 [(2, 86), (0, v1), (0, v2)] μ).bind fun q1 => (bif decide (q1.1 ≤ v4) then (some (v3, q1.2)) else ((C 201 [(0, v1), (0, v2)] q1.2).bind fun q2 => (gI (zw (q2.1 + v4)) 192 (gI (q2.2 94 ((zw (q2.1 + v4)).toNat)) 12 (g_M_strengthIn_5 E v1 v2 (zw (v3 + (q2.2 87 ((q2.2 94 ((zw (q2.1 + v4)).toNat)).toNat)))) (zw (v4 + 1)) q2.2))))) := by
    intro C E
    rfl
  exact key _ _
def g_M_byLaw_2 (E : Nat → List zv → List zv → Mu → mR) (v1 : Int) (v2 : Int) (v3 : Int) (μ : Mu) : mR := E 2 [(2, 86), (0, v1), (0, v2), (0, v3), (9, 0)] [] μ
noncomputable def f_M_byLaw_2 (z : zZ) (d : Nat) (v1 : Int) (v2 : Int) (v3 : Int) (μ : Mu) : mR := g_M_byLaw_2 (fun pc ls st μ => mE z d q_M_byLaw pc ls st μ) v1 v2 v3 μ
def g_M_byLaw_70 (E : Nat → List zv → List zv → Mu → mR) (v2 : Int) (v4 : Int) (μ : Mu) : mR := E 70 [(9, 0), (9, 0), (0, v2), (9, 0), (0, v4)] [] μ
noncomputable def f_M_byLaw_70 (z : zZ) (d : Nat) (v2 : Int) (v4 : Int) (μ : Mu) : mR := g_M_byLaw_70 (fun pc ls st μ => mE z d q_M_byLaw pc ls st μ) v2 v4 μ
def g_M_byLaw_82 (E : Nat → List zv → List zv → Mu → mR) (v100 : Int) (μ : Mu) : mR := E 82 [(9, 0), (9, 0), (9, 0), (9, 0), (9, 0)] [(0, v100)] μ
noncomputable def f_M_byLaw_82 (z : zZ) (d : Nat) (v100 : Int) (μ : Mu) : mR := g_M_byLaw_82 (fun pc ls st μ => mE z d q_M_byLaw pc ls st μ) v100 μ
def g_M_byLaw_83 (E : Nat → List zv → List zv → Mu → mR) (v1 : Int) (v2 : Int) (v3 : Int) (μ : Mu) : mR := E 83 [(2, 86), (0, v1), (0, v2), (0, v3), (9, 0)] [] μ
noncomputable def f_M_byLaw_83 (z : zZ) (d : Nat) (v1 : Int) (v2 : Int) (v3 : Int) (μ : Mu) : mR := g_M_byLaw_83 (fun pc ls st μ => mE z d q_M_byLaw pc ls st μ) v1 v2 v3 μ
theorem k_M_byLaw : zprK q_M_byLaw.2.2.2 = true ∧ zinc q_M_byLaw.2.2.2 = true := by decide +kernel
set_option maxRecDepth 100000 in
theorem c_M_byLaw (z : zZ) (d : Nat) (v1 : Int) (v2 : Int) (μ : Mu) : mC z (d + 1) 248 [(2, 86), (0, v1), (0, v2)] μ = f_M_byLaw_2 z d v1 v2 0 μ := by
  rw [mC_succ q_M_byLaw rfl rfl rfl]
  rw [mE_bk (M := q_M_byLaw) k_M_byLaw.1 k_M_byLaw.2 [2, 70, 82, 83] 400]
  have key : ∀ (C : Nat → List zv → Mu → mR) (E : Nat → List zv → List zv → Mu → mR), mbk C E q_M_byLaw.1 q_M_byLaw.2.1 z q_M_byLaw.2.2.2 [2, 70, 82, 83] 400 (zfind q_M_byLaw.2.2.2 0) (zentry q_M_byLaw.2.2.1 [(2, 86), (0, v1), (0, v2)]) [] μ = g_M_byLaw_2 E v1 v2 0 μ := by
    intro C E
    rfl
  exact key _ _
set_option maxRecDepth 100000 in
theorem e_M_byLaw_2 (z : zZ) (d : Nat) (v1 : Int) (v2 : Int) (v3 : Int) (μ : Mu) : f_M_byLaw_2 z d v1 v2 v3 μ = bif decide (μ 86 27 ≤ v3) then (some (0, μ)) else (gI v3 14 (bif !decide (μ 105 v3.toNat = v1) then (f_M_byLaw_83 z d v1 v2 v3 μ) else (gI v3 14 (gI v3 14 ((mC z d 249 [(2, 86), (0, μ 107 v3.toNat), (0, μ 108 v3.toNat)] μ).bind fun q1 => (bif decide (q1.1 = 1) then (gI v3 14 (gI v3 14 ((mC z d 249 [(2, 86), (0, q1.2 106 v3.toNat), (0, q1.2 107 v3.toNat)] q1.2).bind fun q2 => (bif decide (0 ≤ q2.1) then (f_M_byLaw_70 z d v2 q2.1 q2.2) else (f_M_byLaw_82 z d 0 q2.2))))) else (f_M_byLaw_83 z d v1 v2 v3 q1.2))))))) := by
  show mE z d q_M_byLaw 2 [(2, 86), (0, v1), (0, v2), (0, v3), (9, 0)] [] μ = _
  rw [mE_bk (M := q_M_byLaw) k_M_byLaw.1 k_M_byLaw.2 [2, 70, 82, 83] 400]
  have key : ∀ (C : Nat → List zv → Mu → mR) (E : Nat → List zv → List zv → Mu → mR), mbk C E q_M_byLaw.1 q_M_byLaw.2.1 z q_M_byLaw.2.2.2 [2, 70, 82, 83] 400 (zfind q_M_byLaw.2.2.2 2) [(2, 86), (0, v1), (0, v2), (0, v3), (9, 0)] [] μ = bif decide (μ 86 27 ≤ v3) then (some (0, μ)) else (gI v3 14 (bif !decide (μ 105 v3.toNat = v1) then (g_M_byLaw_83 E v1 v2 v3 μ) else (gI v3 14 (gI v3 14 ((C 249 [(2, 86), (0, μ 107 v3.toNat), (0, μ 108 v3.toNat)] μ).bind fun q1 => (bif decide (q1.1 = 1) then (gI v3 14 (gI v3 14 ((C 249 [(2, 86), (0, q1.2 106 v3.toNat), (0, q1.2 107 v3.toNat)] q1.2).bind fun q2 => (bif decide (0 ≤ q2.1) then (g_M_byLaw_70 E v2 q2.1 q2.2) else (g_M_byLaw_82 E 0 q2.2))))) else (g_M_byLaw_83 E v1 v2 v3 q1.2))))))) := by
    intro C E
    rfl
  exact key _ _
set_option maxRecDepth 100000 in
theorem e_M_byLaw_83 (z : zZ) (d : Nat) (v1 : Int) (v2 : Int) (v3 : Int) (μ : Mu) : f_M_byLaw_83 z d v1 v2 v3 μ = f_M_byLaw_2 z d v1 v2 (zw (v3 + 1)) μ := by
  show mE z d q_M_byLaw 83 [(2, 86), (0, v1), (0, v2), (0, v3), (9, 0)] [] μ = _
  rw [mE_bk (M := q_M_byLaw) k_M_byLaw.1 k_M_byLaw.2 [2, 70, 82, 83] 400]
  have key : ∀ (C : Nat → List zv → Mu → mR) (E : Nat → List zv → List zv → Mu → mR), mbk C E q_M_byLaw.1 q_M_byLaw.2.1 z q_M_byLaw.2.2.2 [2, 70, 82, 83] 400 (zfind q_M_byLaw.2.2.2 83) [(2, 86), (0, v1), (0, v2), (0, v3), (9, 0)] [] μ = g_M_byLaw_2 E v1 v2 (zw (v3 + 1)) μ := by
    intro C E
    rfl
  exact key _ _
set_option maxRecDepth 100000 in
theorem e_M_byLaw_70 (z : zZ) (d : Nat) (v2 : Int) (v4 : Int) (μ : Mu) : f_M_byLaw_70 z d v2 v4 μ = bif decide (v4 ≤ v2) then (f_M_byLaw_82 z d v4 μ) else (f_M_byLaw_82 z d v2 μ) := by
  show mE z d q_M_byLaw 70 [(9, 0), (9, 0), (0, v2), (9, 0), (0, v4)] [] μ = _
  rw [mE_bk (M := q_M_byLaw) k_M_byLaw.1 k_M_byLaw.2 [2, 70, 82, 83] 400]
  have key : ∀ (C : Nat → List zv → Mu → mR) (E : Nat → List zv → List zv → Mu → mR), mbk C E q_M_byLaw.1 q_M_byLaw.2.1 z q_M_byLaw.2.2.2 [2, 70, 82, 83] 400 (zfind q_M_byLaw.2.2.2 70) [(9, 0), (9, 0), (0, v2), (9, 0), (0, v4)] [] μ = bif decide (v4 ≤ v2) then (g_M_byLaw_82 E v4 μ) else (g_M_byLaw_82 E v2 μ) := by
    intro C E
    rfl
  exact key _ _
set_option maxRecDepth 100000 in
theorem e_M_byLaw_82 (z : zZ) (d : Nat) (v100 : Int) (μ : Mu) : f_M_byLaw_82 z d v100 μ = some (v100, μ) := by
  show mE z d q_M_byLaw 82 [(9, 0), (9, 0), (9, 0), (9, 0), (9, 0)] [(0, v100)] μ = _
  rw [mE_bk (M := q_M_byLaw) k_M_byLaw.1 k_M_byLaw.2 [2, 70, 82, 83] 400]
  have key : ∀ (C : Nat → List zv → Mu → mR) (E : Nat → List zv → List zv → Mu → mR), mbk C E q_M_byLaw.1 q_M_byLaw.2.1 z q_M_byLaw.2.2.2 [2, 70, 82, 83] 400 (zfind q_M_byLaw.2.2.2 82) [(9, 0), (9, 0), (9, 0), (9, 0), (9, 0)] [(0, v100)] μ = some (v100, μ) := by
    intro C E
    rfl
  exact key _ _
