def g_M_areExchanged_39 (E : Nat → List zv → List zv → Mu → mR) (μ : Mu) : mR := E 39 [(9, 0), (9, 0), (9, 0), (9, 0)] [] μ
noncomputable def f_M_areExchanged_39 (z : zZ) (d : Nat) (μ : Mu) : mR := g_M_areExchanged_39 (fun pc ls st μ => mE z d q_M_areExchanged pc ls st μ) μ
def g_M_areExchanged_40 (E : Nat → List zv → List zv → Mu → mR) (v100 : Int) (μ : Mu) : mR := E 40 [(9, 0), (9, 0), (9, 0), (9, 0)] [(0, v100)] μ
noncomputable def f_M_areExchanged_40 (z : zZ) (d : Nat) (v100 : Int) (μ : Mu) : mR := g_M_areExchanged_40 (fun pc ls st μ => mE z d q_M_areExchanged pc ls st μ) v100 μ
theorem k_M_areExchanged : zprK q_M_areExchanged.2.2.2 = true ∧ zinc q_M_areExchanged.2.2.2 = true := by decide +kernel
set_option maxRecDepth 100000 in
theorem c_M_areExchanged (z : zZ) (d : Nat) (v1 : Int) (v2 : Int) (v3 : Int) (μ : Mu) : mC z (d + 1) 271 [(2, 86), (0, v1), (0, v2), (0, v3)] μ = bif decide (v2 = v3) then (f_M_areExchanged_39 z d μ) else (gI (zw ((zw (12 * v1)) + v2)) 24 (bif decide (μ 90 ((zw ((zw (12 * v1)) + v2)).toNat) ≤ 0) then (f_M_areExchanged_39 z d μ) else (gI (zw ((zw (12 * (zw (1 - v1)))) + v3)) 24 (bif decide (μ 90 ((zw ((zw (12 * (zw (1 - v1)))) + v3)).toNat) ≤ 0) then (f_M_areExchanged_39 z d μ) else (f_M_areExchanged_40 z d 1 μ))))) := by
  rw [mC_succ q_M_areExchanged rfl rfl rfl]
  rw [mE_bk (M := q_M_areExchanged) k_M_areExchanged.1 k_M_areExchanged.2 [39, 40] 400]
  have key : ∀ (C : Nat → List zv → Mu → mR) (E : Nat → List zv → List zv → Mu → mR), mbk C E q_M_areExchanged.1 q_M_areExchanged.2.1 z q_M_areExchanged.2.2.2 [39, 40] 400 (zfind q_M_areExchanged.2.2.2 0) (zentry q_M_areExchanged.2.2.1 [(2, 86), (0, v1), (0, v2), (0, v3)]) [] μ = bif decide (v2 = v3) then (g_M_areExchanged_39 E μ) else (gI (zw ((zw (12 * v1)) + v2)) 24 (bif decide (μ 90 ((zw ((zw (12 * v1)) + v2)).toNat) ≤ 0) then (g_M_areExchanged_39 E μ) else (gI (zw ((zw (12 * (zw (1 - v1)))) + v3)) 24 (bif decide (μ 90 ((zw ((zw (12 * (zw (1 - v1)))) + v3)).toNat) ≤ 0) then (g_M_areExchanged_39 E μ) else (g_M_areExchanged_40 E 1 μ))))) := by
    intro C E
    rfl
  exact key _ _
set_option maxRecDepth 100000 in
theorem e_M_areExchanged_39 (z : zZ) (d : Nat) (μ : Mu) : f_M_areExchanged_39 z d μ = f_M_areExchanged_40 z d 0 μ := by
  show mE z d q_M_areExchanged 39 [(9, 0), (9, 0), (9, 0), (9, 0)] [] μ = _
  rw [mE_bk (M := q_M_areExchanged) k_M_areExchanged.1 k_M_areExchanged.2 [39, 40] 400]
  have key : ∀ (C : Nat → List zv → Mu → mR) (E : Nat → List zv → List zv → Mu → mR), mbk C E q_M_areExchanged.1 q_M_areExchanged.2.1 z q_M_areExchanged.2.2.2 [39, 40] 400 (zfind q_M_areExchanged.2.2.2 39) [(9, 0), (9, 0), (9, 0), (9, 0)] [] μ = g_M_areExchanged_40 E 0 μ := by
    intro C E
    rfl
  exact key _ _
set_option maxRecDepth 100000 in
theorem e_M_areExchanged_40 (z : zZ) (d : Nat) (v100 : Int) (μ : Mu) : f_M_areExchanged_40 z d v100 μ = g01 v100 (some (v100, μ)) := by
  show mE z d q_M_areExchanged 40 [(9, 0), (9, 0), (9, 0), (9, 0)] [(0, v100)] μ = _
  rw [mE_bk (M := q_M_areExchanged) k_M_areExchanged.1 k_M_areExchanged.2 [39, 40] 400]
  have key : ∀ (C : Nat → List zv → Mu → mR) (E : Nat → List zv → List zv → Mu → mR), mbk C E q_M_areExchanged.1 q_M_areExchanged.2.1 z q_M_areExchanged.2.2.2 [39, 40] 400 (zfind q_M_areExchanged.2.2.2 40) [(9, 0), (9, 0), (9, 0), (9, 0)] [(0, v100)] μ = g01 v100 (some (v100, μ)) := by
    intro C E
    rfl
  exact key _ _
def g_M_exchanges_66 (E : Nat → List zv → List zv → Mu → mR) (v1 : Int) (v2 : Int) (v3 : Int) (v4 : Int) (v5 : Int) (μ : Mu) : mR := E 66 [(2, 86), (0, v1), (0, v2), (0, v3), (0, v4), (0, v5)] [] μ
noncomputable def f_M_exchanges_66 (z : zZ) (d : Nat) (v1 : Int) (v2 : Int) (v3 : Int) (v4 : Int) (v5 : Int) (μ : Mu) : mR := g_M_exchanges_66 (fun pc ls st μ => mE z d q_M_exchanges pc ls st μ) v1 v2 v3 v4 v5 μ
theorem k_M_exchanges : zprK q_M_exchanges.2.2.2 = true ∧ zinc q_M_exchanges.2.2.2 = true := by decide +kernel
set_option maxRecDepth 100000 in
theorem c_M_exchanges (z : zZ) (d : Nat) (v1 : Int) (v2 : Int) (v3 : Int) (μ : Mu) : mC z (d + 1) 272 [(2, 86), (0, v1), (0, v2), (0, v3)] μ = gI (zw ((zw (12 * v1)) + v2)) 24 (gI (zw ((zw (12 * v1)) + v2)) 24 (gI (zw ((zw (12 * (zw (1 - v1)))) + v3)) 24 (gI (zw ((zw (12 * (zw (1 - v1)))) + v3)) 24 ((mC z d 204 [(2, 90), (0, zw ((zw (12 * v1)) + v3)), (0, 1)] (zup (zup μ 90 ((zw ((zw (12 * v1)) + v2)).toNat) (zw ((μ 90 ((zw ((zw (12 * v1)) + v2)).toNat)) - 1))) 90 ((zw ((zw (12 * (zw (1 - v1)))) + v3)).toNat) (zw (((zup μ 90 ((zw ((zw (12 * v1)) + v2)).toNat) (zw ((μ 90 ((zw ((zw (12 * v1)) + v2)).toNat)) - 1))) 90 ((zw ((zw (12 * (zw (1 - v1)))) + v3)).toNat)) - 1)))).bind fun q1 => (f_M_exchanges_66 z d v1 v2 v3 (zw (12 * v1)) (zw (12 * (zw (1 - v1)))) q1.2))))) := by
  rw [mC_succ q_M_exchanges rfl rfl rfl]
  rw [mE_bk (M := q_M_exchanges) k_M_exchanges.1 k_M_exchanges.2 [66] 400]
  have key : ∀ (C : Nat → List zv → Mu → mR) (E : Nat → List zv → List zv → Mu → mR), mbk C E q_M_exchanges.1 q_M_exchanges.2.1 z q_M_exchanges.2.2.2 [66] 400 (zfind q_M_exchanges.2.2.2 0) (zentry q_M_exchanges.2.2.1 [(2, 86), (0, v1), (0, v2), (0, v3)]) [] μ = gI (zw ((zw (12 * v1)) + v2)) 24 (gI (zw ((zw (12 * v1)) + v2)) 24 (gI (zw ((zw (12 * (zw (1 - v1)))) + v3)) 24 (gI (zw ((zw (12 * (zw (1 - v1)))) + v3)) 24 ((C 204 [(2, 90), (0, zw ((zw (12 * v1)) + v3)), (0, 1)] (zup (zup μ 90 ((zw ((zw (12 * v1)) + v2)).toNat) (zw ((μ 90 ((zw ((zw (12 * v1)) + v2)).toNat)) - 1))) 90 ((zw ((zw (12 * (zw (1 - v1)))) + v3)).toNat) (zw (((zup μ 90 ((zw ((zw (12 * v1)) + v2)).toNat) (zw ((μ 90 ((zw ((zw (12 * v1)) + v2)).toNat)) - 1))) 90 ((zw ((zw (12 * (zw (1 - v1)))) + v3)).toNat)) - 1)))).bind fun q1 => (g_M_exchanges_66 E v1 v2 v3 (zw (12 * v1)) (zw (12 * (zw (1 - v1)))) q1.2))))) := by
    intro C E
    rfl
  exact key _ _
set_option maxRecDepth 100000 in
theorem e_M_exchanges_66 (z : zZ) (d : Nat) (v1 : Int) (v2 : Int) (v3 : Int) (v4 : Int) (v5 : Int) (μ : Mu) : f_M_exchanges_66 z d v1 v2 v3 v4 v5 μ = (mC z d 204 [(2, 90), (0, zw (v5 + v2)), (0, 1)] μ).bind fun q1 => (some (0, q1.2)) := by
  show mE z d q_M_exchanges 66 [(2, 86), (0, v1), (0, v2), (0, v3), (0, v4), (0, v5)] [] μ = _
  rw [mE_bk (M := q_M_exchanges) k_M_exchanges.1 k_M_exchanges.2 [66] 400]
  have key : ∀ (C : Nat → List zv → Mu → mR) (E : Nat → List zv → List zv → Mu → mR), mbk C E q_M_exchanges.1 q_M_exchanges.2.1 z q_M_exchanges.2.2.2 [66] 400 (zfind q_M_exchanges.2.2.2 66) [(2, 86), (0, v1), (0, v2), (0, v3), (0, v4), (0, v5)] [] μ = (C 204 [(2, 90), (0, zw (v5 + v2)), (0, 1)] μ).bind fun q1 => (some (0, q1.2)) := by
    intro C E
    rfl
  exact key _ _
def g_M_exchanged_31 (E : Nat → List zv → List zv → Mu → mR) (μ : Mu) : mR := E 31 [(9, 0), (9, 0), (9, 0), (9, 0)] [] μ
noncomputable def f_M_exchanged_31 (z : zZ) (d : Nat) (μ : Mu) : mR := g_M_exchanged_31 (fun pc ls st μ => mE z d q_M_exchanged pc ls st μ) μ
def g_M_exchanged_33 (E : Nat → List zv → List zv → Mu → mR) (v1 : Int) (v2 : Int) (v3 : Int) (μ : Mu) : mR := E 33 [(2, 86), (0, v1), (0, v2), (0, v3)] [] μ
noncomputable def f_M_exchanged_33 (z : zZ) (d : Nat) (v1 : Int) (v2 : Int) (v3 : Int) (μ : Mu) : mR := g_M_exchanged_33 (fun pc ls st μ => mE z d q_M_exchanged pc ls st μ) v1 v2 v3 μ
theorem k_M_exchanged : zprK q_M_exchanged.2.2.2 = true ∧ zinc q_M_exchanged.2.2.2 = true := by decide +kernel
set_option maxRecDepth 100000 in
theorem c_M_exchanged (z : zZ) (d : Nat) (v1 : Int) (v2 : Int) (v3 : Int) (μ : Mu) : mC z (d + 1) 273 [(2, 86), (0, v1), (0, v2), (0, v3)] μ = (mC z d 185 [(0, v1)] μ).bind fun q1 => (bif decide (q1.1 = 0) then (f_M_exchanged_31 z d q1.2) else ((mC z d 182 [(0, v2)] q1.2).bind fun q2 => (bif decide (q2.1 = 0) then (f_M_exchanged_31 z d q2.2) else ((mC z d 182 [(0, v3)] q2.2).bind fun q3 => (bif decide (q3.1 = 0) then (f_M_exchanged_31 z d q3.2) else ((mC z d 271 [(2, 86), (0, v1), (0, v2), (0, v3)] q3.2).bind fun q4 => (bif !decide (q4.1 = 0) then (f_M_exchanged_33 z d v1 v2 v3 q4.2) else (f_M_exchanged_31 z d q4.2)))))))) := by
  rw [mC_succ q_M_exchanged rfl rfl rfl]
  rw [mE_bk (M := q_M_exchanged) k_M_exchanged.1 k_M_exchanged.2 [31, 33] 400]
  have key : ∀ (C : Nat → List zv → Mu → mR) (E : Nat → List zv → List zv → Mu → mR), mbk C E q_M_exchanged.1 q_M_exchanged.2.1 z q_M_exchanged.2.2.2 [31, 33] 400 (zfind q_M_exchanged.2.2.2 0) (zentry q_M_exchanged.2.2.1 [(2, 86), (0, v1), (0, v2), (0, v3)]) [] μ = (C 185 [(0, v1)] μ).bind fun q1 => (bif decide (q1.1 = 0) then (g_M_exchanged_31 E q1.2) else ((C 182 [(0, v2)] q1.2).bind fun q2 => (bif decide (q2.1 = 0) then (g_M_exchanged_31 E q2.2) else ((C 182 [(0, v3)] q2.2).bind fun q3 => (bif decide (q3.1 = 0) then (g_M_exchanged_31 E q3.2) else ((C 271 [(2, 86), (0, v1), (0, v2), (0, v3)] q3.2).bind fun q4 => (bif !decide (q4.1 = 0) then (g_M_exchanged_33 E v1 v2 v3 q4.2) else (g_M_exchanged_31 E q4.2)))))))) := by
    intro C E
    rfl
  exact key _ _
set_option maxRecDepth 100000 in
theorem e_M_exchanged_31 (z : zZ) (d : Nat) (μ : Mu) : f_M_exchanged_31 z d μ = some (0, μ) := by
  show mE z d q_M_exchanged 31 [(9, 0), (9, 0), (9, 0), (9, 0)] [] μ = _
  rw [mE_bk (M := q_M_exchanged) k_M_exchanged.1 k_M_exchanged.2 [31, 33] 400]
  have key : ∀ (C : Nat → List zv → Mu → mR) (E : Nat → List zv → List zv → Mu → mR), mbk C E q_M_exchanged.1 q_M_exchanged.2.1 z q_M_exchanged.2.2.2 [31, 33] 400 (zfind q_M_exchanged.2.2.2 31) [(9, 0), (9, 0), (9, 0), (9, 0)] [] μ = some (0, μ) := by
    intro C E
    rfl
  exact key _ _
set_option maxRecDepth 100000 in
theorem e_M_exchanged_33 (z : zZ) (d : Nat) (v1 : Int) (v2 : Int) (v3 : Int) (μ : Mu) : f_M_exchanged_33 z d v1 v2 v3 μ = (mC z d 272 [(2, 86), (0, v1), (0, v2), (0, v3)] μ).bind fun q1 => (some (1, q1.2)) := by
  show mE z d q_M_exchanged 33 [(2, 86), (0, v1), (0, v2), (0, v3)] [] μ = _
  rw [mE_bk (M := q_M_exchanged) k_M_exchanged.1 k_M_exchanged.2 [31, 33] 400]
  have key : ∀ (C : Nat → List zv → Mu → mR) (E : Nat → List zv → List zv → Mu → mR), mbk C E q_M_exchanged.1 q_M_exchanged.2.1 z q_M_exchanged.2.2.2 [31, 33] 400 (zfind q_M_exchanged.2.2.2 33) [(2, 86), (0, v1), (0, v2), (0, v3)] [] μ = (C 272 [(2, 86), (0, v1), (0, v2), (0, v3)] μ).bind fun q1 => (some (1, q1.2)) := by
    intro C E
    rfl
  exact key _ _
def g_M_home_35 (E : Nat → List zv → List zv → Mu → mR) (μ : Mu) : mR := E 35 [(9, 0), (9, 0), (9, 0), (9, 0)] [] μ
noncomputable def f_M_home_35 (z : zZ) (d : Nat) (μ : Mu) : mR := g_M_home_35 (fun pc ls st μ => mE z d q_M_home pc ls st μ) μ
def g_M_home_37 (E : Nat → List zv → List zv → Mu → mR) (v1 : Int) (v2 : Int) (μ : Mu) : mR := E 37 [(2, 86), (0, v1), (0, v2), (9, 0)] [] μ
noncomputable def f_M_home_37 (z : zZ) (d : Nat) (v1 : Int) (v2 : Int) (μ : Mu) : mR := g_M_home_37 (fun pc ls st μ => mE z d q_M_home pc ls st μ) v1 v2 μ
def g_M_home_39 (E : Nat → List zv → List zv → Mu → mR) (v1 : Int) (v2 : Int) (v3 : Int) (μ : Mu) : mR := E 39 [(2, 86), (0, v1), (0, v2), (0, v3)] [] μ
noncomputable def f_M_home_39 (z : zZ) (d : Nat) (v1 : Int) (v2 : Int) (v3 : Int) (μ : Mu) : mR := g_M_home_39 (fun pc ls st μ => mE z d q_M_home pc ls st μ) v1 v2 v3 μ
theorem k_M_home : zprK q_M_home.2.2.2 = true ∧ zinc q_M_home.2.2.2 = true := by decide +kernel
set_option maxRecDepth 100000 in
theorem c_M_home (z : zZ) (d : Nat) (v1 : Int) (v2 : Int) (μ : Mu) : mC z (d + 1) 274 [(2, 86), (0, v1), (0, v2)] μ = (mC z d 182 [(0, v1)] μ).bind fun q1 => (bif decide (q1.1 = 0) then (f_M_home_35 z d q1.2) else (bif decide (v2 < 1) then (f_M_home_35 z d q1.2) else (gI v1 24 (bif decide (q1.2 92 v1.toNat < v2) then (f_M_home_35 z d q1.2) else (gI (zw (12 + v1)) 24 (bif decide (v2 ≤ q1.2 92 ((zw (12 + v1)).toNat)) then (f_M_home_37 z d v1 v2 q1.2) else (f_M_home_35 z d q1.2))))))) := by
  rw [mC_succ q_M_home rfl rfl rfl]
  rw [mE_bk (M := q_M_home) k_M_home.1 k_M_home.2 [35, 37, 39] 400]
  have key : ∀ (C : Nat → List zv → Mu → mR) (E : Nat → List zv → List zv → Mu → mR), mbk C E q_M_home.1 q_M_home.2.1 z q_M_home.2.2.2 [35, 37, 39] 400 (zfind q_M_home.2.2.2 0) (zentry q_M_home.2.2.1 [(2, 86), (0, v1), (0, v2)]) [] μ = (C 182 [(0, v1)] μ).bind fun q1 => (bif decide (q1.1 = 0) then (g_M_home_35 E q1.2) else (bif decide (v2 < 1) then (g_M_home_35 E q1.2) else (gI v1 24 (bif decide (q1.2 92 v1.toNat < v2) then (g_M_home_35 E q1.2) else (gI (zw (12 + v1)) 24 (bif decide (v2 ≤ q1.2 92 ((zw (12 + v1)).toNat)) then (g_M_home_37 E v1 v2 q1.2) else (g_M_home_35 E q1.2))))))) := by
    intro C E
    rfl
  exact key _ _
set_option maxRecDepth 100000 in
theorem e_M_home_35 (z : zZ) (d : Nat) (μ : Mu) : f_M_home_35 z d μ = some (0, μ) := by
  show mE z d q_M_home 35 [(9, 0), (9, 0), (9, 0), (9, 0)] [] μ = _
  rw [mE_bk (M := q_M_home) k_M_home.1 k_M_home.2 [35, 37, 39] 400]
  have key : ∀ (C : Nat → List zv → Mu → mR) (E : Nat → List zv → List zv → Mu → mR), mbk C E q_M_home.1 q_M_home.2.1 z q_M_home.2.2.2 [35, 37, 39] 400 (zfind q_M_home.2.2.2 35) [(9, 0), (9, 0), (9, 0), (9, 0)] [] μ = some (0, μ) := by
    intro C E
    rfl
  exact key _ _
set_option maxRecDepth 100000 in
theorem e_M_home_37 (z : zZ) (d : Nat) (v1 : Int) (v2 : Int) (μ : Mu) : f_M_home_37 z d v1 v2 μ = f_M_home_39 z d v1 v2 0 μ := by
  show mE z d q_M_home 37 [(2, 86), (0, v1), (0, v2), (9, 0)] [] μ = _
  rw [mE_bk (M := q_M_home) k_M_home.1 k_M_home.2 [35, 37, 39] 400]
  have key : ∀ (C : Nat → List zv → Mu → mR) (E : Nat → List zv → List zv → Mu → mR), mbk C E q_M_home.1 q_M_home.2.1 z q_M_home.2.2.2 [35, 37, 39] 400 (zfind q_M_home.2.2.2 37) [(2, 86), (0, v1), (0, v2), (9, 0)] [] μ = g_M_home_39 E v1 v2 0 μ := by
    intro C E
    rfl
  exact key _ _
set_option maxRecDepth 100000 in
theorem e_M_home_39 (z : zZ) (d : Nat) (v1 : Int) (v2 : Int) (v3 : Int) (μ : Mu) : f_M_home_39 z d v1 v2 v3 μ = bif decide (2 ≤ v3) then (some (1, μ)) else (gI (zw ((zw (12 * v3)) + v1)) 24 (gI (zw ((zw (12 * v3)) + v1)) 24 ((mC z d 204 [(2, 90), (0, zw ((zw (12 * v3)) + v1)), (0, v2)] (zup μ 92 ((zw ((zw (12 * v3)) + v1)).toNat) (zw ((μ 92 ((zw ((zw (12 * v3)) + v1)).toNat)) - v2)))).bind fun q1 => (f_M_home_39 z d v1 v2 (zw (v3 + 1)) q1.2)))) := by
  show mE z d q_M_home 39 [(2, 86), (0, v1), (0, v2), (0, v3)] [] μ = _
  rw [mE_bk (M := q_M_home) k_M_home.1 k_M_home.2 [35, 37, 39] 400]
  have key : ∀ (C : Nat → List zv → Mu → mR) (E : Nat → List zv → List zv → Mu → mR), mbk C E q_M_home.1 q_M_home.2.1 z q_M_home.2.2.2 [35, 37, 39] 400 (zfind q_M_home.2.2.2 39) [(2, 86), (0, v1), (0, v2), (0, v3)] [] μ = bif decide (2 ≤ v3) then (some (1, μ)) else (gI (zw ((zw (12 * v3)) + v1)) 24 (gI (zw ((zw (12 * v3)) + v1)) 24 ((C 204 [(2, 90), (0, zw ((zw (12 * v3)) + v1)), (0, v2)] (zup μ 92 ((zw ((zw (12 * v3)) + v1)).toNat) (zw ((μ 92 ((zw ((zw (12 * v3)) + v1)).toNat)) - v2)))).bind fun q1 => (g_M_home_39 E v1 v2 (zw (v3 + 1)) q1.2)))) := by
    intro C E
    rfl
  exact key _ _
def g_M_peace_18 (E : Nat → List zv → List zv → Mu → mR) (μ : Mu) : mR := E 18 [(9, 0), (9, 0), (9, 0), (9, 0), (9, 0)] [] μ
noncomputable def f_M_peace_18 (z : zZ) (d : Nat) (μ : Mu) : mR := g_M_peace_18 (fun pc ls st μ => mE z d q_M_peace pc ls st μ) μ
def g_M_peace_39 (E : Nat → List zv → List zv → Mu → mR) (v3 : Int) (v4 : Int) (μ : Mu) : mR := E 39 [(2, 86), (9, 0), (9, 0), (0, v3), (0, v4)] [] μ
noncomputable def f_M_peace_39 (z : zZ) (d : Nat) (v3 : Int) (v4 : Int) (μ : Mu) : mR := g_M_peace_39 (fun pc ls st μ => mE z d q_M_peace pc ls st μ) v3 v4 μ
def g_M_peace_58 (E : Nat → List zv → List zv → Mu → mR) (μ : Mu) : mR := E 58 [(9, 0), (9, 0), (9, 0), (9, 0), (9, 0)] [] μ
noncomputable def f_M_peace_58 (z : zZ) (d : Nat) (μ : Mu) : mR := g_M_peace_58 (fun pc ls st μ => mE z d q_M_peace pc ls st μ) μ
def g_M_peace_60 (E : Nat → List zv → List zv → Mu → mR) (v100 : Int) (μ : Mu) : mR := E 60 [(9, 0), (9, 0), (9, 0), (9, 0), (9, 0)] [(0, v100)] μ
noncomputable def f_M_peace_60 (z : zZ) (d : Nat) (v100 : Int) (μ : Mu) : mR := g_M_peace_60 (fun pc ls st μ => mE z d q_M_peace pc ls st μ) v100 μ
theorem k_M_peace : zprK q_M_peace.2.2.2 = true ∧ zinc q_M_peace.2.2.2 = true := by decide +kernel
set_option maxRecDepth 100000 in
theorem c_M_peace (z : zZ) (d : Nat) (v1 : Int) (v2 : Int) (v3 : Int) (μ : Mu) : mC z (d + 1) 275 [(2, 86), (0, v1), (0, v2), (0, v3)] μ = (mC z d 257 [(2, 86), (0, 0), (0, v1)] μ).bind fun q1 => (bif decide (q1.1 = 0) then (f_M_peace_18 z d q1.2) else ((mC z d 257 [(2, 86), (0, 1), (0, v2)] q1.2).bind fun q2 => (bif !decide (q2.1 = 0) then ((mC z d 276 [(2, 86), (0, v1), (0, v2)] q2.2).bind fun q3 => (bif !decide (v3 = 20) then (f_M_peace_39 z d v3 q3.1 q3.2) else (f_M_peace_60 z d q3.1 q3.2))) else (f_M_peace_18 z d q2.2)))) := by
  rw [mC_succ q_M_peace rfl rfl rfl]
  rw [mE_bk (M := q_M_peace) k_M_peace.1 k_M_peace.2 [18, 39, 58, 60] 400]
  have key : ∀ (C : Nat → List zv → Mu → mR) (E : Nat → List zv → List zv → Mu → mR), mbk C E q_M_peace.1 q_M_peace.2.1 z q_M_peace.2.2.2 [18, 39, 58, 60] 400 (zfind q_M_peace.2.2.2 0) (zentry q_M_peace.2.2.1 [(2, 86), (0, v1), (0, v2), (0, v3)]) [] μ = (C 257 [(2, 86), (0, 0), (0, v1)] μ).bind fun q1 => (bif decide (q1.1 = 0) then (g_M_peace_18 E q1.2) else ((C 257 [(2, 86), (0, 1), (0, v2)] q1.2).bind fun q2 => (bif !decide (q2.1 = 0) then ((C 276 [(2, 86), (0, v1), (0, v2)] q2.2).bind fun q3 => (bif !decide (v3 = 20) then (g_M_peace_39 E v3 q3.1 q3.2) else (g_M_peace_60 E q3.1 q3.2))) else (g_M_peace_18 E q2.2)))) := by
    intro C E
    rfl
  exact key _ _
set_option maxRecDepth 100000 in
theorem e_M_peace_18 (z : zZ) (d : Nat) (μ : Mu) : f_M_peace_18 z d μ = some ((-1), μ) := by
  show mE z d q_M_peace 18 [(9, 0), (9, 0), (9, 0), (9, 0), (9, 0)] [] μ = _
  rw [mE_bk (M := q_M_peace) k_M_peace.1 k_M_peace.2 [18, 39, 58, 60] 400]
  have key : ∀ (C : Nat → List zv → Mu → mR) (E : Nat → List zv → List zv → Mu → mR), mbk C E q_M_peace.1 q_M_peace.2.1 z q_M_peace.2.2.2 [18, 39, 58, 60] 400 (zfind q_M_peace.2.2.2 18) [(9, 0), (9, 0), (9, 0), (9, 0), (9, 0)] [] μ = some ((-1), μ) := by
    intro C E
    rfl
  exact key _ _
set_option maxRecDepth 100000 in
theorem e_M_peace_39 (z : zZ) (d : Nat) (v3 : Int) (v4 : Int) (μ : Mu) : f_M_peace_39 z d v3 v4 μ = bif decide (v3 < 0) then (f_M_peace_58 z d μ) else (bif decide (v4 ≤ v3) then (f_M_peace_58 z d μ) else (gI v3 16 (f_M_peace_60 z d (μ 127 v3.toNat) μ))) := by
  show mE z d q_M_peace 39 [(2, 86), (9, 0), (9, 0), (0, v3), (0, v4)] [] μ = _
  rw [mE_bk (M := q_M_peace) k_M_peace.1 k_M_peace.2 [18, 39, 58, 60] 400]
  have key : ∀ (C : Nat → List zv → Mu → mR) (E : Nat → List zv → List zv → Mu → mR), mbk C E q_M_peace.1 q_M_peace.2.1 z q_M_peace.2.2.2 [18, 39, 58, 60] 400 (zfind q_M_peace.2.2.2 39) [(2, 86), (9, 0), (9, 0), (0, v3), (0, v4)] [] μ = bif decide (v3 < 0) then (g_M_peace_58 E μ) else (bif decide (v4 ≤ v3) then (g_M_peace_58 E μ) else (gI v3 16 (g_M_peace_60 E (μ 127 v3.toNat) μ))) := by
    intro C E
    rfl
  exact key _ _
set_option maxRecDepth 100000 in
theorem e_M_peace_60 (z : zZ) (d : Nat) (v100 : Int) (μ : Mu) : f_M_peace_60 z d v100 μ = some (v100, μ) := by
  show mE z d q_M_peace 60 [(9, 0), (9, 0), (9, 0), (9, 0), (9, 0)] [(0, v100)] μ = _
  rw [mE_bk (M := q_M_peace) k_M_peace.1 k_M_peace.2 [18, 39, 58, 60] 400]
  have key : ∀ (C : Nat → List zv → Mu → mR) (E : Nat → List zv → List zv → Mu → mR), mbk C E q_M_peace.1 q_M_peace.2.1 z q_M_peace.2.2.2 [18, 39, 58, 60] 400 (zfind q_M_peace.2.2.2 60) [(9, 0), (9, 0), (9, 0), (9, 0), (9, 0)] [(0, v100)] μ = some (v100, μ) := by
    intro C E
    rfl
  exact key _ _
set_option maxRecDepth 100000 in
theorem e_M_peace_58 (z : zZ) (d : Nat) (μ : Mu) : f_M_peace_58 z d μ = f_M_peace_60 z d ((-2)) μ := by
  show mE z d q_M_peace 58 [(9, 0), (9, 0), (9, 0), (9, 0), (9, 0)] [] μ = _
  rw [mE_bk (M := q_M_peace) k_M_peace.1 k_M_peace.2 [18, 39, 58, 60] 400]
  have key : ∀ (C : Nat → List zv → Mu → mR) (E : Nat → List zv → List zv → Mu → mR), mbk C E q_M_peace.1 q_M_peace.2.1 z q_M_peace.2.2.2 [18, 39, 58, 60] 400 (zfind q_M_peace.2.2.2 58) [(9, 0), (9, 0), (9, 0), (9, 0), (9, 0)] [] μ = g_M_peace_60 E ((-2)) μ := by
    intro C E
    rfl
  exact key _ _
def g_M_laysPeace_38 (E : Nat → List zv → List zv → Mu → mR) (v1 : Int) (v2 : Int) (v3 : Int) (v4 : Int) (v5 : Int) (v6 : Int) (v7 : Int) (v8 : Int) (μ : Mu) : mR := E 38 [(2, 86), (0, v1), (0, v2), (0, v3), (0, v4), (0, v5), (0, v6), (0, v7), (0, v8), (9, 0), (9, 0), (9, 0), (9, 0)] [] μ
noncomputable def f_M_laysPeace_38 (z : zZ) (d : Nat) (v1 : Int) (v2 : Int) (v3 : Int) (v4 : Int) (v5 : Int) (v6 : Int) (v7 : Int) (v8 : Int) (μ : Mu) : mR := g_M_laysPeace_38 (fun pc ls st μ => mE z d q_M_laysPeace pc ls st μ) v1 v2 v3 v4 v5 v6 v7 v8 μ
def g_M_laysPeace_48 (E : Nat → List zv → List zv → Mu → mR) (v1 : Int) (v2 : Int) (v3 : Int) (v4 : Int) (v5 : Int) (v6 : Int) (v7 : Int) (v8 : Int) (v9 : Int) (μ : Mu) : mR := E 48 [(2, 86), (0, v1), (0, v2), (0, v3), (0, v4), (0, v5), (0, v6), (0, v7), (0, v8), (0, v9), (9, 0), (9, 0), (9, 0)] [] μ
noncomputable def f_M_laysPeace_48 (z : zZ) (d : Nat) (v1 : Int) (v2 : Int) (v3 : Int) (v4 : Int) (v5 : Int) (v6 : Int) (v7 : Int) (v8 : Int) (v9 : Int) (μ : Mu) : mR := g_M_laysPeace_48 (fun pc ls st μ => mE z d q_M_laysPeace pc ls st μ) v1 v2 v3 v4 v5 v6 v7 v8 v9 μ
def g_M_laysPeace_94 (E : Nat → List zv → List zv → Mu → mR) (v1 : Int) (v2 : Int) (v3 : Int) (v4 : Int) (v5 : Int) (v6 : Int) (v7 : Int) (v8 : Int) (v9 : Int) (v10 : Int) (v100 : Int) (μ : Mu) : mR := E 94 [(2, 86), (0, v1), (0, v2), (0, v3), (0, v4), (0, v5), (0, v6), (0, v7), (0, v8), (0, v9), (0, v10), (9, 0), (9, 0)] [(0, v100)] μ
noncomputable def f_M_laysPeace_94 (z : zZ) (d : Nat) (v1 : Int) (v2 : Int) (v3 : Int) (v4 : Int) (v5 : Int) (v6 : Int) (v7 : Int) (v8 : Int) (v9 : Int) (v10 : Int) (v100 : Int) (μ : Mu) : mR := g_M_laysPeace_94 (fun pc ls st μ => mE z d q_M_laysPeace pc ls st μ) v1 v2 v3 v4 v5 v6 v7 v8 v9 v10 v100 μ
def g_M_laysPeace_95 (E : Nat → List zv → List zv → Mu → mR) (v1 : Int) (v2 : Int) (v3 : Int) (v4 : Int) (v5 : Int) (v6 : Int) (v7 : Int) (v8 : Int) (v9 : Int) (v10 : Int) (v100 : Int) (v101 : Int) (μ : Mu) : mR := E 95 [(2, 86), (0, v1), (0, v2), (0, v3), (0, v4), (0, v5), (0, v6), (0, v7), (0, v8), (0, v9), (0, v10), (9, 0), (9, 0)] [(0, v101), (0, v100)] μ
noncomputable def f_M_laysPeace_95 (z : zZ) (d : Nat) (v1 : Int) (v2 : Int) (v3 : Int) (v4 : Int) (v5 : Int) (v6 : Int) (v7 : Int) (v8 : Int) (v9 : Int) (v10 : Int) (v100 : Int) (v101 : Int) (μ : Mu) : mR := g_M_laysPeace_95 (fun pc ls st μ => mE z d q_M_laysPeace pc ls st μ) v1 v2 v3 v4 v5 v6 v7 v8 v9 v10 v100 v101 μ
def g_M_laysPeace_129 (E : Nat → List zv → List zv → Mu → mR) (v1 : Int) (v2 : Int) (v3 : Int) (v4 : Int) (v5 : Int) (v6 : Int) (v7 : Int) (v8 : Int) (v9 : Int) (v10 : Int) (v11 : Int) (v100 : Int) (μ : Mu) : mR := E 129 [(2, 86), (0, v1), (0, v2), (0, v3), (0, v4), (0, v5), (0, v6), (0, v7), (0, v8), (0, v9), (0, v10), (0, v11), (9, 0)] [(0, v100)] μ
noncomputable def f_M_laysPeace_129 (z : zZ) (d : Nat) (v1 : Int) (v2 : Int) (v3 : Int) (v4 : Int) (v5 : Int) (v6 : Int) (v7 : Int) (v8 : Int) (v9 : Int) (v10 : Int) (v11 : Int) (v100 : Int) (μ : Mu) : mR := g_M_laysPeace_129 (fun pc ls st μ => mE z d q_M_laysPeace pc ls st μ) v1 v2 v3 v4 v5 v6 v7 v8 v9 v10 v11 v100 μ
def g_M_laysPeace_130 (E : Nat → List zv → List zv → Mu → mR) (v1 : Int) (v2 : Int) (v3 : Int) (v4 : Int) (v5 : Int) (v6 : Int) (v7 : Int) (v8 : Int) (v9 : Int) (v10 : Int) (v11 : Int) (v100 : Int) (v101 : Int) (μ : Mu) : mR := E 130 [(2, 86), (0, v1), (0, v2), (0, v3), (0, v4), (0, v5), (0, v6), (0, v7), (0, v8), (0, v9), (0, v10), (0, v11), (9, 0)] [(0, v101), (0, v100)] μ
noncomputable def f_M_laysPeace_130 (z : zZ) (d : Nat) (v1 : Int) (v2 : Int) (v3 : Int) (v4 : Int) (v5 : Int) (v6 : Int) (v7 : Int) (v8 : Int) (v9 : Int) (v10 : Int) (v11 : Int) (v100 : Int) (v101 : Int) (μ : Mu) : mR := g_M_laysPeace_130 (fun pc ls st μ => mE z d q_M_laysPeace pc ls st μ) v1 v2 v3 v4 v5 v6 v7 v8 v9 v10 v11 v100 v101 μ
def g_M_laysPeace_172 (E : Nat → List zv → List zv → Mu → mR) (v1 : Int) (v2 : Int) (v3 : Int) (v4 : Int) (v7 : Int) (v8 : Int) (v10 : Int) (v11 : Int) (v12 : Int) (μ : Mu) : mR := E 172 [(2, 86), (0, v1), (0, v2), (0, v3), (0, v4), (9, 0), (9, 0), (0, v7), (0, v8), (9, 0), (0, v10), (0, v11), (0, v12)] [] μ
noncomputable def f_M_laysPeace_172 (z : zZ) (d : Nat) (v1 : Int) (v2 : Int) (v3 : Int) (v4 : Int) (v7 : Int) (v8 : Int) (v10 : Int) (v11 : Int) (v12 : Int) (μ : Mu) : mR := g_M_laysPeace_172 (fun pc ls st μ => mE z d q_M_laysPeace pc ls st μ) v1 v2 v3 v4 v7 v8 v10 v11 v12 μ
def g_M_laysPeace_192 (E : Nat → List zv → List zv → Mu → mR) (v1 : Int) (v2 : Int) (v3 : Int) (v4 : Int) (v5 : Int) (v6 : Int) (v7 : Int) (v8 : Int) (v9 : Int) (μ : Mu) : mR := E 192 [(2, 86), (0, v1), (0, v2), (0, v3), (0, v4), (0, v5), (0, v6), (0, v7), (0, v8), (0, v9), (9, 0), (9, 0), (9, 0)] [] μ
noncomputable def f_M_laysPeace_192 (z : zZ) (d : Nat) (v1 : Int) (v2 : Int) (v3 : Int) (v4 : Int) (v5 : Int) (v6 : Int) (v7 : Int) (v8 : Int) (v9 : Int) (μ : Mu) : mR := g_M_laysPeace_192 (fun pc ls st μ => mE z d q_M_laysPeace pc ls st μ) v1 v2 v3 v4 v5 v6 v7 v8 v9 μ
def g_M_laysPeace_198 (E : Nat → List zv → List zv → Mu → mR) (v1 : Int) (v2 : Int) (v3 : Int) (v4 : Int) (v5 : Int) (v6 : Int) (v7 : Int) (v8 : Int) (μ : Mu) : mR := E 198 [(2, 86), (0, v1), (0, v2), (0, v3), (0, v4), (0, v5), (0, v6), (0, v7), (0, v8), (9, 0), (9, 0), (9, 0), (9, 0)] [] μ
noncomputable def f_M_laysPeace_198 (z : zZ) (d : Nat) (v1 : Int) (v2 : Int) (v3 : Int) (v4 : Int) (v5 : Int) (v6 : Int) (v7 : Int) (v8 : Int) (μ : Mu) : mR := g_M_laysPeace_198 (fun pc ls st μ => mE z d q_M_laysPeace pc ls st μ) v1 v2 v3 v4 v5 v6 v7 v8 μ
def g_M_laysPeace_204 (E : Nat → List zv → List zv → Mu → mR) (v7 : Int) (μ : Mu) : mR := E 204 [(9, 0), (9, 0), (9, 0), (9, 0), (9, 0), (9, 0), (9, 0), (0, v7), (9, 0), (9, 0), (9, 0), (9, 0), (9, 0)] [] μ
noncomputable def f_M_laysPeace_204 (z : zZ) (d : Nat) (v7 : Int) (μ : Mu) : mR := g_M_laysPeace_204 (fun pc ls st μ => mE z d q_M_laysPeace pc ls st μ) v7 μ
theorem k_M_laysPeace : zprK q_M_laysPeace.2.2.2 = true ∧ zinc q_M_laysPeace.2.2.2 = true := by decide +kernel
set_option maxRecDepth 100000 in
theorem c_M_laysPeace (z : zZ) (d : Nat) (v1 : Int) (v2 : Int) (μ : Mu) : mC z (d + 1) 276 [(2, 86), (0, v1), (0, v2)] μ = (mC z d 277 [(2, 86), (0, v1), (0, v2)] μ).bind fun q1 => ((mC z d 202 [(2, 86), (0, 0), (0, v1)] q1.2).bind fun q2 => ((mC z d 202 [(2, 86), (0, 1), (0, v2)] q2.2).bind fun q3 => (f_M_laysPeace_38 z d v1 v2 q2.1 q3.1 0 0 (q3.2 126 0) 0 q3.2))) := by
  rw [mC_succ q_M_laysPeace rfl rfl rfl]
  rw [mE_bk (M := q_M_laysPeace) k_M_laysPeace.1 k_M_laysPeace.2 [38, 48, 94, 95, 129, 130, 172, 192, 198, 204] 400]
  have key : ∀ (C : Nat → List zv → Mu → mR) (E : Nat → List zv → List zv → Mu → mR), mbk C E q_M_laysPeace.1 q_M_laysPeace.2.1 z q_M_laysPeace.2.2.2 [38, 48, 94, 95, 129, 130, 172, 192, 198, 204] 400 (zfind q_M_laysPeace.2.2.2 0) (zentry q_M_laysPeace.2.2.1 [(2, 86), (0, v1), (0, v2)]) [] μ = (C 277 [(2, 86), (0, v1), (0, v2)] μ).bind fun q1 => ((C 202 [(2, 86), (0, 0), (0, v1)] q1.2).bind fun q2 => ((C 202 [(2, 86), (0, 1), (0, v2)] q2.2).bind fun q3 => (g_M_laysPeace_38 E v1 v2 q2.1 q3.1 0 0 (q3.2 126 0) 0 q3.2))) := by
    intro C E
    rfl
  exact key _ _
set_option maxRecDepth 100000 in
theorem e_M_laysPeace_38 (z : zZ) (d : Nat) (v1 : Int) (v2 : Int) (v3 : Int) (v4 : Int) (v5 : Int) (v6 : Int) (v7 : Int) (v8 : Int) (μ : Mu) : f_M_laysPeace_38 z d v1 v2 v3 v4 v5 v6 v7 v8 μ = bif decide (v7 ≤ v8) then (f_M_laysPeace_204 z d v7 μ) else (f_M_laysPeace_48 z d v1 v2 v3 v4 v5 v6 v7 v8 0 μ) := by
  show mE z d q_M_laysPeace 38 [(2, 86), (0, v1), (0, v2), (0, v3), (0, v4), (0, v5), (0, v6), (0, v7), (0, v8), (9, 0), (9, 0), (9, 0), (9, 0)] [] μ = _
  rw [mE_bk (M := q_M_laysPeace) k_M_laysPeace.1 k_M_laysPeace.2 [38, 48, 94, 95, 129, 130, 172, 192, 198, 204] 400]
  have key : ∀ (C : Nat → List zv → Mu → mR) (E : Nat → List zv → List zv → Mu → mR), mbk C E q_M_laysPeace.1 q_M_laysPeace.2.1 z q_M_laysPeace.2.2.2 [38, 48, 94, 95, 129, 130, 172, 192, 198, 204] 400 (zfind q_M_laysPeace.2.2.2 38) [(2, 86), (0, v1), (0, v2), (0, v3), (0, v4), (0, v5), (0, v6), (0, v7), (0, v8), (9, 0), (9, 0), (9, 0), (9, 0)] [] μ = bif decide (v7 ≤ v8) then (g_M_laysPeace_204 E v7 μ) else (g_M_laysPeace_48 E v1 v2 v3 v4 v5 v6 v7 v8 0 μ) := by
    intro C E
    rfl
  exact key _ _
set_option maxRecDepth 100000 in
theorem e_M_laysPeace_204 (z : zZ) (d : Nat) (v7 : Int) (μ : Mu) : f_M_laysPeace_204 z d v7 μ = some (v7, μ) := by
  show mE z d q_M_laysPeace 204 [(9, 0), (9, 0), (9, 0), (9, 0), (9, 0), (9, 0), (9, 0), (0, v7), (9, 0), (9, 0), (9, 0), (9, 0), (9, 0)] [] μ = _
  rw [mE_bk (M := q_M_laysPeace) k_M_laysPeace.1 k_M_laysPeace.2 [38, 48, 94, 95, 129, 130, 172, 192, 198, 204] 400]
  have key : ∀ (C : Nat → List zv → Mu → mR) (E : Nat → List zv → List zv → Mu → mR), mbk C E q_M_laysPeace.1 q_M_laysPeace.2.1 z q_M_laysPeace.2.2.2 [38, 48, 94, 95, 129, 130, 172, 192, 198, 204] 400 (zfind q_M_laysPeace.2.2.2 204) [(9, 0), (9, 0), (9, 0), (9, 0), (9, 0), (9, 0), (9, 0), (0, v7), (9, 0), (9, 0), (9, 0), (9, 0), (9, 0)] [] μ = some (v7, μ) := by
    intro C E
    rfl
  exact key _ _
set_option maxRecDepth 100000 in
theorem e_M_laysPeace_48 (z : zZ) (d : Nat) (v1 : Int) (v2 : Int) (v3 : Int) (v4 : Int) (v5 : Int) (v6 : Int) (v7 : Int) (v8 : Int) (v9 : Int) (μ : Mu) : f_M_laysPeace_48 z d v1 v2 v3 v4 v5 v6 v7 v8 v9 μ = bif decide (12 ≤ v9) then (f_M_laysPeace_198 z d v1 v2 v3 v4 v5 v6 v7 v8 μ) else (gI v9 24 (bif decide (v3 ≤ v5) then (f_M_laysPeace_94 z d v1 v2 v3 v4 v5 v6 v7 v8 v9 (μ 88 v9.toNat) v5 μ) else ((mC z d 201 [(0, 0), (0, v1)] μ).bind fun q1 => (gI (zw (q1.1 + v5)) 192 (bif !decide (q1.2 94 ((zw (q1.1 + v5)).toNat) = μ 88 v9.toNat) then (f_M_laysPeace_94 z d v1 v2 v3 v4 v5 v6 v7 v8 v9 (μ 88 v9.toNat) v5 q1.2) else (f_M_laysPeace_95 z d v1 v2 v3 v4 v5 v6 v7 v8 v9 (μ 88 v9.toNat) v5 1 q1.2)))))) := by
  show mE z d q_M_laysPeace 48 [(2, 86), (0, v1), (0, v2), (0, v3), (0, v4), (0, v5), (0, v6), (0, v7), (0, v8), (0, v9), (9, 0), (9, 0), (9, 0)] [] μ = _
  rw [mE_bk (M := q_M_laysPeace) k_M_laysPeace.1 k_M_laysPeace.2 [38, 48, 94, 95, 129, 130, 172, 192, 198, 204] 400]
  have key : ∀ (C : Nat → List zv → Mu → mR) (E : Nat → List zv → List zv → Mu → mR), mbk C E q_M_laysPeace.1 q_M_laysPeace.2.1 z q_M_laysPeace.2.2.2 [38, 48, 94, 95, 129, 130, 172, 192, 198, 204] 400 (zfind q_M_laysPeace.2.2.2 48) [(2, 86), (0, v1), (0, v2), (0, v3), (0, v4), (0, v5), (0, v6), (0, v7), (0, v8), (0, v9), (9, 0), (9, 0), (9, 0)] [] μ = bif decide (12 ≤ v9) then (g_M_laysPeace_198 E v1 v2 v3 v4 v5 v6 v7 v8 μ) else (gI v9 24 (bif decide (v3 ≤ v5) then (g_M_laysPeace_94 E v1 v2 v3 v4 v5 v6 v7 v8 v9 (μ 88 v9.toNat) v5 μ) else ((C 201 [(0, 0), (0, v1)] μ).bind fun q1 => (gI (zw (q1.1 + v5)) 192 (bif !decide (q1.2 94 ((zw (q1.1 + v5)).toNat) = μ 88 v9.toNat) then (g_M_laysPeace_94 E v1 v2 v3 v4 v5 v6 v7 v8 v9 (μ 88 v9.toNat) v5 q1.2) else (g_M_laysPeace_95 E v1 v2 v3 v4 v5 v6 v7 v8 v9 (μ 88 v9.toNat) v5 1 q1.2)))))) := by
    intro C E
    rfl
  exact key _ _
set_option maxRecDepth 100000 in
theorem e_M_laysPeace_198 (z : zZ) (d : Nat) (v1 : Int) (v2 : Int) (v3 : Int) (v4 : Int) (v5 : Int) (v6 : Int) (v7 : Int) (v8 : Int) (μ : Mu) : f_M_laysPeace_198 z d v1 v2 v3 v4 v5 v6 v7 v8 μ = f_M_laysPeace_38 z d v1 v2 v3 v4 v5 v6 v7 (zw (v8 + 1)) μ := by
  show mE z d q_M_laysPeace 198 [(2, 86), (0, v1), (0, v2), (0, v3), (0, v4), (0, v5), (0, v6), (0, v7), (0, v8), (9, 0), (9, 0), (9, 0), (9, 0)] [] μ = _
  rw [mE_bk (M := q_M_laysPeace) k_M_laysPeace.1 k_M_laysPeace.2 [38, 48, 94, 95, 129, 130, 172, 192, 198, 204] 400]
  have key : ∀ (C : Nat → List zv → Mu → mR) (E : Nat → List zv → List zv → Mu → mR), mbk C E q_M_laysPeace.1 q_M_laysPeace.2.1 z q_M_laysPeace.2.2.2 [38, 48, 94, 95, 129, 130, 172, 192, 198, 204] 400 (zfind q_M_laysPeace.2.2.2 198) [(2, 86), (0, v1), (0, v2), (0, v3), (0, v4), (0, v5), (0, v6), (0, v7), (0, v8), (9, 0), (9, 0), (9, 0), (9, 0)] [] μ = g_M_laysPeace_38 E v1 v2 v3 v4 v5 v6 v7 (zw (v8 + 1)) μ := by
    intro C E
    rfl
  exact key _ _
set_option maxRecDepth 100000 in
theorem e_M_laysPeace_94 (z : zZ) (d : Nat) (v1 : Int) (v2 : Int) (v3 : Int) (v4 : Int) (v5 : Int) (v6 : Int) (v7 : Int) (v8 : Int) (v9 : Int) (v10 : Int) (v100 : Int) (μ : Mu) : f_M_laysPeace_94 z d v1 v2 v3 v4 v5 v6 v7 v8 v9 v10 v100 μ = f_M_laysPeace_95 z d v1 v2 v3 v4 v5 v6 v7 v8 v9 v10 v100 0 μ := by
  show mE z d q_M_laysPeace 94 [(2, 86), (0, v1), (0, v2), (0, v3), (0, v4), (0, v5), (0, v6), (0, v7), (0, v8), (0, v9), (0, v10), (9, 0), (9, 0)] [(0, v100)] μ = _
  rw [mE_bk (M := q_M_laysPeace) k_M_laysPeace.1 k_M_laysPeace.2 [38, 48, 94, 95, 129, 130, 172, 192, 198, 204] 400]
  have key : ∀ (C : Nat → List zv → Mu → mR) (E : Nat → List zv → List zv → Mu → mR), mbk C E q_M_laysPeace.1 q_M_laysPeace.2.1 z q_M_laysPeace.2.2.2 [38, 48, 94, 95, 129, 130, 172, 192, 198, 204] 400 (zfind q_M_laysPeace.2.2.2 94) [(2, 86), (0, v1), (0, v2), (0, v3), (0, v4), (0, v5), (0, v6), (0, v7), (0, v8), (0, v9), (0, v10), (9, 0), (9, 0)] [(0, v100)] μ = g_M_laysPeace_95 E v1 v2 v3 v4 v5 v6 v7 v8 v9 v10 v100 0 μ := by
    intro C E
    rfl
  exact key _ _
set_option maxRecDepth 100000 in
theorem e_M_laysPeace_95 (z : zZ) (d : Nat) (v1 : Int) (v2 : Int) (v3 : Int) (v4 : Int) (v5 : Int) (v6 : Int) (v7 : Int) (v8 : Int) (v9 : Int) (v10 : Int) (v100 : Int) (v101 : Int) (μ : Mu) : f_M_laysPeace_95 z d v1 v2 v3 v4 v5 v6 v7 v8 v9 v10 v100 v101 μ = bif decide (v4 ≤ v6) then (f_M_laysPeace_129 z d v1 v2 v3 v4 v5 v6 v7 v8 v9 v10 (zw (v100 + v101)) v6 μ) else ((mC z d 201 [(0, 1), (0, v2)] μ).bind fun q1 => (gI (zw (q1.1 + v6)) 192 (bif !decide (q1.2 94 ((zw (q1.1 + v6)).toNat) = v10) then (f_M_laysPeace_129 z d v1 v2 v3 v4 v5 v6 v7 v8 v9 v10 (zw (v100 + v101)) v6 q1.2) else (f_M_laysPeace_130 z d v1 v2 v3 v4 v5 v6 v7 v8 v9 v10 (zw (v100 + v101)) v6 1 q1.2)))) := by
  show mE z d q_M_laysPeace 95 [(2, 86), (0, v1), (0, v2), (0, v3), (0, v4), (0, v5), (0, v6), (0, v7), (0, v8), (0, v9), (0, v10), (9, 0), (9, 0)] [(0, v101), (0, v100)] μ = _
  rw [mE_bk (M := q_M_laysPeace) k_M_laysPeace.1 k_M_laysPeace.2 [38, 48, 94, 95, 129, 130, 172, 192, 198, 204] 400]
  have key : ∀ (C : Nat → List zv → Mu → mR) (E : Nat → List zv → List zv → Mu → mR), mbk C E q_M_laysPeace.1 q_M_laysPeace.2.1 z q_M_laysPeace.2.2.2 [38, 48, 94, 95, 129, 130, 172, 192, 198, 204] 400 (zfind q_M_laysPeace.2.2.2 95) [(2, 86), (0, v1), (0, v2), (0, v3), (0, v4), (0, v5), (0, v6), (0, v7), (0, v8), (0, v9), (0, v10), (9, 0), (9, 0)] [(0, v101), (0, v100)] μ = bif decide (v4 ≤ v6) then (g_M_laysPeace_129 E v1 v2 v3 v4 v5 v6 v7 v8 v9 v10 (zw (v100 + v101)) v6 μ) else ((C 201 [(0, 1), (0, v2)] μ).bind fun q1 => (gI (zw (q1.1 + v6)) 192 (bif !decide (q1.2 94 ((zw (q1.1 + v6)).toNat) = v10) then (g_M_laysPeace_129 E v1 v2 v3 v4 v5 v6 v7 v8 v9 v10 (zw (v100 + v101)) v6 q1.2) else (g_M_laysPeace_130 E v1 v2 v3 v4 v5 v6 v7 v8 v9 v10 (zw (v100 + v101)) v6 1 q1.2)))) := by
    intro C E
    rfl
  exact key _ _
set_option maxRecDepth 100000 in
theorem e_M_laysPeace_129 (z : zZ) (d : Nat) (v1 : Int) (v2 : Int) (v3 : Int) (v4 : Int) (v5 : Int) (v6 : Int) (v7 : Int) (v8 : Int) (v9 : Int) (v10 : Int) (v11 : Int) (v100 : Int) (μ : Mu) : f_M_laysPeace_129 z d v1 v2 v3 v4 v5 v6 v7 v8 v9 v10 v11 v100 μ = f_M_laysPeace_130 z d v1 v2 v3 v4 v5 v6 v7 v8 v9 v10 v11 v100 0 μ := by
  show mE z d q_M_laysPeace 129 [(2, 86), (0, v1), (0, v2), (0, v3), (0, v4), (0, v5), (0, v6), (0, v7), (0, v8), (0, v9), (0, v10), (0, v11), (9, 0)] [(0, v100)] μ = _
  rw [mE_bk (M := q_M_laysPeace) k_M_laysPeace.1 k_M_laysPeace.2 [38, 48, 94, 95, 129, 130, 172, 192, 198, 204] 400]
  have key : ∀ (C : Nat → List zv → Mu → mR) (E : Nat → List zv → List zv → Mu → mR), mbk C E q_M_laysPeace.1 q_M_laysPeace.2.1 z q_M_laysPeace.2.2.2 [38, 48, 94, 95, 129, 130, 172, 192, 198, 204] 400 (zfind q_M_laysPeace.2.2.2 129) [(2, 86), (0, v1), (0, v2), (0, v3), (0, v4), (0, v5), (0, v6), (0, v7), (0, v8), (0, v9), (0, v10), (0, v11), (9, 0)] [(0, v100)] μ = g_M_laysPeace_130 E v1 v2 v3 v4 v5 v6 v7 v8 v9 v10 v11 v100 0 μ := by
    intro C E
    rfl
  exact key _ _
set_option maxRecDepth 100000 in
theorem e_M_laysPeace_130 (z : zZ) (d : Nat) (v1 : Int) (v2 : Int) (v3 : Int) (v4 : Int) (v5 : Int) (v6 : Int) (v7 : Int) (v8 : Int) (v9 : Int) (v10 : Int) (v11 : Int) (v100 : Int) (v101 : Int) (μ : Mu) : f_M_laysPeace_130 z d v1 v2 v3 v4 v5 v6 v7 v8 v9 v10 v11 v100 v101 μ = bif decide (zw (v11 + (zw (v100 + v101))) = zw (v5 + v6)) then (f_M_laysPeace_192 z d v1 v2 v3 v4 v5 v6 v7 v8 v9 μ) else (gI (zw ((zw (9 * v11)) + (zw (v100 + v101)))) 81 (bif decide (μ 126 ((zw ((zw (9 * v11)) + (zw (v100 + v101)))).toNat) = zw ((zw (v7 - v8)) - 1)) then (f_M_laysPeace_172 z d v1 v2 v3 v4 v7 v8 v10 v11 (zw (v100 + v101)) μ) else (f_M_laysPeace_192 z d v1 v2 v3 v4 v5 v6 v7 v8 v9 μ))) := by
  show mE z d q_M_laysPeace 130 [(2, 86), (0, v1), (0, v2), (0, v3), (0, v4), (0, v5), (0, v6), (0, v7), (0, v8), (0, v9), (0, v10), (0, v11), (9, 0)] [(0, v101), (0, v100)] μ = _
  rw [mE_bk (M := q_M_laysPeace) k_M_laysPeace.1 k_M_laysPeace.2 [38, 48, 94, 95, 129, 130, 172, 192, 198, 204] 400]
  have key : ∀ (C : Nat → List zv → Mu → mR) (E : Nat → List zv → List zv → Mu → mR), mbk C E q_M_laysPeace.1 q_M_laysPeace.2.1 z q_M_laysPeace.2.2.2 [38, 48, 94, 95, 129, 130, 172, 192, 198, 204] 400 (zfind q_M_laysPeace.2.2.2 130) [(2, 86), (0, v1), (0, v2), (0, v3), (0, v4), (0, v5), (0, v6), (0, v7), (0, v8), (0, v9), (0, v10), (0, v11), (9, 0)] [(0, v101), (0, v100)] μ = bif decide (zw (v11 + (zw (v100 + v101))) = zw (v5 + v6)) then (g_M_laysPeace_192 E v1 v2 v3 v4 v5 v6 v7 v8 v9 μ) else (gI (zw ((zw (9 * v11)) + (zw (v100 + v101)))) 81 (bif decide (μ 126 ((zw ((zw (9 * v11)) + (zw (v100 + v101)))).toNat) = zw ((zw (v7 - v8)) - 1)) then (g_M_laysPeace_172 E v1 v2 v3 v4 v7 v8 v10 v11 (zw (v100 + v101)) μ) else (g_M_laysPeace_192 E v1 v2 v3 v4 v5 v6 v7 v8 v9 μ))) := by
    intro C E
    rfl
  exact key _ _
set_option maxRecDepth 100000 in
theorem e_M_laysPeace_192 (z : zZ) (d : Nat) (v1 : Int) (v2 : Int) (v3 : Int) (v4 : Int) (v5 : Int) (v6 : Int) (v7 : Int) (v8 : Int) (v9 : Int) (μ : Mu) : f_M_laysPeace_192 z d v1 v2 v3 v4 v5 v6 v7 v8 v9 μ = f_M_laysPeace_48 z d v1 v2 v3 v4 v5 v6 v7 v8 (zw (v9 + 1)) μ := by
  show mE z d q_M_laysPeace 192 [(2, 86), (0, v1), (0, v2), (0, v3), (0, v4), (0, v5), (0, v6), (0, v7), (0, v8), (0, v9), (9, 0), (9, 0), (9, 0)] [] μ = _
  rw [mE_bk (M := q_M_laysPeace) k_M_laysPeace.1 k_M_laysPeace.2 [38, 48, 94, 95, 129, 130, 172, 192, 198, 204] 400]
  have key : ∀ (C : Nat → List zv → Mu → mR) (E : Nat → List zv → List zv → Mu → mR), mbk C E q_M_laysPeace.1 q_M_laysPeace.2.1 z q_M_laysPeace.2.2.2 [38, 48, 94, 95, 129, 130, 172, 192, 198, 204] 400 (zfind q_M_laysPeace.2.2.2 192) [(2, 86), (0, v1), (0, v2), (0, v3), (0, v4), (0, v5), (0, v6), (0, v7), (0, v8), (0, v9), (9, 0), (9, 0), (9, 0)] [] μ = g_M_laysPeace_48 E v1 v2 v3 v4 v5 v6 v7 v8 (zw (v9 + 1)) μ := by
    intro C E
    rfl
  exact key _ _
set_option maxRecDepth 100000 in
theorem e_M_laysPeace_172 (z : zZ) (d : Nat) (v1 : Int) (v2 : Int) (v3 : Int) (v4 : Int) (v7 : Int) (v8 : Int) (v10 : Int) (v11 : Int) (v12 : Int) (μ : Mu) : f_M_laysPeace_172 z d v1 v2 v3 v4 v7 v8 v10 v11 v12 μ = gI v8 16 (f_M_laysPeace_198 z d v1 v2 v3 v4 v11 v12 v7 v8 (zup μ 127 v8.toNat v10)) := by
  show mE z d q_M_laysPeace 172 [(2, 86), (0, v1), (0, v2), (0, v3), (0, v4), (9, 0), (9, 0), (0, v7), (0, v8), (9, 0), (0, v10), (0, v11), (0, v12)] [] μ = _
  rw [mE_bk (M := q_M_laysPeace) k_M_laysPeace.1 k_M_laysPeace.2 [38, 48, 94, 95, 129, 130, 172, 192, 198, 204] 400]
  have key : ∀ (C : Nat → List zv → Mu → mR) (E : Nat → List zv → List zv → Mu → mR), mbk C E q_M_laysPeace.1 q_M_laysPeace.2.1 z q_M_laysPeace.2.2.2 [38, 48, 94, 95, 129, 130, 172, 192, 198, 204] 400 (zfind q_M_laysPeace.2.2.2 172) [(2, 86), (0, v1), (0, v2), (0, v3), (0, v4), (9, 0), (9, 0), (0, v7), (0, v8), (9, 0), (0, v10), (0, v11), (0, v12)] [] μ = gI v8 16 (g_M_laysPeace_198 E v1 v2 v3 v4 v11 v12 v7 v8 (zup μ 127 v8.toNat v10)) := by
    intro C E
    rfl
  exact key _ _
