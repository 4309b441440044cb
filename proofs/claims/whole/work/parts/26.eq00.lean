def g_M_strength_17 (E : Nat → List zv → List zv → Mu → mR) (μ : Mu) : mR := E 17 [(9, 0), (9, 0), (9, 0)] [] μ
noncomputable def f_M_strength_17 (z : zZ) (d : Nat) (μ : Mu) : mR := g_M_strength_17 (fun pc ls st μ => mE z d q_M_strength pc ls st μ) μ
theorem k_M_strength : zprK q_M_strength.2.2.2 = true ∧ zinc q_M_strength.2.2.2 = true := by decide +kernel
set_option maxRecDepth 100000 in
theorem c_M_strength (z : zZ) (d : Nat) (v1 : Int) (v2 : Int) (μ : Mu) : mC z (d + 1) 181 [(2, 86), (0, v1), (0, v2)] μ = (mC z d 182 [(0, v1)] μ).bind fun q1 => (bif decide (q1.1 = 0) then (f_M_strength_17 z d q1.2) else ((mC z d 183 [(0, v2), (0, 0), (0, 99)] q1.2).bind fun q2 => (bif !decide (q2.1 = 0) then (gI v1 12 (some (1, zup q2.2 87 v1.toNat v2))) else (f_M_strength_17 z d q2.2)))) := by
  rw [mC_succ q_M_strength rfl rfl rfl]
  rw [mE_bk (M := q_M_strength) k_M_strength.1 k_M_strength.2 [17] 400]
  have key : ∀ (C : Nat → List zv → Mu → mR) (E : Nat → List zv → List zv → Mu → mR), mbk C E q_M_strength.1 q_M_strength.2.1 z q_M_strength.2.2.2 [17] 400 (zfind q_M_strength.2.2.2 0) (zentry q_M_strength.2.2.1 [(2, 86), (0, v1), (0, v2)]) [] μ = (C 182 [(0, v1)] μ).bind fun q1 => (bif decide (q1.1 = 0) then (g_M_strength_17 E q1.2) else ((C 183 [(0, v2), (0, 0), (0, 99)] q1.2).bind fun q2 => (bif !decide (q2.1 = 0) then (gI v1 12 (some (1, zup q2.2 87 v1.toNat v2))) else (g_M_strength_17 E q2.2)))) := by
    intro C E
    rfl
  exact key _ _
set_option maxRecDepth 100000 in
theorem e_M_strength_17 (z : zZ) (d : Nat) (μ : Mu) : f_M_strength_17 z d μ = some (0, μ) := by
  show mE z d q_M_strength 17 [(9, 0), (9, 0), (9, 0)] [] μ = _
  rw [mE_bk (M := q_M_strength) k_M_strength.1 k_M_strength.2 [17] 400]
  have key : ∀ (C : Nat → List zv → Mu → mR) (E : Nat → List zv → List zv → Mu → mR), mbk C E q_M_strength.1 q_M_strength.2.1 z q_M_strength.2.2.2 [17] 400 (zfind q_M_strength.2.2.2 17) [(9, 0), (9, 0), (9, 0)] [] μ = some (0, μ) := by
    intro C E
    rfl
  exact key _ _
def g_M_isLetter_14 (E : Nat → List zv → List zv → Mu → mR) (μ : Mu) : mR := E 14 [(9, 0)] [] μ
noncomputable def f_M_isLetter_14 (z : zZ) (d : Nat) (μ : Mu) : mR := g_M_isLetter_14 (fun pc ls st μ => mE z d q_M_isLetter pc ls st μ) μ
def g_M_isLetter_15 (E : Nat → List zv → List zv → Mu → mR) (v100 : Int) (μ : Mu) : mR := E 15 [(9, 0)] [(0, v100)] μ
noncomputable def f_M_isLetter_15 (z : zZ) (d : Nat) (v100 : Int) (μ : Mu) : mR := g_M_isLetter_15 (fun pc ls st μ => mE z d q_M_isLetter pc ls st μ) v100 μ
theorem k_M_isLetter : zprK q_M_isLetter.2.2.2 = true ∧ zinc q_M_isLetter.2.2.2 = true := by decide +kernel
set_option maxRecDepth 100000 in
theorem c_M_isLetter (z : zZ) (d : Nat) (v0 : Int) (μ : Mu) : mC z (d + 1) 182 [(0, v0)] μ = bif decide (v0 < 0) then (f_M_isLetter_14 z d μ) else (bif decide (12 ≤ v0) then (f_M_isLetter_14 z d μ) else (f_M_isLetter_15 z d 1 μ)) := by
  rw [mC_succ q_M_isLetter rfl rfl rfl]
  rw [mE_bk (M := q_M_isLetter) k_M_isLetter.1 k_M_isLetter.2 [14, 15] 400]
  have key : ∀ (C : Nat → List zv → Mu → mR) (E : Nat → List zv → List zv → Mu → mR), mbk C E q_M_isLetter.1 q_M_isLetter.2.1 z q_M_isLetter.2.2.2 [14, 15] 400 (zfind q_M_isLetter.2.2.2 0) (zentry q_M_isLetter.2.2.1 [(0, v0)]) [] μ = bif decide (v0 < 0) then (g_M_isLetter_14 E μ) else (bif decide (12 ≤ v0) then (g_M_isLetter_14 E μ) else (g_M_isLetter_15 E 1 μ)) := by
    intro C E
    rfl
  exact key _ _
set_option maxRecDepth 100000 in
theorem e_M_isLetter_14 (z : zZ) (d : Nat) (μ : Mu) : f_M_isLetter_14 z d μ = f_M_isLetter_15 z d 0 μ := by
  show mE z d q_M_isLetter 14 [(9, 0)] [] μ = _
  rw [mE_bk (M := q_M_isLetter) k_M_isLetter.1 k_M_isLetter.2 [14, 15] 400]
  have key : ∀ (C : Nat → List zv → Mu → mR) (E : Nat → List zv → List zv → Mu → mR), mbk C E q_M_isLetter.1 q_M_isLetter.2.1 z q_M_isLetter.2.2.2 [14, 15] 400 (zfind q_M_isLetter.2.2.2 14) [(9, 0)] [] μ = g_M_isLetter_15 E 0 μ := by
    intro C E
    rfl
  exact key _ _
set_option maxRecDepth 100000 in
theorem e_M_isLetter_15 (z : zZ) (d : Nat) (v100 : Int) (μ : Mu) : f_M_isLetter_15 z d v100 μ = g01 v100 (some (v100, μ)) := by
  show mE z d q_M_isLetter 15 [(9, 0)] [(0, v100)] μ = _
  rw [mE_bk (M := q_M_isLetter) k_M_isLetter.1 k_M_isLetter.2 [14, 15] 400]
  have key : ∀ (C : Nat → List zv → Mu → mR) (E : Nat → List zv → List zv → Mu → mR), mbk C E q_M_isLetter.1 q_M_isLetter.2.1 z q_M_isLetter.2.2.2 [14, 15] 400 (zfind q_M_isLetter.2.2.2 15) [(9, 0)] [(0, v100)] μ = g01 v100 (some (v100, μ)) := by
    intro C E
    rfl
  exact key _ _
def g_M_in_14 (E : Nat → List zv → List zv → Mu → mR) (μ : Mu) : mR := E 14 [(9, 0), (9, 0), (9, 0)] [] μ
noncomputable def f_M_in_14 (z : zZ) (d : Nat) (μ : Mu) : mR := g_M_in_14 (fun pc ls st μ => mE z d q_M_in pc ls st μ) μ
def g_M_in_15 (E : Nat → List zv → List zv → Mu → mR) (v100 : Int) (μ : Mu) : mR := E 15 [(9, 0), (9, 0), (9, 0)] [(0, v100)] μ
noncomputable def f_M_in_15 (z : zZ) (d : Nat) (v100 : Int) (μ : Mu) : mR := g_M_in_15 (fun pc ls st μ => mE z d q_M_in pc ls st μ) v100 μ
theorem k_M_in : zprK q_M_in.2.2.2 = true ∧ zinc q_M_in.2.2.2 = true := by decide +kernel
set_option maxRecDepth 100000 in
theorem c_M_in (z : zZ) (d : Nat) (v0 : Int) (v1 : Int) (v2 : Int) (μ : Mu) : mC z (d + 1) 183 [(0, v0), (0, v1), (0, v2)] μ = bif decide (v0 < v1) then (f_M_in_14 z d μ) else (bif decide (v2 < v0) then (f_M_in_14 z d μ) else (f_M_in_15 z d 1 μ)) := by
  rw [mC_succ q_M_in rfl rfl rfl]
  rw [mE_bk (M := q_M_in) k_M_in.1 k_M_in.2 [14, 15] 400]
  have key : ∀ (C : Nat → List zv → Mu → mR) (E : Nat → List zv → List zv → Mu → mR), mbk C E q_M_in.1 q_M_in.2.1 z q_M_in.2.2.2 [14, 15] 400 (zfind q_M_in.2.2.2 0) (zentry q_M_in.2.2.1 [(0, v0), (0, v1), (0, v2)]) [] μ = bif decide (v0 < v1) then (g_M_in_14 E μ) else (bif decide (v2 < v0) then (g_M_in_14 E μ) else (g_M_in_15 E 1 μ)) := by
    intro C E
    rfl
  exact key _ _
set_option maxRecDepth 100000 in
theorem e_M_in_14 (z : zZ) (d : Nat) (μ : Mu) : f_M_in_14 z d μ = f_M_in_15 z d 0 μ := by
  show mE z d q_M_in 14 [(9, 0), (9, 0), (9, 0)] [] μ = _
  rw [mE_bk (M := q_M_in) k_M_in.1 k_M_in.2 [14, 15] 400]
  have key : ∀ (C : Nat → List zv → Mu → mR) (E : Nat → List zv → List zv → Mu → mR), mbk C E q_M_in.1 q_M_in.2.1 z q_M_in.2.2.2 [14, 15] 400 (zfind q_M_in.2.2.2 14) [(9, 0), (9, 0), (9, 0)] [] μ = g_M_in_15 E 0 μ := by
    intro C E
    rfl
  exact key _ _
set_option maxRecDepth 100000 in
theorem e_M_in_15 (z : zZ) (d : Nat) (v100 : Int) (μ : Mu) : f_M_in_15 z d v100 μ = g01 v100 (some (v100, μ)) := by
  show mE z d q_M_in 15 [(9, 0), (9, 0), (9, 0)] [(0, v100)] μ = _
  rw [mE_bk (M := q_M_in) k_M_in.1 k_M_in.2 [14, 15] 400]
  have key : ∀ (C : Nat → List zv → Mu → mR) (E : Nat → List zv → List zv → Mu → mR), mbk C E q_M_in.1 q_M_in.2.1 z q_M_in.2.2.2 [14, 15] 400 (zfind q_M_in.2.2.2 15) [(9, 0), (9, 0), (9, 0)] [(0, v100)] μ = g01 v100 (some (v100, μ)) := by
    intro C E
    rfl
  exact key _ _
def g_M_reserve_25 (E : Nat → List zv → List zv → Mu → mR) (μ : Mu) : mR := E 25 [(9, 0), (9, 0), (9, 0), (9, 0)] [] μ
noncomputable def f_M_reserve_25 (z : zZ) (d : Nat) (μ : Mu) : mR := g_M_reserve_25 (fun pc ls st μ => mE z d q_M_reserve pc ls st μ) μ
theorem k_M_reserve : zprK q_M_reserve.2.2.2 = true ∧ zinc q_M_reserve.2.2.2 = true := by decide +kernel
set_option maxRecDepth 100000 in
theorem c_M_reserve (z : zZ) (d : Nat) (v1 : Int) (v2 : Int) (v3 : Int) (μ : Mu) : mC z (d + 1) 184 [(2, 86), (0, v1), (0, v2), (0, v3)] μ = (mC z d 185 [(0, v1)] μ).bind fun q1 => (bif decide (q1.1 = 0) then (f_M_reserve_25 z d q1.2) else ((mC z d 182 [(0, v2)] q1.2).bind fun q2 => (bif decide (q2.1 = 0) then (f_M_reserve_25 z d q2.2) else ((mC z d 183 [(0, v3), (0, 0), (0, 999)] q2.2).bind fun q3 => (bif !decide (q3.1 = 0) then (gI (zw ((zw (12 * v1)) + v2)) 24 (some (1, zup q3.2 90 ((zw ((zw (12 * v1)) + v2)).toNat) v3))) else (f_M_reserve_25 z d q3.2)))))) := by
  rw [mC_succ q_M_reserve rfl rfl rfl]
  rw [mE_bk (M := q_M_reserve) k_M_reserve.1 k_M_reserve.2 [25] 400]
  have key : ∀ (C : Nat → List zv → Mu → mR) (E : Nat → List zv → List zv → Mu → mR), mbk C E q_M_reserve.1 q_M_reserve.2.1 z q_M_reserve.2.2.2 [25] 400 (zfind q_M_reserve.2.2.2 0) (zentry q_M_reserve.2.2.1 [(2, 86), (0, v1), (0, v2), (0, v3)]) [] μ = (C 185 [(0, v1)] μ).bind fun q1 => (bif decide (q1.1 = 0) then (g_M_reserve_25 E q1.2) else ((C 182 [(0, v2)] q1.2).bind fun q2 => (bif decide (q2.1 = 0) then (g_M_reserve_25 E q2.2) else ((C 183 [(0, v3), (0, 0), (0, 999)] q2.2).bind fun q3 => (bif !decide (q3.1 = 0) then (gI (zw ((zw (12 * v1)) + v2)) 24 (some (1, zup q3.2 90 ((zw ((zw (12 * v1)) + v2)).toNat) v3))) else (g_M_reserve_25 E q3.2)))))) := by
    intro C E
    rfl
  exact key _ _
set_option maxRecDepth 100000 in
theorem e_M_reserve_25 (z : zZ) (d : Nat) (μ : Mu) : f_M_reserve_25 z d μ = some (0, μ) := by
  show mE z d q_M_reserve 25 [(9, 0), (9, 0), (9, 0), (9, 0)] [] μ = _
  rw [mE_bk (M := q_M_reserve) k_M_reserve.1 k_M_reserve.2 [25] 400]
  have key : ∀ (C : Nat → List zv → Mu → mR) (E : Nat → List zv → List zv → Mu → mR), mbk C E q_M_reserve.1 q_M_reserve.2.1 z q_M_reserve.2.2.2 [25] 400 (zfind q_M_reserve.2.2.2 25) [(9, 0), (9, 0), (9, 0), (9, 0)] [] μ = some (0, μ) := by
    intro C E
    rfl
  exact key _ _
def g_M_isSide_9 (E : Nat → List zv → List zv → Mu → mR) (μ : Mu) : mR := E 9 [(9, 0)] [] μ
noncomputable def f_M_isSide_9 (z : zZ) (d : Nat) (μ : Mu) : mR := g_M_isSide_9 (fun pc ls st μ => mE z d q_M_isSide pc ls st μ) μ
def g_M_isSide_14 (E : Nat → List zv → List zv → Mu → mR) (v100 : Int) (μ : Mu) : mR := E 14 [(9, 0)] [(0, v100)] μ
noncomputable def f_M_isSide_14 (z : zZ) (d : Nat) (v100 : Int) (μ : Mu) : mR := g_M_isSide_14 (fun pc ls st μ => mE z d q_M_isSide pc ls st μ) v100 μ
theorem k_M_isSide : zprK q_M_isSide.2.2.2 = true ∧ zinc q_M_isSide.2.2.2 = true := by decide +kernel
set_option maxRecDepth 100000 in
theorem c_M_isSide (z : zZ) (d : Nat) (v0 : Int) (μ : Mu) : mC z (d + 1) 185 [(0, v0)] μ = bif decide (v0 = 0) then (f_M_isSide_9 z d μ) else (bif !decide (v0 = 1) then (f_M_isSide_14 z d 0 μ) else (f_M_isSide_9 z d μ)) := by
  rw [mC_succ q_M_isSide rfl rfl rfl]
  rw [mE_bk (M := q_M_isSide) k_M_isSide.1 k_M_isSide.2 [9, 14] 400]
  have key : ∀ (C : Nat → List zv → Mu → mR) (E : Nat → List zv → List zv → Mu → mR), mbk C E q_M_isSide.1 q_M_isSide.2.1 z q_M_isSide.2.2.2 [9, 14] 400 (zfind q_M_isSide.2.2.2 0) (zentry q_M_isSide.2.2.1 [(0, v0)]) [] μ = bif decide (v0 = 0) then (g_M_isSide_9 E μ) else (bif !decide (v0 = 1) then (g_M_isSide_14 E 0 μ) else (g_M_isSide_9 E μ)) := by
    intro C E
    rfl
  exact key _ _
set_option maxRecDepth 100000 in
theorem e_M_isSide_9 (z : zZ) (d : Nat) (μ : Mu) : f_M_isSide_9 z d μ = f_M_isSide_14 z d 1 μ := by
  show mE z d q_M_isSide 9 [(9, 0)] [] μ = _
  rw [mE_bk (M := q_M_isSide) k_M_isSide.1 k_M_isSide.2 [9, 14] 400]
  have key : ∀ (C : Nat → List zv → Mu → mR) (E : Nat → List zv → List zv → Mu → mR), mbk C E q_M_isSide.1 q_M_isSide.2.1 z q_M_isSide.2.2.2 [9, 14] 400 (zfind q_M_isSide.2.2.2 9) [(9, 0)] [] μ = g_M_isSide_14 E 1 μ := by
    intro C E
    rfl
  exact key _ _
set_option maxRecDepth 100000 in
theorem e_M_isSide_14 (z : zZ) (d : Nat) (v100 : Int) (μ : Mu) : f_M_isSide_14 z d v100 μ = g01 v100 (some (v100, μ)) := by
  show mE z d q_M_isSide 14 [(9, 0)] [(0, v100)] μ = _
  rw [mE_bk (M := q_M_isSide) k_M_isSide.1 k_M_isSide.2 [9, 14] 400]
  have key : ∀ (C : Nat → List zv → Mu → mR) (E : Nat → List zv → List zv → Mu → mR), mbk C E q_M_isSide.1 q_M_isSide.2.1 z q_M_isSide.2.2.2 [9, 14] 400 (zfind q_M_isSide.2.2.2 14) [(9, 0)] [(0, v100)] μ = g01 v100 (some (v100, μ)) := by
    intro C E
    rfl
  exact key _ _
theorem k_M_feed : zprK q_M_feed.2.2.2 = true ∧ zinc q_M_feed.2.2.2 = true := by decide +kernel
set_option maxRecDepth 100000 in
theorem c_M_feed (z : zZ) (d : Nat) (v1 : Int) (v2 : Int) (v3 : Int) (v4 : Int) (v5 : Int) (μ : Mu) : mC z (d + 1) 186 [(2, 86), (0, v1), (0, v2), (0, v3), (0, v4), (0, v5)] μ = bif decide (zw ((μ 86 9) + 20) ≤ 220) then ((mC z d 187 [(2, 86), (0, v1)] μ).bind fun q1 => ((mC z d 187 [(2, 86), (0, v2)] q1.2).bind fun q2 => ((mC z d 187 [(2, 86), (0, v3)] q2.2).bind fun q3 => ((mC z d 187 [(2, 86), (0, v4)] q3.2).bind fun q4 => ((mC z d 187 [(2, 86), (0, v5)] q4.2).bind fun q5 => (some (q5.2 86 9, q5.2))))))) else (some ((-1), μ)) := by
  rw [mC_succ q_M_feed rfl rfl rfl]
  rw [mE_bk (M := q_M_feed) k_M_feed.1 k_M_feed.2 [] 400]
  have key : ∀ (C : Nat → List zv → Mu → mR) (E : Nat → List zv → List zv → Mu → mR), mbk C E q_M_feed.1 q_M_feed.2.1 z q_M_feed.2.2.2 [] 400 (zfind q_M_feed.2.2.2 0) (zentry q_M_feed.2.2.1 [(2, 86), (0, v1), (0, v2), (0, v3), (0, v4), (0, v5)]) [] μ = bif decide (zw ((μ 86 9) + 20) ≤ 220) then ((C 187 [(2, 86), (0, v1)] μ).bind fun q1 => ((C 187 [(2, 86), (0, v2)] q1.2).bind fun q2 => ((C 187 [(2, 86), (0, v3)] q2.2).bind fun q3 => ((C 187 [(2, 86), (0, v4)] q3.2).bind fun q4 => ((C 187 [(2, 86), (0, v5)] q4.2).bind fun q5 => (some (q5.2 86 9, q5.2))))))) else (some ((-1), μ)) := by
    intro C E
    rfl
  exact key _ _
def g_M_types_2 (E : Nat → List zv → List zv → Mu → mR) (v1 : Int) (v2 : Int) (μ : Mu) : mR := E 2 [(2, 86), (0, v1), (0, v2)] [] μ
noncomputable def f_M_types_2 (z : zZ) (d : Nat) (v1 : Int) (v2 : Int) (μ : Mu) : mR := g_M_types_2 (fun pc ls st μ => mE z d q_M_types pc ls st μ) v1 v2 μ
theorem k_M_types : zprK q_M_types.2.2.2 = true ∧ zinc q_M_types.2.2.2 = true := by decide +kernel
set_option maxRecDepth 100000 in
theorem c_M_types (z : zZ) (d : Nat) (v1 : Int) (μ : Mu) : mC z (d + 1) 187 [(2, 86), (0, v1)] μ = f_M_types_2 z d v1 3 μ := by
  rw [mC_succ q_M_types rfl rfl rfl]
  rw [mE_bk (M := q_M_types) k_M_types.1 k_M_types.2 [2] 400]
  have key : ∀ (C : Nat → List zv → Mu → mR) (E : Nat → List zv → List zv → Mu → mR), mbk C E q_M_types.1 q_M_types.2.1 z q_M_types.2.2.2 [2] 400 (zfind q_M_types.2.2.2 0) (zentry q_M_types.2.2.1 [(2, 86), (0, v1)]) [] μ = g_M_types_2 E v1 3 μ := by
    intro C E
    rfl
  exact key _ _
set_option maxRecDepth 100000 in
theorem e_M_types_2 (z : zZ) (d : Nat) (v1 : Int) (v2 : Int) (μ : Mu) : f_M_types_2 z d v1 v2 μ = bif decide (v2 < 0) then (some (0, μ)) else (gI (μ 86 9) 220 (f_M_types_2 z d v1 (zw (v2 + (-1))) (zup (zup μ 93 ((μ 86 9).toNat) (z_i2b (z_i2b (z_shr v1 (zw (8 * v2)))))) 86 9 (zw ((μ 86 9) + 1))))) := by
  show mE z d q_M_types 2 [(2, 86), (0, v1), (0, v2)] [] μ = _
  rw [mE_bk (M := q_M_types) k_M_types.1 k_M_types.2 [2] 400]
  have key : ∀ (C : Nat → List zv → Mu → mR) (E : Nat → List zv → List zv → Mu → mR), mbk C E q_M_types.1 q_M_types.2.1 z q_M_types.2.2.2 [2] 400 (zfind q_M_types.2.2.2 2) [(2, 86), (0, v1), (0, v2)] [] μ = bif decide (v2 < 0) then (some (0, μ)) else (gI (μ 86 9) 220 (g_M_types_2 E v1 (zw (v2 + (-1))) (zup (zup μ 93 ((μ 86 9).toNat) (z_i2b (z_i2b (z_shr v1 (zw (8 * v2)))))) 86 9 (zw ((μ 86 9) + 1))))) := by
    intro C E
    rfl
  exact key _ _
def g_M_order_16 (E : Nat → List zv → List zv → Mu → mR) (μ : Mu) : mR := E 16 [(9, 0), (9, 0), (9, 0), (9, 0)] [] μ
noncomputable def f_M_order_16 (z : zZ) (d : Nat) (μ : Mu) : mR := g_M_order_16 (fun pc ls st μ => mE z d q_M_order pc ls st μ) μ
def g_M_order_27 (E : Nat → List zv → List zv → Mu → mR) (v1 : Int) (v2 : Int) (v3 : Int) (μ : Mu) : mR := E 27 [(2, 86), (0, v1), (0, v2), (0, v3)] [] μ
noncomputable def f_M_order_27 (z : zZ) (d : Nat) (v1 : Int) (v2 : Int) (v3 : Int) (μ : Mu) : mR := g_M_order_27 (fun pc ls st μ => mE z d q_M_order pc ls st μ) v1 v2 v3 μ
def g_M_order_58 (E : Nat → List zv → List zv → Mu → mR) (μ : Mu) : mR := E 58 [(9, 0), (9, 0), (9, 0), (9, 0)] [] μ
noncomputable def f_M_order_58 (z : zZ) (d : Nat) (μ : Mu) : mR := g_M_order_58 (fun pc ls st μ => mE z d q_M_order pc ls st μ) μ
def g_M_order_60 (E : Nat → List zv → List zv → Mu → mR) (v1 : Int) (v2 : Int) (v3 : Int) (μ : Mu) : mR := E 60 [(2, 86), (0, v1), (0, v2), (0, v3)] [] μ
noncomputable def f_M_order_60 (z : zZ) (d : Nat) (v1 : Int) (v2 : Int) (v3 : Int) (μ : Mu) : mR := g_M_order_60 (fun pc ls st μ => mE z d q_M_order pc ls st μ) v1 v2 v3 μ
def g_M_order_79 (E : Nat → List zv → List zv → Mu → mR) (v1 : Int) (v3 : Int) (μ : Mu) : mR := E 79 [(2, 86), (0, v1), (9, 0), (0, v3)] [] μ
noncomputable def f_M_order_79 (z : zZ) (d : Nat) (v1 : Int) (v3 : Int) (μ : Mu) : mR := g_M_order_79 (fun pc ls st μ => mE z d q_M_order pc ls st μ) v1 v3 μ
theorem k_M_order : zprK q_M_order.2.2.2 = true ∧ zinc q_M_order.2.2.2 = true := by decide +kernel
set_option maxRecDepth 100000 in
theorem c_M_order (z : zZ) (d : Nat) (v1 : Int) (μ : Mu) : mC z (d + 1) 188 [(2, 86), (0, v1)] μ = (mC z d 185 [(0, v1)] μ).bind fun q1 => (bif decide (q1.1 = 0) then (f_M_order_16 z d q1.2) else (bif decide (12 ≤ q1.2 86 9) then (f_M_order_27 z d v1 0 0 (zup q1.2 86 9 0)) else (f_M_order_16 z d q1.2))) := by
  rw [mC_succ q_M_order rfl rfl rfl]
  rw [mE_bk (M := q_M_order) k_M_order.1 k_M_order.2 [16, 27, 58, 60, 79] 400]
  have key : ∀ (C : Nat → List zv → Mu → mR) (E : Nat → List zv → List zv → Mu → mR), mbk C E q_M_order.1 q_M_order.2.1 z q_M_order.2.2.2 [16, 27, 58, 60, 79] 400 (zfind q_M_order.2.2.2 0) (zentry q_M_order.2.2.1 [(2, 86), (0, v1)]) [] μ = (C 185 [(0, v1)] μ).bind fun q1 => (bif decide (q1.1 = 0) then (g_M_order_16 E q1.2) else (bif decide (12 ≤ q1.2 86 9) then (g_M_order_27 E v1 0 0 (zup q1.2 86 9 0)) else (g_M_order_16 E q1.2))) := by
    intro C E
    rfl
  exact key _ _
set_option maxRecDepth 100000 in
theorem e_M_order_16 (z : zZ) (d : Nat) (μ : Mu) : f_M_order_16 z d μ = some (0, μ) := by
  show mE z d q_M_order 16 [(9, 0), (9, 0), (9, 0), (9, 0)] [] μ = _
  rw [mE_bk (M := q_M_order) k_M_order.1 k_M_order.2 [16, 27, 58, 60, 79] 400]
  have key : ∀ (C : Nat → List zv → Mu → mR) (E : Nat → List zv → List zv → Mu → mR), mbk C E q_M_order.1 q_M_order.2.1 z q_M_order.2.2.2 [16, 27, 58, 60, 79] 400 (zfind q_M_order.2.2.2 16) [(9, 0), (9, 0), (9, 0), (9, 0)] [] μ = some (0, μ) := by
    intro C E
    rfl
  exact key _ _
set_option maxRecDepth 100000 in
theorem e_M_order_27 (z : zZ) (d : Nat) (v1 : Int) (v2 : Int) (v3 : Int) (μ : Mu) : f_M_order_27 z d v1 v2 v3 μ = bif decide (12 ≤ v3) then (f_M_order_79 z d v1 0 μ) else (gI v3 220 ((mC z d 182 [(0, μ 93 v3.toNat)] μ).bind fun q1 => (bif decide (q1.1 = 0) then (f_M_order_58 z d q1.2) else (gI v3 220 ((mC z d 189 [(0, v2), (0, q1.2 93 v3.toNat)] q1.2).bind fun q2 => (bif decide (q2.1 = 0) then (f_M_order_60 z d v1 v2 v3 q2.2) else (f_M_order_58 z d q2.2))))))) := by
  show mE z d q_M_order 27 [(2, 86), (0, v1), (0, v2), (0, v3)] [] μ = _
  rw [mE_bk (M := q_M_order) k_M_order.1 k_M_order.2 [16, 27, 58, 60, 79] 400]
  have key : ∀ (C : Nat → List zv → Mu → mR) (E : Nat → List zv → List zv → Mu → mR), mbk C E q_M_order.1 q_M_order.2.1 z q_M_order.2.2.2 [16, 27, 58, 60, 79] 400 (zfind q_M_order.2.2.2 27) [(2, 86), (0, v1), (0, v2), (0, v3)] [] μ = bif decide (12 ≤ v3) then (g_M_order_79 E v1 0 μ) else (gI v3 220 ((C 182 [(0, μ 93 v3.toNat)] μ).bind fun q1 => (bif decide (q1.1 = 0) then (g_M_order_58 E q1.2) else (gI v3 220 ((C 189 [(0, v2), (0, q1.2 93 v3.toNat)] q1.2).bind fun q2 => (bif decide (q2.1 = 0) then (g_M_order_60 E v1 v2 v3 q2.2) else (g_M_order_58 E q2.2))))))) := by
    intro C E
    rfl
  exact key _ _
set_option maxRecDepth 100000 in
theorem e_M_order_79 (z : zZ) (d : Nat) (v1 : Int) (v3 : Int) (μ : Mu) : f_M_order_79 z d v1 v3 μ = bif decide (12 ≤ v3) then (some (1, μ)) else (gI v3 220 (gI (zw ((zw (12 * v1)) + v3)) 24 (gI v3 220 (gI (zw ((zw (12 * v1)) + (μ 93 v3.toNat))) 24 (f_M_order_79 z d v1 (zw (v3 + 1)) (zup (zup μ 88 ((zw ((zw (12 * v1)) + v3)).toNat) (μ 93 v3.toNat)) 89 ((zw ((zw (12 * v1)) + (μ 93 v3.toNat))).toNat) v3)))))) := by
  show mE z d q_M_order 79 [(2, 86), (0, v1), (9, 0), (0, v3)] [] μ = _
  rw [mE_bk (M := q_M_order) k_M_order.1 k_M_order.2 [16, 27, 58, 60, 79] 400]
  have key : ∀ (C : Nat → List zv → Mu → mR) (E : Nat → List zv → List zv → Mu → mR), mbk C E q_M_order.1 q_M_order.2.1 z q_M_order.2.2.2 [16, 27, 58, 60, 79] 400 (zfind q_M_order.2.2.2 79) [(2, 86), (0, v1), (9, 0), (0, v3)] [] μ = bif decide (12 ≤ v3) then (some (1, μ)) else (gI v3 220 (gI (zw ((zw (12 * v1)) + v3)) 24 (gI v3 220 (gI (zw ((zw (12 * v1)) + (μ 93 v3.toNat))) 24 (g_M_order_79 E v1 (zw (v3 + 1)) (zup (zup μ 88 ((zw ((zw (12 * v1)) + v3)).toNat) (μ 93 v3.toNat)) 89 ((zw ((zw (12 * v1)) + (μ 93 v3.toNat))).toNat) v3)))))) := by
    intro C E
    rfl
  exact key _ _
set_option maxRecDepth 100000 in
theorem e_M_order_58 (z : zZ) (d : Nat) (μ : Mu) : f_M_order_58 z d μ = some (0, μ) := by
  show mE z d q_M_order 58 [(9, 0), (9, 0), (9, 0), (9, 0)] [] μ = _
  rw [mE_bk (M := q_M_order) k_M_order.1 k_M_order.2 [16, 27, 58, 60, 79] 400]
  have key : ∀ (C : Nat → List zv → Mu → mR) (E : Nat → List zv → List zv → Mu → mR), mbk C E q_M_order.1 q_M_order.2.1 z q_M_order.2.2.2 [16, 27, 58, 60, 79] 400 (zfind q_M_order.2.2.2 58) [(9, 0), (9, 0), (9, 0), (9, 0)] [] μ = some (0, μ) := by
    intro C E
    rfl
  exact key _ _
set_option maxRecDepth 100000 in
theorem e_M_order_60 (z : zZ) (d : Nat) (v1 : Int) (v2 : Int) (v3 : Int) (μ : Mu) : f_M_order_60 z d v1 v2 v3 μ = gI v3 220 (f_M_order_27 z d v1 (z_or v2 (z_shl 1 (μ 93 v3.toNat))) (zw (v3 + 1)) μ) := by
  show mE z d q_M_order 60 [(2, 86), (0, v1), (0, v2), (0, v3)] [] μ = _
  rw [mE_bk (M := q_M_order) k_M_order.1 k_M_order.2 [16, 27, 58, 60, 79] 400]
  have key : ∀ (C : Nat → List zv → Mu → mR) (E : Nat → List zv → List zv → Mu → mR), mbk C E q_M_order.1 q_M_order.2.1 z q_M_order.2.2.2 [16, 27, 58, 60, 79] 400 (zfind q_M_order.2.2.2 60) [(2, 86), (0, v1), (0, v2), (0, v3)] [] μ = gI v3 220 (g_M_order_27 E v1 (z_or v2 (z_shl 1 (μ 93 v3.toNat))) (zw (v3 + 1)) μ) := by
    intro C E
    rfl
  exact key _ _
def g_M_has_14 (E : Nat → List zv → List zv → Mu → mR) (v100 : Int) (μ : Mu) : mR := E 14 [(9, 0), (9, 0)] [(0, v100)] μ
noncomputable def f_M_has_14 (z : zZ) (d : Nat) (v100 : Int) (μ : Mu) : mR := g_M_has_14 (fun pc ls st μ => mE z d q_M_has pc ls st μ) v100 μ
theorem k_M_has : zprK q_M_has.2.2.2 = true ∧ zinc q_M_has.2.2.2 = true := by decide +kernel
set_option maxRecDepth 100000 in
theorem c_M_has (z : zZ) (d : Nat) (v0 : Int) (v1 : Int) (μ : Mu) : mC z (d + 1) 189 [(0, v0), (0, v1)] μ = bif !decide (z_and (z_shr v0 v1) 1 = 1) then (f_M_has_14 z d 0 μ) else (f_M_has_14 z d 1 μ) := by
  rw [mC_succ q_M_has rfl rfl rfl]
  rw [mE_bk (M := q_M_has) k_M_has.1 k_M_has.2 [14] 400]
  have key : ∀ (C : Nat → List zv → Mu → mR) (E : Nat → List zv → List zv → Mu → mR), mbk C E q_M_has.1 q_M_has.2.1 z q_M_has.2.2.2 [14] 400 (zfind q_M_has.2.2.2 0) (zentry q_M_has.2.2.1 [(0, v0), (0, v1)]) [] μ = bif !decide (z_and (z_shr v0 v1) 1 = 1) then (g_M_has_14 E 0 μ) else (g_M_has_14 E 1 μ) := by
    intro C E
    rfl
  exact key _ _
set_option maxRecDepth 100000 in
theorem e_M_has_14 (z : zZ) (d : Nat) (v100 : Int) (μ : Mu) : f_M_has_14 z d v100 μ = g01 v100 (some (v100, μ)) := by
  show mE z d q_M_has 14 [(9, 0), (9, 0)] [(0, v100)] μ = _
  rw [mE_bk (M := q_M_has) k_M_has.1 k_M_has.2 [14] 400]
  have key : ∀ (C : Nat → List zv → Mu → mR) (E : Nat → List zv → List zv → Mu → mR), mbk C E q_M_has.1 q_M_has.2.1 z q_M_has.2.2.2 [14] 400 (zfind q_M_has.2.2.2 14) [(9, 0), (9, 0)] [(0, v100)] μ = g01 v100 (some (v100, μ)) := by
    intro C E
    rfl
  exact key _ _
