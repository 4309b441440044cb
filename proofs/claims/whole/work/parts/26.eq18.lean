def g_Arr_fill_AIIV_5 (E : Nat → List zv → List zv → Mu → mR) (v0 : Int) (v1 : Int) (v2 : Int) (v3 : Int) (μ : Mu) : mR := E 5 [(2, v0), (0, v1), (0, v2), (0, v3)] [] μ
noncomputable def f_Arr_fill_AIIV_5 (z : zZ) (d : Nat) (v0 : Int) (v1 : Int) (v2 : Int) (v3 : Int) (μ : Mu) : mR := g_Arr_fill_AIIV_5 (fun pc ls st μ => mE z d q_Arr_fill_AIIV pc ls st μ) v0 v1 v2 v3 μ
theorem k_Arr_fill_AIIV : zprK q_Arr_fill_AIIV.2.2.2 = true ∧ zinc q_Arr_fill_AIIV.2.2.2 = true := by decide +kernel
set_option maxRecDepth 100000 in
theorem c_Arr_fill_AIIV (z : zZ) (d : Nat) (v0 : Int) (v1 : Int) (μ : Mu) : mC z (d + 1) 5 [(2, v0), (0, v1)] μ = gK v0 (f_Arr_fill_AIIV_5 z d v0 v1 0 (zlen v0) μ) := by
  rw [mC_succ q_Arr_fill_AIIV rfl rfl rfl]
  rw [mE_bk (M := q_Arr_fill_AIIV) k_Arr_fill_AIIV.1 k_Arr_fill_AIIV.2 [5] 400]
  have key : ∀ (C : Nat → List zv → Mu → mR) (E : Nat → List zv → List zv → Mu → mR), mbk C E q_Arr_fill_AIIV.1 q_Arr_fill_AIIV.2.1 z q_Arr_fill_AIIV.2.2.2 [5] 400 (zfind q_Arr_fill_AIIV.2.2.2 0) (zentry q_Arr_fill_AIIV.2.2.1 [(2, v0), (0, v1)]) [] μ = gK v0 (g_Arr_fill_AIIV_5 E v0 v1 0 (zlen v0) μ) := by
    intro C E
    rfl
  exact key _ _
set_option maxRecDepth 100000 in
theorem e_Arr_fill_AIIV_5 (z : zZ) (d : Nat) (v0 : Int) (v1 : Int) (v2 : Int) (v3 : Int) (μ : Mu) : f_Arr_fill_AIIV_5 z d v0 v1 v2 v3 μ = bif decide (v3 ≤ v2) then (some (0, μ)) else (gA v0 v2 (f_Arr_fill_AIIV_5 z d v0 v1 (zw (v2 + 1)) v3 (zup μ v0.toNat v2.toNat v1))) := by
  show mE z d q_Arr_fill_AIIV 5 [(2, v0), (0, v1), (0, v2), (0, v3)] [] μ = _
  rw [mE_bk (M := q_Arr_fill_AIIV) k_Arr_fill_AIIV.1 k_Arr_fill_AIIV.2 [5] 400]
  have key : ∀ (C : Nat → List zv → Mu → mR) (E : Nat → List zv → List zv → Mu → mR), mbk C E q_Arr_fill_AIIV.1 q_Arr_fill_AIIV.2.1 z q_Arr_fill_AIIV.2.2.2 [5] 400 (zfind q_Arr_fill_AIIV.2.2.2 5) [(2, v0), (0, v1), (0, v2), (0, v3)] [] μ = bif decide (v3 ≤ v2) then (some (0, μ)) else (gA v0 v2 (g_Arr_fill_AIIV_5 E v0 v1 (zw (v2 + 1)) v3 (zup μ v0.toNat v2.toNat v1))) := by
    intro C E
    rfl
  exact key _ _
def g_W_strength_17 (E : Nat → List zv → List zv → Mu → mR) (μ : Mu) : mR := E 17 [(9, 0), (9, 0), (9, 0)] [] μ
noncomputable def f_W_strength_17 (z : zZ) (d : Nat) (μ : Mu) : mR := g_W_strength_17 (fun pc ls st μ => mE z d q_W_strength pc ls st μ) μ
theorem k_W_strength : zprK q_W_strength.2.2.2 = true ∧ zinc q_W_strength.2.2.2 = true := by decide +kernel
set_option maxRecDepth 100000 in
theorem c_W_strength (z : zZ) (d : Nat) (v1 : Int) (v2 : Int) (μ : Mu) : mC z (d + 1) 12 [(2, 0), (0, v1), (0, v2)] μ = (mC z d 13 [(0, v1)] μ).bind fun q1 => (bif decide (q1.1 = 0) then (f_W_strength_17 z d q1.2) else (bif decide (v2 < 0) then (f_W_strength_17 z d q1.2) else (bif decide (v2 ≤ 99) then (gI v1 12 (some (1, zup q1.2 35 v1.toNat v2))) else (f_W_strength_17 z d q1.2)))) := by
  rw [mC_succ q_W_strength rfl rfl rfl]
  rw [mE_bk (M := q_W_strength) k_W_strength.1 k_W_strength.2 [17] 400]
  have key : ∀ (C : Nat → List zv → Mu → mR) (E : Nat → List zv → List zv → Mu → mR), mbk C E q_W_strength.1 q_W_strength.2.1 z q_W_strength.2.2.2 [17] 400 (zfind q_W_strength.2.2.2 0) (zentry q_W_strength.2.2.1 [(2, 0), (0, v1), (0, v2)]) [] μ = (C 13 [(0, v1)] μ).bind fun q1 => (bif decide (q1.1 = 0) then (g_W_strength_17 E q1.2) else (bif decide (v2 < 0) then (g_W_strength_17 E q1.2) else (bif decide (v2 ≤ 99) then (gI v1 12 (some (1, zup q1.2 35 v1.toNat v2))) else (g_W_strength_17 E q1.2)))) := by
    intro C E
    rfl
  exact key _ _
set_option maxRecDepth 100000 in
theorem e_W_strength_17 (z : zZ) (d : Nat) (μ : Mu) : f_W_strength_17 z d μ = some (0, μ) := by
  show mE z d q_W_strength 17 [(9, 0), (9, 0), (9, 0)] [] μ = _
  rw [mE_bk (M := q_W_strength) k_W_strength.1 k_W_strength.2 [17] 400]
  have key : ∀ (C : Nat → List zv → Mu → mR) (E : Nat → List zv → List zv → Mu → mR), mbk C E q_W_strength.1 q_W_strength.2.1 z q_W_strength.2.2.2 [17] 400 (zfind q_W_strength.2.2.2 17) [(9, 0), (9, 0), (9, 0)] [] μ = some (0, μ) := by
    intro C E
    rfl
  exact key _ _
def g_W_isLetter_14 (E : Nat → List zv → List zv → Mu → mR) (μ : Mu) : mR := E 14 [(9, 0)] [] μ
noncomputable def f_W_isLetter_14 (z : zZ) (d : Nat) (μ : Mu) : mR := g_W_isLetter_14 (fun pc ls st μ => mE z d q_W_isLetter pc ls st μ) μ
def g_W_isLetter_15 (E : Nat → List zv → List zv → Mu → mR) (v100 : Int) (μ : Mu) : mR := E 15 [(9, 0)] [(0, v100)] μ
noncomputable def f_W_isLetter_15 (z : zZ) (d : Nat) (v100 : Int) (μ : Mu) : mR := g_W_isLetter_15 (fun pc ls st μ => mE z d q_W_isLetter pc ls st μ) v100 μ
theorem k_W_isLetter : zprK q_W_isLetter.2.2.2 = true ∧ zinc q_W_isLetter.2.2.2 = true := by decide +kernel
set_option maxRecDepth 100000 in
theorem c_W_isLetter (z : zZ) (d : Nat) (v0 : Int) (μ : Mu) : mC z (d + 1) 13 [(0, v0)] μ = bif decide (v0 < 0) then (f_W_isLetter_14 z d μ) else (bif decide (12 ≤ v0) then (f_W_isLetter_14 z d μ) else (f_W_isLetter_15 z d 1 μ)) := by
  rw [mC_succ q_W_isLetter rfl rfl rfl]
  rw [mE_bk (M := q_W_isLetter) k_W_isLetter.1 k_W_isLetter.2 [14, 15] 400]
  have key : ∀ (C : Nat → List zv → Mu → mR) (E : Nat → List zv → List zv → Mu → mR), mbk C E q_W_isLetter.1 q_W_isLetter.2.1 z q_W_isLetter.2.2.2 [14, 15] 400 (zfind q_W_isLetter.2.2.2 0) (zentry q_W_isLetter.2.2.1 [(0, v0)]) [] μ = bif decide (v0 < 0) then (g_W_isLetter_14 E μ) else (bif decide (12 ≤ v0) then (g_W_isLetter_14 E μ) else (g_W_isLetter_15 E 1 μ)) := by
    intro C E
    rfl
  exact key _ _
set_option maxRecDepth 100000 in
theorem e_W_isLetter_14 (z : zZ) (d : Nat) (μ : Mu) : f_W_isLetter_14 z d μ = f_W_isLetter_15 z d 0 μ := by
  show mE z d q_W_isLetter 14 [(9, 0)] [] μ = _
  rw [mE_bk (M := q_W_isLetter) k_W_isLetter.1 k_W_isLetter.2 [14, 15] 400]
  have key : ∀ (C : Nat → List zv → Mu → mR) (E : Nat → List zv → List zv → Mu → mR), mbk C E q_W_isLetter.1 q_W_isLetter.2.1 z q_W_isLetter.2.2.2 [14, 15] 400 (zfind q_W_isLetter.2.2.2 14) [(9, 0)] [] μ = g_W_isLetter_15 E 0 μ := by
    intro C E
    rfl
  exact key _ _
set_option maxRecDepth 100000 in
theorem e_W_isLetter_15 (z : zZ) (d : Nat) (v100 : Int) (μ : Mu) : f_W_isLetter_15 z d v100 μ = g01 v100 (some (v100, μ)) := by
  show mE z d q_W_isLetter 15 [(9, 0)] [(0, v100)] μ = _
  rw [mE_bk (M := q_W_isLetter) k_W_isLetter.1 k_W_isLetter.2 [14, 15] 400]
  have key : ∀ (C : Nat → List zv → Mu → mR) (E : Nat → List zv → List zv → Mu → mR), mbk C E q_W_isLetter.1 q_W_isLetter.2.1 z q_W_isLetter.2.2.2 [14, 15] 400 (zfind q_W_isLetter.2.2.2 15) [(9, 0)] [(0, v100)] μ = g01 v100 (some (v100, μ)) := by
    intro C E
    rfl
  exact key _ _
def g_W_reserve_25 (E : Nat → List zv → List zv → Mu → mR) (μ : Mu) : mR := E 25 [(9, 0), (9, 0), (9, 0), (9, 0)] [] μ
noncomputable def f_W_reserve_25 (z : zZ) (d : Nat) (μ : Mu) : mR := g_W_reserve_25 (fun pc ls st μ => mE z d q_W_reserve pc ls st μ) μ
def g_W_reserve_27 (E : Nat → List zv → List zv → Mu → mR) (v1 : Int) (v2 : Int) (v3 : Int) (μ : Mu) : mR := E 27 [(2, 0), (0, v1), (0, v2), (0, v3)] [] μ
noncomputable def f_W_reserve_27 (z : zZ) (d : Nat) (v1 : Int) (v2 : Int) (v3 : Int) (μ : Mu) : mR := g_W_reserve_27 (fun pc ls st μ => mE z d q_W_reserve pc ls st μ) v1 v2 v3 μ
theorem k_W_reserve : zprK q_W_reserve.2.2.2 = true ∧ zinc q_W_reserve.2.2.2 = true := by decide +kernel
set_option maxRecDepth 100000 in
theorem c_W_reserve (z : zZ) (d : Nat) (v1 : Int) (v2 : Int) (v3 : Int) (μ : Mu) : mC z (d + 1) 14 [(2, 0), (0, v1), (0, v2), (0, v3)] μ = (mC z d 15 [(0, v1)] μ).bind fun q1 => (bif decide (q1.1 = 0) then (f_W_reserve_25 z d q1.2) else ((mC z d 13 [(0, v2)] q1.2).bind fun q2 => (bif decide (q2.1 = 0) then (f_W_reserve_25 z d q2.2) else (bif decide (v3 < 0) then (f_W_reserve_25 z d q2.2) else (bif decide (v3 ≤ 999) then (f_W_reserve_27 z d v1 v2 v3 q2.2) else (f_W_reserve_25 z d q2.2)))))) := by
  rw [mC_succ q_W_reserve rfl rfl rfl]
  rw [mE_bk (M := q_W_reserve) k_W_reserve.1 k_W_reserve.2 [25, 27] 400]
  have key : ∀ (C : Nat → List zv → Mu → mR) (E : Nat → List zv → List zv → Mu → mR), mbk C E q_W_reserve.1 q_W_reserve.2.1 z q_W_reserve.2.2.2 [25, 27] 400 (zfind q_W_reserve.2.2.2 0) (zentry q_W_reserve.2.2.1 [(2, 0), (0, v1), (0, v2), (0, v3)]) [] μ = (C 15 [(0, v1)] μ).bind fun q1 => (bif decide (q1.1 = 0) then (g_W_reserve_25 E q1.2) else ((C 13 [(0, v2)] q1.2).bind fun q2 => (bif decide (q2.1 = 0) then (g_W_reserve_25 E q2.2) else (bif decide (v3 < 0) then (g_W_reserve_25 E q2.2) else (bif decide (v3 ≤ 999) then (g_W_reserve_27 E v1 v2 v3 q2.2) else (g_W_reserve_25 E q2.2)))))) := by
    intro C E
    rfl
  exact key _ _
set_option maxRecDepth 100000 in
theorem e_W_reserve_25 (z : zZ) (d : Nat) (μ : Mu) : f_W_reserve_25 z d μ = some (0, μ) := by
  show mE z d q_W_reserve 25 [(9, 0), (9, 0), (9, 0), (9, 0)] [] μ = _
  rw [mE_bk (M := q_W_reserve) k_W_reserve.1 k_W_reserve.2 [25, 27] 400]
  have key : ∀ (C : Nat → List zv → Mu → mR) (E : Nat → List zv → List zv → Mu → mR), mbk C E q_W_reserve.1 q_W_reserve.2.1 z q_W_reserve.2.2.2 [25, 27] 400 (zfind q_W_reserve.2.2.2 25) [(9, 0), (9, 0), (9, 0), (9, 0)] [] μ = some (0, μ) := by
    intro C E
    rfl
  exact key _ _
set_option maxRecDepth 100000 in
theorem e_W_reserve_27 (z : zZ) (d : Nat) (v1 : Int) (v2 : Int) (v3 : Int) (μ : Mu) (hv1 : v1 = 0 ∨ v1 = 1) : f_W_reserve_27 z d v1 v2 v3 μ = gI (zw (0 + v2)) 36 (some (1, zup μ ((4 + 9 * v1.toNat) + 3) ((zw (0 + v2)).toNat) v3)) := by
  show mE z d q_W_reserve 27 [(2, 0), (0, v1), (0, v2), (0, v3)] [] μ = _
  rw [mE_bk (M := q_W_reserve) k_W_reserve.1 k_W_reserve.2 [25, 27] 400]
  have key : ∀ (C : Nat → List zv → Mu → mR) (E : Nat → List zv → List zv → Mu → mR), mbk C E q_W_reserve.1 q_W_reserve.2.1 z q_W_reserve.2.2.2 [25, 27] 400 (zfind q_W_reserve.2.2.2 27) [(2, 0), (0, v1), (0, v2), (0, v3)] [] μ = gI (zw (0 + v2)) 36 (some (1, zup μ ((4 + 9 * v1.toNat) + 3) ((zw (0 + v2)).toNat) v3)) := by
    intro C E
    rcases hv1 with rfl | rfl <;> (rfl)
  exact key _ _
def g_W_isSide_9 (E : Nat → List zv → List zv → Mu → mR) (μ : Mu) : mR := E 9 [(9, 0)] [] μ
noncomputable def f_W_isSide_9 (z : zZ) (d : Nat) (μ : Mu) : mR := g_W_isSide_9 (fun pc ls st μ => mE z d q_W_isSide pc ls st μ) μ
def g_W_isSide_14 (E : Nat → List zv → List zv → Mu → mR) (v100 : Int) (μ : Mu) : mR := E 14 [(9, 0)] [(0, v100)] μ
noncomputable def f_W_isSide_14 (z : zZ) (d : Nat) (v100 : Int) (μ : Mu) : mR := g_W_isSide_14 (fun pc ls st μ => mE z d q_W_isSide pc ls st μ) v100 μ
theorem k_W_isSide : zprK q_W_isSide.2.2.2 = true ∧ zinc q_W_isSide.2.2.2 = true := by decide +kernel
set_option maxRecDepth 100000 in
theorem c_W_isSide (z : zZ) (d : Nat) (v0 : Int) (μ : Mu) : mC z (d + 1) 15 [(0, v0)] μ = bif decide (v0 = 0) then (f_W_isSide_9 z d μ) else (bif !decide (v0 = 1) then (f_W_isSide_14 z d 0 μ) else (f_W_isSide_9 z d μ)) := by
  rw [mC_succ q_W_isSide rfl rfl rfl]
  rw [mE_bk (M := q_W_isSide) k_W_isSide.1 k_W_isSide.2 [9, 14] 400]
  have key : ∀ (C : Nat → List zv → Mu → mR) (E : Nat → List zv → List zv → Mu → mR), mbk C E q_W_isSide.1 q_W_isSide.2.1 z q_W_isSide.2.2.2 [9, 14] 400 (zfind q_W_isSide.2.2.2 0) (zentry q_W_isSide.2.2.1 [(0, v0)]) [] μ = bif decide (v0 = 0) then (g_W_isSide_9 E μ) else (bif !decide (v0 = 1) then (g_W_isSide_14 E 0 μ) else (g_W_isSide_9 E μ)) := by
    intro C E
    rfl
  exact key _ _
set_option maxRecDepth 100000 in
theorem e_W_isSide_9 (z : zZ) (d : Nat) (μ : Mu) : f_W_isSide_9 z d μ = f_W_isSide_14 z d 1 μ := by
  show mE z d q_W_isSide 9 [(9, 0)] [] μ = _
  rw [mE_bk (M := q_W_isSide) k_W_isSide.1 k_W_isSide.2 [9, 14] 400]
  have key : ∀ (C : Nat → List zv → Mu → mR) (E : Nat → List zv → List zv → Mu → mR), mbk C E q_W_isSide.1 q_W_isSide.2.1 z q_W_isSide.2.2.2 [9, 14] 400 (zfind q_W_isSide.2.2.2 9) [(9, 0)] [] μ = g_W_isSide_14 E 1 μ := by
    intro C E
    rfl
  exact key _ _
set_option maxRecDepth 100000 in
theorem e_W_isSide_14 (z : zZ) (d : Nat) (v100 : Int) (μ : Mu) : f_W_isSide_14 z d v100 μ = g01 v100 (some (v100, μ)) := by
  show mE z d q_W_isSide 14 [(9, 0)] [(0, v100)] μ = _
  rw [mE_bk (M := q_W_isSide) k_W_isSide.1 k_W_isSide.2 [9, 14] 400]
  have key : ∀ (C : Nat → List zv → Mu → mR) (E : Nat → List zv → List zv → Mu → mR), mbk C E q_W_isSide.1 q_W_isSide.2.1 z q_W_isSide.2.2.2 [9, 14] 400 (zfind q_W_isSide.2.2.2 14) [(9, 0)] [(0, v100)] μ = g01 v100 (some (v100, μ)) := by
    intro C E
    rfl
  exact key _ _
theorem k_W_feed : zprK q_W_feed.2.2.2 = true ∧ zinc q_W_feed.2.2.2 = true := by decide +kernel
set_option maxRecDepth 100000 in
theorem c_W_feed (z : zZ) (d : Nat) (v1 : Int) (v2 : Int) (v3 : Int) (v4 : Int) (v5 : Int) (μ : Mu) : mC z (d + 1) 16 [(2, 0), (0, v1), (0, v2), (0, v3), (0, v4), (0, v5)] μ = bif decide (zw ((μ 1 1) + 20) ≤ 220) then ((mC z d 17 [(2, 1), (0, v1)] μ).bind fun q1 => ((mC z d 17 [(2, 1), (0, v2)] q1.2).bind fun q2 => ((mC z d 17 [(2, 1), (0, v3)] q2.2).bind fun q3 => ((mC z d 17 [(2, 1), (0, v4)] q3.2).bind fun q4 => ((mC z d 17 [(2, 1), (0, v5)] q4.2).bind fun q5 => (some (q5.2 1 1, q5.2))))))) else (some ((-1), μ)) := by
  rw [mC_succ q_W_feed rfl rfl rfl]
  rw [mE_bk (M := q_W_feed) k_W_feed.1 k_W_feed.2 [] 400]
  have key : ∀ (C : Nat → List zv → Mu → mR) (E : Nat → List zv → List zv → Mu → mR), mbk C E q_W_feed.1 q_W_feed.2.1 z q_W_feed.2.2.2 [] 400 (zfind q_W_feed.2.2.2 0) (zentry q_W_feed.2.2.1 [(2, 0), (0, v1), (0, v2), (0, v3), (0, v4), (0, v5)]) [] μ = bif decide (zw ((μ 1 1) + 20) ≤ 220) then ((C 17 [(2, 1), (0, v1)] μ).bind fun q1 => ((C 17 [(2, 1), (0, v2)] q1.2).bind fun q2 => ((C 17 [(2, 1), (0, v3)] q2.2).bind fun q3 => ((C 17 [(2, 1), (0, v4)] q3.2).bind fun q4 => ((C 17 [(2, 1), (0, v5)] q4.2).bind fun q5 => (some (q5.2 1 1, q5.2))))))) else (some ((-1), μ)) := by
    intro C E
    rfl
  exact key _ _
def g_Tape_append_3 (E : Nat → List zv → List zv → Mu → mR) (v1 : Int) (v2 : Int) (μ : Mu) : mR := E 3 [(2, 1), (0, v1), (0, v2)] [] μ
noncomputable def f_Tape_append_3 (z : zZ) (d : Nat) (v1 : Int) (v2 : Int) (μ : Mu) : mR := g_Tape_append_3 (fun pc ls st μ => mE z d q_Tape_append pc ls st μ) v1 v2 μ
def g_Tape_append_49 (E : Nat → List zv → List zv → Mu → mR) (μ : Mu) : mR := E 49 [(9, 0), (9, 0), (9, 0)] [] μ
noncomputable def f_Tape_append_49 (z : zZ) (d : Nat) (μ : Mu) : mR := g_Tape_append_49 (fun pc ls st μ => mE z d q_Tape_append pc ls st μ) μ
theorem k_Tape_append : zprK q_Tape_append.2.2.2 = true ∧ zinc q_Tape_append.2.2.2 = true := by decide +kernel
set_option maxRecDepth 100000 in
theorem c_Tape_append (z : zZ) (d : Nat) (v1 : Int) (μ : Mu) : mC z (d + 1) 17 [(2, 1), (0, v1)] μ = f_Tape_append_3 z d v1 24 μ := by
  rw [mC_succ q_Tape_append rfl rfl rfl]
  rw [mE_bk (M := q_Tape_append) k_Tape_append.1 k_Tape_append.2 [3, 49] 400]
  have key : ∀ (C : Nat → List zv → Mu → mR) (E : Nat → List zv → List zv → Mu → mR), mbk C E q_Tape_append.1 q_Tape_append.2.1 z q_Tape_append.2.2.2 [3, 49] 400 (zfind q_Tape_append.2.2.2 0) (zentry q_Tape_append.2.2.1 [(2, 1), (0, v1)]) [] μ = g_Tape_append_3 E v1 24 μ := by
    intro C E
    rfl
  exact key _ _
set_option maxRecDepth 100000 in
theorem e_Tape_append_3 (z : zZ) (d : Nat) (v1 : Int) (v2 : Int) (μ : Mu) : f_Tape_append_3 z d v1 v2 μ = bif decide (v2 < 0) then (f_Tape_append_49 z d μ) else (bif decide (220 ≤ μ 1 1) then (f_Tape_append_49 z d μ) else (gI (μ 1 1) 220 (f_Tape_append_3 z d v1 (zw (v2 + (-8))) (zup (zup μ 2 ((μ 1 1).toNat) (z_and (z_ushr v1 v2) 255)) 1 1 (zw ((μ 1 1) + 1)))))) := by
  show mE z d q_Tape_append 3 [(2, 1), (0, v1), (0, v2)] [] μ = _
  rw [mE_bk (M := q_Tape_append) k_Tape_append.1 k_Tape_append.2 [3, 49] 400]
  have key : ∀ (C : Nat → List zv → Mu → mR) (E : Nat → List zv → List zv → Mu → mR), mbk C E q_Tape_append.1 q_Tape_append.2.1 z q_Tape_append.2.2.2 [3, 49] 400 (zfind q_Tape_append.2.2.2 3) [(2, 1), (0, v1), (0, v2)] [] μ = bif decide (v2 < 0) then (g_Tape_append_49 E μ) else (bif decide (220 ≤ μ 1 1) then (g_Tape_append_49 E μ) else (gI (μ 1 1) 220 (g_Tape_append_3 E v1 (zw (v2 + (-8))) (zup (zup μ 2 ((μ 1 1).toNat) (z_and (z_ushr v1 v2) 255)) 1 1 (zw ((μ 1 1) + 1)))))) := by
    intro C E
    rfl
  exact key _ _
set_option maxRecDepth 100000 in
theorem e_Tape_append_49 (z : zZ) (d : Nat) (μ : Mu) : f_Tape_append_49 z d μ = some (0, μ) := by
  show mE z d q_Tape_append 49 [(9, 0), (9, 0), (9, 0)] [] μ = _
  rw [mE_bk (M := q_Tape_append) k_Tape_append.1 k_Tape_append.2 [3, 49] 400]
  have key : ∀ (C : Nat → List zv → Mu → mR) (E : Nat → List zv → List zv → Mu → mR), mbk C E q_Tape_append.1 q_Tape_append.2.1 z q_Tape_append.2.2.2 [3, 49] 400 (zfind q_Tape_append.2.2.2 49) [(9, 0), (9, 0), (9, 0)] [] μ = some (0, μ) := by
    intro C E
    rfl
  exact key _ _
def g_W_order_19 (E : Nat → List zv → List zv → Mu → mR) (μ : Mu) : mR := E 19 [(9, 0), (9, 0)] [] μ
noncomputable def f_W_order_19 (z : zZ) (d : Nat) (μ : Mu) : mR := g_W_order_19 (fun pc ls st μ => mE z d q_W_order pc ls st μ) μ
def g_W_order_21 (E : Nat → List zv → List zv → Mu → mR) (v1 : Int) (μ : Mu) : mR := E 21 [(2, 0), (0, v1)] [] μ
noncomputable def f_W_order_21 (z : zZ) (d : Nat) (v1 : Int) (μ : Mu) : mR := g_W_order_21 (fun pc ls st μ => mE z d q_W_order pc ls st μ) v1 μ
theorem k_W_order : zprK q_W_order.2.2.2 = true ∧ zinc q_W_order.2.2.2 = true := by decide +kernel
set_option maxRecDepth 100000 in
theorem c_W_order (z : zZ) (d : Nat) (v1 : Int) (μ : Mu) : mC z (d + 1) 18 [(2, 0), (0, v1)] μ = (mC z d 15 [(0, v1)] μ).bind fun q1 => (bif decide (q1.1 = 0) then (f_W_order_19 z d q1.2) else (bif decide (12 ≤ q1.2 1 1) then (f_W_order_21 z d v1 q1.2) else (f_W_order_19 z d q1.2))) := by
  rw [mC_succ q_W_order rfl rfl rfl]
  rw [mE_bk (M := q_W_order) k_W_order.1 k_W_order.2 [19, 21] 400]
  have key : ∀ (C : Nat → List zv → Mu → mR) (E : Nat → List zv → List zv → Mu → mR), mbk C E q_W_order.1 q_W_order.2.1 z q_W_order.2.2.2 [19, 21] 400 (zfind q_W_order.2.2.2 0) (zentry q_W_order.2.2.1 [(2, 0), (0, v1)]) [] μ = (C 15 [(0, v1)] μ).bind fun q1 => (bif decide (q1.1 = 0) then (g_W_order_19 E q1.2) else (bif decide (12 ≤ q1.2 1 1) then (g_W_order_21 E v1 q1.2) else (g_W_order_19 E q1.2))) := by
    intro C E
    rfl
  exact key _ _
set_option maxRecDepth 100000 in
theorem e_W_order_19 (z : zZ) (d : Nat) (μ : Mu) : f_W_order_19 z d μ = some (0, μ) := by
  show mE z d q_W_order 19 [(9, 0), (9, 0)] [] μ = _
  rw [mE_bk (M := q_W_order) k_W_order.1 k_W_order.2 [19, 21] 400]
  have key : ∀ (C : Nat → List zv → Mu → mR) (E : Nat → List zv → List zv → Mu → mR), mbk C E q_W_order.1 q_W_order.2.1 z q_W_order.2.2.2 [19, 21] 400 (zfind q_W_order.2.2.2 19) [(9, 0), (9, 0)] [] μ = some (0, μ) := by
    intro C E
    rfl
  exact key _ _
set_option maxRecDepth 100000 in
theorem e_W_order_21 (z : zZ) (d : Nat) (v1 : Int) (μ : Mu) (hv1 : v1 = 0 ∨ v1 = 1) : f_W_order_21 z d v1 μ = (mC z d 19 [(2, 1), (0, 12)] μ).bind fun q1 => ((mC z d 20 [(2, (((4 + 9 * v1.toNat) : Nat) : Int)), (2, 1)] q1.2).bind fun q2 => (g01 q2.1 (some (q2.1, q2.2)))) := by
  show mE z d q_W_order 21 [(2, 0), (0, v1)] [] μ = _
  rw [mE_bk (M := q_W_order) k_W_order.1 k_W_order.2 [19, 21] 400]
  have key : ∀ (C : Nat → List zv → Mu → mR) (E : Nat → List zv → List zv → Mu → mR), mbk C E q_W_order.1 q_W_order.2.1 z q_W_order.2.2.2 [19, 21] 400 (zfind q_W_order.2.2.2 21) [(2, 0), (0, v1)] [] μ = (C 19 [(2, 1), (0, 12)] μ).bind fun q1 => ((C 20 [(2, (((4 + 9 * v1.toNat) : Nat) : Int)), (2, 1)] q1.2).bind fun q2 => (g01 q2.1 (some (q2.1, q2.2)))) := by
    intro C E
    rcases hv1 with rfl | rfl <;> (rfl)
  exact key _ _
theorem k_Tape_open : zprK q_Tape_open.2.2.2 = true ∧ zinc q_Tape_open.2.2.2 = true := by decide +kernel
set_option maxRecDepth 100000 in
theorem c_Tape_open (z : zZ) (d : Nat) (v1 : Int) (μ : Mu) : mC z (d + 1) 19 [(2, 1), (0, v1)] μ = some (0, zup (zup (zup (zup μ 1 2 0) 1 3 (if 220 < v1 then 220 else v1)) 1 4 0) 1 1 0) := by
  rw [mC_succ q_Tape_open rfl rfl rfl]
  rw [mE_bk (M := q_Tape_open) k_Tape_open.1 k_Tape_open.2 [] 400]
  have key : ∀ (C : Nat → List zv → Mu → mR) (E : Nat → List zv → List zv → Mu → mR), mbk C E q_Tape_open.1 q_Tape_open.2.1 z q_Tape_open.2.2.2 [] 400 (zfind q_Tape_open.2.2.2 0) (zentry q_Tape_open.2.2.1 [(2, 1), (0, v1)]) [] μ = some (0, zup (zup (zup (zup μ 1 2 0) 1 3 (if 220 < v1 then 220 else v1)) 1 4 0) 1 1 0) := by
    intro C E
    rfl
  exact key _ _
def g_Army_takeOrder_4 (E : Nat → List zv → List zv → Mu → mR) (o0 : Nat) (v2 : Int) (v3 : Int) (μ : Mu) : mR := E 4 [(2, ((o0 : Nat) : Int)), (2, 1), (0, v2), (0, v3), (9, 0)] [] μ
noncomputable def f_Army_takeOrder_4 (z : zZ) (d : Nat) (o0 : Nat) (v2 : Int) (v3 : Int) (μ : Mu) : mR := g_Army_takeOrder_4 (fun pc ls st μ => mE z d q_Army_takeOrder pc ls st μ) o0 v2 v3 μ
def g_Army_takeOrder_33 (E : Nat → List zv → List zv → Mu → mR) (μ : Mu) : mR := E 33 [(9, 0), (9, 0), (9, 0), (9, 0), (9, 0)] [] μ
noncomputable def f_Army_takeOrder_33 (z : zZ) (d : Nat) (μ : Mu) : mR := g_Army_takeOrder_33 (fun pc ls st μ => mE z d q_Army_takeOrder pc ls st μ) μ
def g_Army_takeOrder_35 (E : Nat → List zv → List zv → Mu → mR) (o0 : Nat) (v2 : Int) (v3 : Int) (v4 : Int) (μ : Mu) : mR := E 35 [(2, ((o0 : Nat) : Int)), (2, 1), (0, v2), (0, v3), (0, v4)] [] μ
noncomputable def f_Army_takeOrder_35 (z : zZ) (d : Nat) (o0 : Nat) (v2 : Int) (v3 : Int) (v4 : Int) (μ : Mu) : mR := g_Army_takeOrder_35 (fun pc ls st μ => mE z d q_Army_takeOrder pc ls st μ) o0 v2 v3 v4 μ
def g_Army_takeOrder_55 (E : Nat → List zv → List zv → Mu → mR) (o0 : Nat) (v3 : Int) (μ : Mu) : mR := E 55 [(2, ((o0 : Nat) : Int)), (2, 1), (9, 0), (0, v3), (9, 0)] [] μ
noncomputable def f_Army_takeOrder_55 (z : zZ) (d : Nat) (o0 : Nat) (v3 : Int) (μ : Mu) : mR := g_Army_takeOrder_55 (fun pc ls st μ => mE z d q_Army_takeOrder pc ls st μ) o0 v3 μ
def g_Army_takeOrder_91 (E : Nat → List zv → List zv → Mu → mR) (o0 : Nat) (v3 : Int) (μ : Mu) : mR := E 91 [(2, ((o0 : Nat) : Int)), (2, 1), (9, 0), (0, v3), (9, 0)] [] μ
noncomputable def f_Army_takeOrder_91 (z : zZ) (d : Nat) (o0 : Nat) (v3 : Int) (μ : Mu) : mR := g_Army_takeOrder_91 (fun pc ls st μ => mE z d q_Army_takeOrder pc ls st μ) o0 v3 μ
theorem k_Army_takeOrder : zprK q_Army_takeOrder.2.2.2 = true ∧ zinc q_Army_takeOrder.2.2.2 = true := by decide +kernel
set_option maxRecDepth 100000 in
theorem c_Army_takeOrder (z : zZ) (d : Nat) (o0 : Nat) (μ : Mu) (ho0 : o0 = 4 ∨ o0 = 13) : mC z (d + 1) 20 [(2, ((o0 : Nat) : Int)), (2, 1)] μ = f_Army_takeOrder_4 z d o0 0 0 μ := by
  rw [mC_succ q_Army_takeOrder rfl rfl rfl]
  rw [mE_bk (M := q_Army_takeOrder) k_Army_takeOrder.1 k_Army_takeOrder.2 [4, 33, 35, 55, 91] 400]
  have key : ∀ (C : Nat → List zv → Mu → mR) (E : Nat → List zv → List zv → Mu → mR), mbk C E q_Army_takeOrder.1 q_Army_takeOrder.2.1 z q_Army_takeOrder.2.2.2 [4, 33, 35, 55, 91] 400 (zfind q_Army_takeOrder.2.2.2 0) (zentry q_Army_takeOrder.2.2.1 [(2, ((o0 : Nat) : Int)), (2, 1)]) [] μ = g_Army_takeOrder_4 E o0 0 0 μ := by
    intro C E
    rcases ho0 with rfl | rfl <;> (rfl)
  exact key _ _
set_option maxRecDepth 100000 in
theorem e_Army_takeOrder_4 (z : zZ) (d : Nat) (o0 : Nat) (v2 : Int) (v3 : Int) (μ : Mu) (ho0 : o0 = 4 ∨ o0 = 13) : f_Army_takeOrder_4 z d o0 v2 v3 μ = bif decide (12 ≤ v3) then (f_Army_takeOrder_55 z d o0 0 (zup μ 1 2 0)) else ((mC z d 21 [(2, 1)] μ).bind fun q1 => ((mC z d 13 [(0, q1.1)] q1.2).bind fun q2 => (bif decide (q2.1 = 0) then (f_Army_takeOrder_33 z d q2.2) else ((mC z d 23 [(0, v2), (0, q1.1)] q2.2).bind fun q3 => (bif decide (q3.1 = 0) then (f_Army_takeOrder_35 z d o0 v2 v3 q1.1 q3.2) else (f_Army_takeOrder_33 z d q3.2)))))) := by
  show mE z d q_Army_takeOrder 4 [(2, ((o0 : Nat) : Int)), (2, 1), (0, v2), (0, v3), (9, 0)] [] μ = _
  rw [mE_bk (M := q_Army_takeOrder) k_Army_takeOrder.1 k_Army_takeOrder.2 [4, 33, 35, 55, 91] 400]
  have key : ∀ (C : Nat → List zv → Mu → mR) (E : Nat → List zv → List zv → Mu → mR), mbk C E q_Army_takeOrder.1 q_Army_takeOrder.2.1 z q_Army_takeOrder.2.2.2 [4, 33, 35, 55, 91] 400 (zfind q_Army_takeOrder.2.2.2 4) [(2, ((o0 : Nat) : Int)), (2, 1), (0, v2), (0, v3), (9, 0)] [] μ = bif decide (12 ≤ v3) then (g_Army_takeOrder_55 E o0 0 (zup μ 1 2 0)) else ((C 21 [(2, 1)] μ).bind fun q1 => ((C 13 [(0, q1.1)] q1.2).bind fun q2 => (bif decide (q2.1 = 0) then (g_Army_takeOrder_33 E q2.2) else ((C 23 [(0, v2), (0, q1.1)] q2.2).bind fun q3 => (bif decide (q3.1 = 0) then (g_Army_takeOrder_35 E o0 v2 v3 q1.1 q3.2) else (g_Army_takeOrder_33 E q3.2)))))) := by
    intro C E
    rcases ho0 with rfl | rfl <;> (rfl)
  exact key _ _
set_option maxRecDepth 100000 in
theorem e_Army_takeOrder_55 (z : zZ) (d : Nat) (o0 : Nat) (v3 : Int) (μ : Mu) (ho0 : o0 = 4 ∨ o0 = 13) : f_Army_takeOrder_55 z d o0 v3 μ = bif decide (12 ≤ v3) then (some (1, μ)) else ((mC z d 21 [(2, 1)] μ).bind fun q1 => ((mC z d 13 [(0, q1.1)] q1.2).bind fun q2 => (bif decide (q2.1 = 0) then (f_Army_takeOrder_91 z d o0 v3 q2.2) else (gI v3 12 (gI q1.1 12 (f_Army_takeOrder_91 z d o0 v3 (zup (zup q2.2 (o0 + 1) v3.toNat q1.1) (o0 + 2) q1.1.toNat v3))))))) := by
  show mE z d q_Army_takeOrder 55 [(2, ((o0 : Nat) : Int)), (2, 1), (9, 0), (0, v3), (9, 0)] [] μ = _
  rw [mE_bk (M := q_Army_takeOrder) k_Army_takeOrder.1 k_Army_takeOrder.2 [4, 33, 35, 55, 91] 400]
  have key : ∀ (C : Nat → List zv → Mu → mR) (E : Nat → List zv → List zv → Mu → mR), mbk C E q_Army_takeOrder.1 q_Army_takeOrder.2.1 z q_Army_takeOrder.2.2.2 [4, 33, 35, 55, 91] 400 (zfind q_Army_takeOrder.2.2.2 55) [(2, ((o0 : Nat) : Int)), (2, 1), (9, 0), (0, v3), (9, 0)] [] μ = bif decide (12 ≤ v3) then (some (1, μ)) else ((C 21 [(2, 1)] μ).bind fun q1 => ((C 13 [(0, q1.1)] q1.2).bind fun q2 => (bif decide (q2.1 = 0) then (g_Army_takeOrder_91 E o0 v3 q2.2) else (gI v3 12 (gI q1.1 12 (g_Army_takeOrder_91 E o0 v3 (zup (zup q2.2 (o0 + 1) v3.toNat q1.1) (o0 + 2) q1.1.toNat v3))))))) := by
    intro C E
    rcases ho0 with rfl | rfl <;> (rfl)
  exact key _ _
set_option maxRecDepth 100000 in
theorem e_Army_takeOrder_33 (z : zZ) (d : Nat) (μ : Mu) : f_Army_takeOrder_33 z d μ = some (0, μ) := by
  show mE z d q_Army_takeOrder 33 [(9, 0), (9, 0), (9, 0), (9, 0), (9, 0)] [] μ = _
  rw [mE_bk (M := q_Army_takeOrder) k_Army_takeOrder.1 k_Army_takeOrder.2 [4, 33, 35, 55, 91] 400]
  have key : ∀ (C : Nat → List zv → Mu → mR) (E : Nat → List zv → List zv → Mu → mR), mbk C E q_Army_takeOrder.1 q_Army_takeOrder.2.1 z q_Army_takeOrder.2.2.2 [4, 33, 35, 55, 91] 400 (zfind q_Army_takeOrder.2.2.2 33) [(9, 0), (9, 0), (9, 0), (9, 0), (9, 0)] [] μ = some (0, μ) := by
    intro C E
    rfl
  exact key _ _
set_option maxRecDepth 100000 in
theorem e_Army_takeOrder_35 (z : zZ) (d : Nat) (o0 : Nat) (v2 : Int) (v3 : Int) (v4 : Int) (μ : Mu) (ho0 : o0 = 4 ∨ o0 = 13) : f_Army_takeOrder_35 z d o0 v2 v3 v4 μ = f_Army_takeOrder_4 z d o0 (z_or v2 (z_shl 1 v4)) (zw (v3 + 1)) μ := by
  show mE z d q_Army_takeOrder 35 [(2, ((o0 : Nat) : Int)), (2, 1), (0, v2), (0, v3), (0, v4)] [] μ = _
  rw [mE_bk (M := q_Army_takeOrder) k_Army_takeOrder.1 k_Army_takeOrder.2 [4, 33, 35, 55, 91] 400]
  have key : ∀ (C : Nat → List zv → Mu → mR) (E : Nat → List zv → List zv → Mu → mR), mbk C E q_Army_takeOrder.1 q_Army_takeOrder.2.1 z q_Army_takeOrder.2.2.2 [4, 33, 35, 55, 91] 400 (zfind q_Army_takeOrder.2.2.2 35) [(2, ((o0 : Nat) : Int)), (2, 1), (0, v2), (0, v3), (0, v4)] [] μ = g_Army_takeOrder_4 E o0 (z_or v2 (z_shl 1 v4)) (zw (v3 + 1)) μ := by
    intro C E
    rcases ho0 with rfl | rfl <;> (rfl)
  exact key _ _
set_option maxRecDepth 100000 in
theorem e_Army_takeOrder_91 (z : zZ) (d : Nat) (o0 : Nat) (v3 : Int) (μ : Mu) (ho0 : o0 = 4 ∨ o0 = 13) : f_Army_takeOrder_91 z d o0 v3 μ = f_Army_takeOrder_55 z d o0 (zw (v3 + 1)) μ := by
  show mE z d q_Army_takeOrder 91 [(2, ((o0 : Nat) : Int)), (2, 1), (9, 0), (0, v3), (9, 0)] [] μ = _
  rw [mE_bk (M := q_Army_takeOrder) k_Army_takeOrder.1 k_Army_takeOrder.2 [4, 33, 35, 55, 91] 400]
  have key : ∀ (C : Nat → List zv → Mu → mR) (E : Nat → List zv → List zv → Mu → mR), mbk C E q_Army_takeOrder.1 q_Army_takeOrder.2.1 z q_Army_takeOrder.2.2.2 [4, 33, 35, 55, 91] 400 (zfind q_Army_takeOrder.2.2.2 91) [(2, ((o0 : Nat) : Int)), (2, 1), (9, 0), (0, v3), (9, 0)] [] μ = g_Army_takeOrder_55 E o0 (zw (v3 + 1)) μ := by
    intro C E
    rcases ho0 with rfl | rfl <;> (rfl)
  exact key _ _
theorem k_Tape_takeByte : zprK q_Tape_takeByte.2.2.2 = true ∧ zinc q_Tape_takeByte.2.2.2 = true := by decide +kernel
set_option maxRecDepth 100000 in
theorem c_Tape_takeByte (z : zZ) (d : Nat) (μ : Mu) : mC z (d + 1) 21 [(2, 1)] μ = (mC z d 22 [(2, 1)] μ).bind fun q1 => (some (q1.1, zup q1.2 1 2 (zw ((q1.2 1 2) + 1)))) := by
  rw [mC_succ q_Tape_takeByte rfl rfl rfl]
  rw [mE_bk (M := q_Tape_takeByte) k_Tape_takeByte.1 k_Tape_takeByte.2 [] 400]
  have key : ∀ (C : Nat → List zv → Mu → mR) (E : Nat → List zv → List zv → Mu → mR), mbk C E q_Tape_takeByte.1 q_Tape_takeByte.2.1 z q_Tape_takeByte.2.2.2 [] 400 (zfind q_Tape_takeByte.2.2.2 0) (zentry q_Tape_takeByte.2.2.1 [(2, 1)]) [] μ = (C 22 [(2, 1)] μ).bind fun q1 => (some (q1.1, zup q1.2 1 2 (zw ((q1.2 1 2) + 1)))) := by
    intro C E
    rfl
  exact key _ _
def g_Tape_peek_40 (E : Nat → List zv → List zv → Mu → mR) (μ : Mu) : mR := E 40 [(9, 0)] [] μ
noncomputable def f_Tape_peek_40 (z : zZ) (d : Nat) (μ : Mu) : mR := g_Tape_peek_40 (fun pc ls st μ => mE z d q_Tape_peek pc ls st μ) μ
def g_Tape_peek_41 (E : Nat → List zv → List zv → Mu → mR) (v100 : Int) (μ : Mu) : mR := E 41 [(9, 0)] [(0, v100)] μ
noncomputable def f_Tape_peek_41 (z : zZ) (d : Nat) (v100 : Int) (μ : Mu) : mR := g_Tape_peek_41 (fun pc ls st μ => mE z d q_Tape_peek pc ls st μ) v100 μ
theorem k_Tape_peek : zprK q_Tape_peek.2.2.2 = true ∧ zinc q_Tape_peek.2.2.2 = true := by decide +kernel
set_option maxRecDepth 100000 in
theorem c_Tape_peek (z : zZ) (d : Nat) (μ : Mu) : mC z (d + 1) 22 [(2, 1)] μ = bif decide (μ 1 2 < 0) then (f_Tape_peek_40 z d μ) else (bif decide (μ 1 3 ≤ μ 1 2) then (f_Tape_peek_40 z d μ) else (bif decide (220 ≤ μ 1 2) then (f_Tape_peek_40 z d μ) else (gI (μ 1 2) 220 (f_Tape_peek_41 z d (μ 2 ((μ 1 2).toNat)) μ)))) := by
  rw [mC_succ q_Tape_peek rfl rfl rfl]
  rw [mE_bk (M := q_Tape_peek) k_Tape_peek.1 k_Tape_peek.2 [40, 41] 400]
  have key : ∀ (C : Nat → List zv → Mu → mR) (E : Nat → List zv → List zv → Mu → mR), mbk C E q_Tape_peek.1 q_Tape_peek.2.1 z q_Tape_peek.2.2.2 [40, 41] 400 (zfind q_Tape_peek.2.2.2 0) (zentry q_Tape_peek.2.2.1 [(2, 1)]) [] μ = bif decide (μ 1 2 < 0) then (g_Tape_peek_40 E μ) else (bif decide (μ 1 3 ≤ μ 1 2) then (g_Tape_peek_40 E μ) else (bif decide (220 ≤ μ 1 2) then (g_Tape_peek_40 E μ) else (gI (μ 1 2) 220 (g_Tape_peek_41 E (μ 2 ((μ 1 2).toNat)) μ)))) := by
    intro C E
    rfl
  exact key _ _
set_option maxRecDepth 100000 in
theorem e_Tape_peek_40 (z : zZ) (d : Nat) (μ : Mu) : f_Tape_peek_40 z d μ = f_Tape_peek_41 z d ((-1)) μ := by
  show mE z d q_Tape_peek 40 [(9, 0)] [] μ = _
  rw [mE_bk (M := q_Tape_peek) k_Tape_peek.1 k_Tape_peek.2 [40, 41] 400]
  have key : ∀ (C : Nat → List zv → Mu → mR) (E : Nat → List zv → List zv → Mu → mR), mbk C E q_Tape_peek.1 q_Tape_peek.2.1 z q_Tape_peek.2.2.2 [40, 41] 400 (zfind q_Tape_peek.2.2.2 40) [(9, 0)] [] μ = g_Tape_peek_41 E ((-1)) μ := by
    intro C E
    rfl
  exact key _ _
set_option maxRecDepth 100000 in
theorem e_Tape_peek_41 (z : zZ) (d : Nat) (v100 : Int) (μ : Mu) : f_Tape_peek_41 z d v100 μ = some (v100, μ) := by
  show mE z d q_Tape_peek 41 [(9, 0)] [(0, v100)] μ = _
  rw [mE_bk (M := q_Tape_peek) k_Tape_peek.1 k_Tape_peek.2 [40, 41] 400]
  have key : ∀ (C : Nat → List zv → Mu → mR) (E : Nat → List zv → List zv → Mu → mR), mbk C E q_Tape_peek.1 q_Tape_peek.2.1 z q_Tape_peek.2.2.2 [40, 41] 400 (zfind q_Tape_peek.2.2.2 41) [(9, 0)] [(0, v100)] μ = some (v100, μ) := by
    intro C E
    rfl
  exact key _ _
def g_W_has_13 (E : Nat → List zv → List zv → Mu → mR) (v100 : Int) (μ : Mu) : mR := E 13 [(9, 0), (9, 0)] [(0, v100)] μ
noncomputable def f_W_has_13 (z : zZ) (d : Nat) (v100 : Int) (μ : Mu) : mR := g_W_has_13 (fun pc ls st μ => mE z d q_W_has pc ls st μ) v100 μ
theorem k_W_has : zprK q_W_has.2.2.2 = true ∧ zinc q_W_has.2.2.2 = true := by decide +kernel
set_option maxRecDepth 100000 in
theorem c_W_has (z : zZ) (d : Nat) (v0 : Int) (v1 : Int) (μ : Mu) : mC z (d + 1) 23 [(0, v0), (0, v1)] μ = bif decide (z_and (z_shr v0 v1) 1 = 0) then (f_W_has_13 z d 0 μ) else (f_W_has_13 z d 1 μ) := by
  rw [mC_succ q_W_has rfl rfl rfl]
  rw [mE_bk (M := q_W_has) k_W_has.1 k_W_has.2 [13] 400]
  have key : ∀ (C : Nat → List zv → Mu → mR) (E : Nat → List zv → List zv → Mu → mR), mbk C E q_W_has.1 q_W_has.2.1 z q_W_has.2.2.2 [13] 400 (zfind q_W_has.2.2.2 0) (zentry q_W_has.2.2.1 [(0, v0), (0, v1)]) [] μ = bif decide (z_and (z_shr v0 v1) 1 = 0) then (g_W_has_13 E 0 μ) else (g_W_has_13 E 1 μ) := by
    intro C E
    rfl
  exact key _ _
set_option maxRecDepth 100000 in
theorem e_W_has_13 (z : zZ) (d : Nat) (v100 : Int) (μ : Mu) : f_W_has_13 z d v100 μ = g01 v100 (some (v100, μ)) := by
  show mE z d q_W_has 13 [(9, 0), (9, 0)] [(0, v100)] μ = _
  rw [mE_bk (M := q_W_has) k_W_has.1 k_W_has.2 [13] 400]
  have key : ∀ (C : Nat → List zv → Mu → mR) (E : Nat → List zv → List zv → Mu → mR), mbk C E q_W_has.1 q_W_has.2.1 z q_W_has.2.2.2 [13] 400 (zfind q_W_has.2.2.2 13) [(9, 0), (9, 0)] [(0, v100)] μ = g01 v100 (some (v100, μ)) := by
    intro C E
    rfl
  exact key _ _
