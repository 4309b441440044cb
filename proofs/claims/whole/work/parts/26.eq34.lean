def g_Tre_holdsPlace_25 (E : Nat → List zv → List zv → Mu → mR) (μ : Mu) : mR := E 25 [(9, 0), (9, 0)] [] μ
noncomputable def f_Tre_holdsPlace_25 (z : zZ) (d : Nat) (μ : Mu) : mR := g_Tre_holdsPlace_25 (fun pc ls st μ => mE z d q_Tre_holdsPlace pc ls st μ) μ
def g_Tre_holdsPlace_26 (E : Nat → List zv → List zv → Mu → mR) (v100 : Int) (μ : Mu) : mR := E 26 [(9, 0), (9, 0)] [(0, v100)] μ
noncomputable def f_Tre_holdsPlace_26 (z : zZ) (d : Nat) (v100 : Int) (μ : Mu) : mR := g_Tre_holdsPlace_26 (fun pc ls st μ => mE z d q_Tre_holdsPlace pc ls st μ) v100 μ
theorem k_Tre_holdsPlace : zprK q_Tre_holdsPlace.2.2.2 = true ∧ zinc q_Tre_holdsPlace.2.2.2 = true := by decide +kernel
set_option maxRecDepth 100000 in
theorem c_Tre_holdsPlace (z : zZ) (d : Nat) (v1 : Int) (μ : Mu) : mC z (d + 1) 133 [(2, 55), (0, v1)] μ = bif decide (v1 < 0) then (f_Tre_holdsPlace_25 z d μ) else (bif decide (μ 55 1 ≤ v1) then (f_Tre_holdsPlace_25 z d μ) else (bif decide (16 ≤ v1) then (f_Tre_holdsPlace_25 z d μ) else (f_Tre_holdsPlace_26 z d 1 μ))) := by
  rw [mC_succ q_Tre_holdsPlace rfl rfl rfl]
  rw [mE_bk (M := q_Tre_holdsPlace) k_Tre_holdsPlace.1 k_Tre_holdsPlace.2 [25, 26] 400]
  have key : ∀ (C : Nat → List zv → Mu → mR) (E : Nat → List zv → List zv → Mu → mR), mbk C E q_Tre_holdsPlace.1 q_Tre_holdsPlace.2.1 z q_Tre_holdsPlace.2.2.2 [25, 26] 400 (zfind q_Tre_holdsPlace.2.2.2 0) (zentry q_Tre_holdsPlace.2.2.1 [(2, 55), (0, v1)]) [] μ = bif decide (v1 < 0) then (g_Tre_holdsPlace_25 E μ) else (bif decide (μ 55 1 ≤ v1) then (g_Tre_holdsPlace_25 E μ) else (bif decide (16 ≤ v1) then (g_Tre_holdsPlace_25 E μ) else (g_Tre_holdsPlace_26 E 1 μ))) := by
    intro C E
    rfl
  exact key _ _
set_option maxRecDepth 100000 in
theorem e_Tre_holdsPlace_25 (z : zZ) (d : Nat) (μ : Mu) : f_Tre_holdsPlace_25 z d μ = f_Tre_holdsPlace_26 z d 0 μ := by
  show mE z d q_Tre_holdsPlace 25 [(9, 0), (9, 0)] [] μ = _
  rw [mE_bk (M := q_Tre_holdsPlace) k_Tre_holdsPlace.1 k_Tre_holdsPlace.2 [25, 26] 400]
  have key : ∀ (C : Nat → List zv → Mu → mR) (E : Nat → List zv → List zv → Mu → mR), mbk C E q_Tre_holdsPlace.1 q_Tre_holdsPlace.2.1 z q_Tre_holdsPlace.2.2.2 [25, 26] 400 (zfind q_Tre_holdsPlace.2.2.2 25) [(9, 0), (9, 0)] [] μ = g_Tre_holdsPlace_26 E 0 μ := by
    intro C E
    rfl
  exact key _ _
set_option maxRecDepth 100000 in
theorem e_Tre_holdsPlace_26 (z : zZ) (d : Nat) (v100 : Int) (μ : Mu) : f_Tre_holdsPlace_26 z d v100 μ = g01 v100 (some (v100, μ)) := by
  show mE z d q_Tre_holdsPlace 26 [(9, 0), (9, 0)] [(0, v100)] μ = _
  rw [mE_bk (M := q_Tre_holdsPlace) k_Tre_holdsPlace.1 k_Tre_holdsPlace.2 [25, 26] 400]
  have key : ∀ (C : Nat → List zv → Mu → mR) (E : Nat → List zv → List zv → Mu → mR), mbk C E q_Tre_holdsPlace.1 q_Tre_holdsPlace.2.1 z q_Tre_holdsPlace.2.2.2 [25, 26] 400 (zfind q_Tre_holdsPlace.2.2.2 26) [(9, 0), (9, 0)] [(0, v100)] μ = g01 v100 (some (v100, μ)) := by
    intro C E
    rfl
  exact key _ _
def g_W_spy_16 (E : Nat → List zv → List zv → Mu → mR) (μ : Mu) : mR := E 16 [(9, 0), (9, 0), (9, 0), (9, 0), (9, 0), (9, 0), (9, 0)] [] μ
noncomputable def f_W_spy_16 (z : zZ) (d : Nat) (μ : Mu) : mR := g_W_spy_16 (fun pc ls st μ => mE z d q_W_spy pc ls st μ) μ
def g_W_spy_18 (E : Nat → List zv → List zv → Mu → mR) (v1 : Int) (v2 : Int) (v3 : Int) (μ : Mu) : mR := E 18 [(2, 0), (0, v1), (0, v2), (0, v3), (9, 0), (9, 0), (9, 0)] [] μ
noncomputable def f_W_spy_18 (z : zZ) (d : Nat) (v1 : Int) (v2 : Int) (v3 : Int) (μ : Mu) : mR := g_W_spy_18 (fun pc ls st μ => mE z d q_W_spy pc ls st μ) v1 v2 v3 μ
def g_W_spy_51 (E : Nat → List zv → List zv → Mu → mR) (v100 : Int) (μ : Mu) : mR := E 51 [(9, 0), (9, 0), (9, 0), (9, 0), (9, 0), (9, 0), (9, 0)] [(0, v100)] μ
noncomputable def f_W_spy_51 (z : zZ) (d : Nat) (v100 : Int) (μ : Mu) : mR := g_W_spy_51 (fun pc ls st μ => mE z d q_W_spy pc ls st μ) v100 μ
def g_W_spy_52 (E : Nat → List zv → List zv → Mu → mR) (v1 : Int) (v3 : Int) (o4 : Nat) (μ : Mu) : mR := E 52 [(2, 0), (0, v1), (9, 0), (0, v3), (2, ((o4 : Nat) : Int)), (9, 0), (9, 0)] [] μ
noncomputable def f_W_spy_52 (z : zZ) (d : Nat) (v1 : Int) (v3 : Int) (o4 : Nat) (μ : Mu) : mR := g_W_spy_52 (fun pc ls st μ => mE z d q_W_spy pc ls st μ) v1 v3 o4 μ
def g_W_spy_68 (E : Nat → List zv → List zv → Mu → mR) (v3 : Int) (o4 : Nat) (o5 : Nat) (v6 : Int) (μ : Mu) : mR := E 68 [(9, 0), (9, 0), (9, 0), (0, v3), (2, ((o4 : Nat) : Int)), (2, ((o5 : Nat) : Int)), (0, v6)] [] μ
noncomputable def f_W_spy_68 (z : zZ) (d : Nat) (v3 : Int) (o4 : Nat) (o5 : Nat) (v6 : Int) (μ : Mu) : mR := g_W_spy_68 (fun pc ls st μ => mE z d q_W_spy pc ls st μ) v3 o4 o5 v6 μ
def g_W_spy_143 (E : Nat → List zv → List zv → Mu → mR) (v100 : Int) (μ : Mu) : mR := E 143 [(9, 0), (9, 0), (9, 0), (9, 0), (9, 0), (9, 0), (9, 0)] [(0, v100)] μ
noncomputable def f_W_spy_143 (z : zZ) (d : Nat) (v100 : Int) (μ : Mu) : mR := g_W_spy_143 (fun pc ls st μ => mE z d q_W_spy pc ls st μ) v100 μ
theorem k_W_spy : zprK q_W_spy.2.2.2 = true ∧ zinc q_W_spy.2.2.2 = true := by decide +kernel
set_option maxRecDepth 100000 in
theorem c_W_spy (z : zZ) (d : Nat) (v1 : Int) (v2 : Int) (v3 : Int) (μ : Mu) : mC z (d + 1) 134 [(2, 0), (0, v1), (0, v2), (0, v3)] μ = (mC z d 15 [(0, v1)] μ).bind fun q1 => (bif decide (q1.1 = 0) then (f_W_spy_16 z d q1.2) else (bif decide (v3 < 0) then (f_W_spy_16 z d q1.2) else (bif decide (v3 ≤ 2) then (f_W_spy_18 z d v1 v2 v3 q1.2) else (f_W_spy_16 z d q1.2)))) := by
  rw [mC_succ q_W_spy rfl rfl rfl]
  rw [mE_bk (M := q_W_spy) k_W_spy.1 k_W_spy.2 [16, 18, 51, 52, 68, 143] 400]
  have key : ∀ (C : Nat → List zv → Mu → mR) (E : Nat → List zv → List zv → Mu → mR), mbk C E q_W_spy.1 q_W_spy.2.1 z q_W_spy.2.2.2 [16, 18, 51, 52, 68, 143] 400 (zfind q_W_spy.2.2.2 0) (zentry q_W_spy.2.2.1 [(2, 0), (0, v1), (0, v2), (0, v3)]) [] μ = (C 15 [(0, v1)] μ).bind fun q1 => (bif decide (q1.1 = 0) then (g_W_spy_16 E q1.2) else (bif decide (v3 < 0) then (g_W_spy_16 E q1.2) else (bif decide (v3 ≤ 2) then (g_W_spy_18 E v1 v2 v3 q1.2) else (g_W_spy_16 E q1.2)))) := by
    intro C E
    rfl
  exact key _ _
set_option maxRecDepth 100000 in
theorem e_W_spy_16 (z : zZ) (d : Nat) (μ : Mu) : f_W_spy_16 z d μ = some ((-1), μ) := by
  show mE z d q_W_spy 16 [(9, 0), (9, 0), (9, 0), (9, 0), (9, 0), (9, 0), (9, 0)] [] μ = _
  rw [mE_bk (M := q_W_spy) k_W_spy.1 k_W_spy.2 [16, 18, 51, 52, 68, 143] 400]
  have key : ∀ (C : Nat → List zv → Mu → mR) (E : Nat → List zv → List zv → Mu → mR), mbk C E q_W_spy.1 q_W_spy.2.1 z q_W_spy.2.2.2 [16, 18, 51, 52, 68, 143] 400 (zfind q_W_spy.2.2.2 16) [(9, 0), (9, 0), (9, 0), (9, 0), (9, 0), (9, 0), (9, 0)] [] μ = some ((-1), μ) := by
    intro C E
    rfl
  exact key _ _
set_option maxRecDepth 100000 in
theorem e_W_spy_18 (z : zZ) (d : Nat) (v1 : Int) (v2 : Int) (v3 : Int) (μ : Mu) (hv1 : v1 = 0 ∨ v1 = 1) : f_W_spy_18 z d v1 v2 v3 μ = bif !decide (v3 = 0) then (f_W_spy_52 z d v1 v3 (4 + 9 * v1.toNat) μ) else ((mC z d 37 [(2, (((4 + 9 * v1.toNat) : Nat) : Int)), (0, v2)] μ).bind fun q1 => (bif decide (q1.1 = 0) then (f_W_spy_51 z d ((-1)) q1.2) else ((mC z d 135 [(2, (((4 + 9 * v1.toNat) : Nat) : Int)), (0, v2), (0, 1), (0, 1)] q1.2).bind fun q2 => (f_W_spy_51 z d q2.1 q2.2)))) := by
  show mE z d q_W_spy 18 [(2, 0), (0, v1), (0, v2), (0, v3), (9, 0), (9, 0), (9, 0)] [] μ = _
  rw [mE_bk (M := q_W_spy) k_W_spy.1 k_W_spy.2 [16, 18, 51, 52, 68, 143] 400]
  have key : ∀ (C : Nat → List zv → Mu → mR) (E : Nat → List zv → List zv → Mu → mR), mbk C E q_W_spy.1 q_W_spy.2.1 z q_W_spy.2.2.2 [16, 18, 51, 52, 68, 143] 400 (zfind q_W_spy.2.2.2 18) [(2, 0), (0, v1), (0, v2), (0, v3), (9, 0), (9, 0), (9, 0)] [] μ = bif !decide (v3 = 0) then (g_W_spy_52 E v1 v3 (4 + 9 * v1.toNat) μ) else ((C 37 [(2, (((4 + 9 * v1.toNat) : Nat) : Int)), (0, v2)] μ).bind fun q1 => (bif decide (q1.1 = 0) then (g_W_spy_51 E ((-1)) q1.2) else ((C 135 [(2, (((4 + 9 * v1.toNat) : Nat) : Int)), (0, v2), (0, 1), (0, 1)] q1.2).bind fun q2 => (g_W_spy_51 E q2.1 q2.2)))) := by
    intro C E
    rcases hv1 with rfl | rfl <;> (rfl)
  exact key _ _
set_option maxRecDepth 100000 in
theorem e_W_spy_52 (z : zZ) (d : Nat) (v1 : Int) (v3 : Int) (o4 : Nat) (μ : Mu) (ho4 : o4 = 4 ∨ o4 = 13) (hv1 : v1 = 0 ∨ v1 = 1) : f_W_spy_52 z d v1 v3 o4 μ = (mC z d 106 [(2, (((23 + 6 * v1.toNat) : Nat) : Int))] μ).bind fun q1 => (f_W_spy_68 z d v3 o4 (23 + 6 * v1.toNat) 0 q1.2) := by
  show mE z d q_W_spy 52 [(2, 0), (0, v1), (9, 0), (0, v3), (2, ((o4 : Nat) : Int)), (9, 0), (9, 0)] [] μ = _
  rw [mE_bk (M := q_W_spy) k_W_spy.1 k_W_spy.2 [16, 18, 51, 52, 68, 143] 400]
  have key : ∀ (C : Nat → List zv → Mu → mR) (E : Nat → List zv → List zv → Mu → mR), mbk C E q_W_spy.1 q_W_spy.2.1 z q_W_spy.2.2.2 [16, 18, 51, 52, 68, 143] 400 (zfind q_W_spy.2.2.2 52) [(2, 0), (0, v1), (9, 0), (0, v3), (2, ((o4 : Nat) : Int)), (9, 0), (9, 0)] [] μ = (C 106 [(2, (((23 + 6 * v1.toNat) : Nat) : Int))] μ).bind fun q1 => (g_W_spy_68 E v3 o4 (23 + 6 * v1.toNat) 0 q1.2) := by
    intro C E
    rcases ho4 with rfl | rfl <;> rcases hv1 with rfl | rfl <;> (rfl)
  exact key _ _
set_option maxRecDepth 100000 in
theorem e_W_spy_51 (z : zZ) (d : Nat) (v100 : Int) (μ : Mu) : f_W_spy_51 z d v100 μ = some (v100, μ) := by
  show mE z d q_W_spy 51 [(9, 0), (9, 0), (9, 0), (9, 0), (9, 0), (9, 0), (9, 0)] [(0, v100)] μ = _
  rw [mE_bk (M := q_W_spy) k_W_spy.1 k_W_spy.2 [16, 18, 51, 52, 68, 143] 400]
  have key : ∀ (C : Nat → List zv → Mu → mR) (E : Nat → List zv → List zv → Mu → mR), mbk C E q_W_spy.1 q_W_spy.2.1 z q_W_spy.2.2.2 [16, 18, 51, 52, 68, 143] 400 (zfind q_W_spy.2.2.2 51) [(9, 0), (9, 0), (9, 0), (9, 0), (9, 0), (9, 0), (9, 0)] [(0, v100)] μ = some (v100, μ) := by
    intro C E
    rfl
  exact key _ _
set_option maxRecDepth 100000 in
theorem e_W_spy_68 (z : zZ) (d : Nat) (v3 : Int) (o4 : Nat) (o5 : Nat) (v6 : Int) (μ : Mu) (ho4 : o4 = 4 ∨ o4 = 13) (ho5 : o5 = 23 ∨ o5 = 29) : f_W_spy_68 z d v3 o4 o5 v6 μ = bif decide (μ o4 6 ≤ v6) then ((mC z d 111 [(2, ((o5 : Nat) : Int)), (1, 141289400074368), (1, 141289400074368), (0, 12), (0, (-1))] μ).bind fun q1 => (bif !decide (v3 = 1) then (f_W_spy_143 z d (q1.2 o5 8) q1.2) else (f_W_spy_143 z d (q1.2 o5 7) q1.2))) else ((mC z d 107 [(2, ((o5 : Nat) : Int)), (0, v6), (0, 1), (0, 0)] μ).bind fun q2 => ((mC z d 135 [(2, ((o4 : Nat) : Int)), (0, v6), (0, 1), (0, 2)] q2.2).bind fun q3 => (gI v6 12 (f_W_spy_68 z d v3 o4 o5 (zw (v6 + 1)) (zup q3.2 (o5 + 2) v6.toNat q3.1))))) := by
  show mE z d q_W_spy 68 [(9, 0), (9, 0), (9, 0), (0, v3), (2, ((o4 : Nat) : Int)), (2, ((o5 : Nat) : Int)), (0, v6)] [] μ = _
  rw [mE_bk (M := q_W_spy) k_W_spy.1 k_W_spy.2 [16, 18, 51, 52, 68, 143] 400]
  have key : ∀ (C : Nat → List zv → Mu → mR) (E : Nat → List zv → List zv → Mu → mR), mbk C E q_W_spy.1 q_W_spy.2.1 z q_W_spy.2.2.2 [16, 18, 51, 52, 68, 143] 400 (zfind q_W_spy.2.2.2 68) [(9, 0), (9, 0), (9, 0), (0, v3), (2, ((o4 : Nat) : Int)), (2, ((o5 : Nat) : Int)), (0, v6)] [] μ = bif decide (μ o4 6 ≤ v6) then ((C 111 [(2, ((o5 : Nat) : Int)), (1, 141289400074368), (1, 141289400074368), (0, 12), (0, (-1))] μ).bind fun q1 => (bif !decide (v3 = 1) then (g_W_spy_143 E (q1.2 o5 8) q1.2) else (g_W_spy_143 E (q1.2 o5 7) q1.2))) else ((C 107 [(2, ((o5 : Nat) : Int)), (0, v6), (0, 1), (0, 0)] μ).bind fun q2 => ((C 135 [(2, ((o4 : Nat) : Int)), (0, v6), (0, 1), (0, 2)] q2.2).bind fun q3 => (gI v6 12 (g_W_spy_68 E v3 o4 o5 (zw (v6 + 1)) (zup q3.2 (o5 + 2) v6.toNat q3.1))))) := by
    intro C E
    rcases ho4 with rfl | rfl <;> rcases ho5 with rfl | rfl <;> (rfl)
  exact key _ _
set_option maxRecDepth 100000 in
theorem e_W_spy_143 (z : zZ) (d : Nat) (v100 : Int) (μ : Mu) : f_W_spy_143 z d v100 μ = some (v100, μ) := by
  show mE z d q_W_spy 143 [(9, 0), (9, 0), (9, 0), (9, 0), (9, 0), (9, 0), (9, 0)] [(0, v100)] μ = _
  rw [mE_bk (M := q_W_spy) k_W_spy.1 k_W_spy.2 [16, 18, 51, 52, 68, 143] 400]
  have key : ∀ (C : Nat → List zv → Mu → mR) (E : Nat → List zv → List zv → Mu → mR), mbk C E q_W_spy.1 q_W_spy.2.1 z q_W_spy.2.2.2 [16, 18, 51, 52, 68, 143] 400 (zfind q_W_spy.2.2.2 143) [(9, 0), (9, 0), (9, 0), (9, 0), (9, 0), (9, 0), (9, 0)] [(0, v100)] μ = some (v100, μ) := by
    intro C E
    rfl
  exact key _ _
def g_Army_nearTo_6 (E : Nat → List zv → List zv → Mu → mR) (o0 : Nat) (v1 : Int) (v2 : Int) (v3 : Int) (v4 : Int) (v5 : Int) (μ : Mu) : mR := E 6 [(2, ((o0 : Nat) : Int)), (0, v1), (0, v2), (0, v3), (0, v4), (0, v5), (9, 0), (9, 0)] [] μ
noncomputable def f_Army_nearTo_6 (z : zZ) (d : Nat) (o0 : Nat) (v1 : Int) (v2 : Int) (v3 : Int) (v4 : Int) (v5 : Int) (μ : Mu) : mR := g_Army_nearTo_6 (fun pc ls st μ => mE z d q_Army_nearTo pc ls st μ) o0 v1 v2 v3 v4 v5 μ
def g_Army_nearTo_59 (E : Nat → List zv → List zv → Mu → mR) (o0 : Nat) (v1 : Int) (v2 : Int) (v3 : Int) (v4 : Int) (v5 : Int) (v6 : Int) (μ : Mu) : mR := E 59 [(2, ((o0 : Nat) : Int)), (0, v1), (0, v2), (0, v3), (0, v4), (0, v5), (0, v6), (9, 0)] [] μ
noncomputable def f_Army_nearTo_59 (z : zZ) (d : Nat) (o0 : Nat) (v1 : Int) (v2 : Int) (v3 : Int) (v4 : Int) (v5 : Int) (v6 : Int) (μ : Mu) : mR := g_Army_nearTo_59 (fun pc ls st μ => mE z d q_Army_nearTo pc ls st μ) o0 v1 v2 v3 v4 v5 v6 μ
def g_Army_nearTo_60 (E : Nat → List zv → List zv → Mu → mR) (o0 : Nat) (v1 : Int) (v2 : Int) (v3 : Int) (v4 : Int) (v5 : Int) (v6 : Int) (v100 : Int) (μ : Mu) : mR := E 60 [(2, ((o0 : Nat) : Int)), (0, v1), (0, v2), (0, v3), (0, v4), (0, v5), (0, v6), (9, 0)] [(0, v100)] μ
noncomputable def f_Army_nearTo_60 (z : zZ) (d : Nat) (o0 : Nat) (v1 : Int) (v2 : Int) (v3 : Int) (v4 : Int) (v5 : Int) (v6 : Int) (v100 : Int) (μ : Mu) : mR := g_Army_nearTo_60 (fun pc ls st μ => mE z d q_Army_nearTo pc ls st μ) o0 v1 v2 v3 v4 v5 v6 v100 μ
def g_Army_nearTo_88 (E : Nat → List zv → List zv → Mu → mR) (o0 : Nat) (v1 : Int) (v2 : Int) (v3 : Int) (v4 : Int) (v5 : Int) (μ : Mu) : mR := E 88 [(2, ((o0 : Nat) : Int)), (0, v1), (0, v2), (0, v3), (0, v4), (0, v5), (9, 0), (9, 0)] [] μ
noncomputable def f_Army_nearTo_88 (z : zZ) (d : Nat) (o0 : Nat) (v1 : Int) (v2 : Int) (v3 : Int) (v4 : Int) (v5 : Int) (μ : Mu) : mR := g_Army_nearTo_88 (fun pc ls st μ => mE z d q_Army_nearTo pc ls st μ) o0 v1 v2 v3 v4 v5 μ
theorem k_Army_nearTo : zprK q_Army_nearTo.2.2.2 = true ∧ zinc q_Army_nearTo.2.2.2 = true := by decide +kernel
set_option maxRecDepth 100000 in
theorem c_Army_nearTo (z : zZ) (d : Nat) (o0 : Nat) (v1 : Int) (v2 : Int) (v3 : Int) (μ : Mu) (ho0 : o0 = 4 ∨ o0 = 13) : mC z (d + 1) 135 [(2, ((o0 : Nat) : Int)), (0, v1), (0, v2), (0, v3)] μ = f_Army_nearTo_6 z d o0 v1 v2 v3 0 0 μ := by
  rw [mC_succ q_Army_nearTo rfl rfl rfl]
  rw [mE_bk (M := q_Army_nearTo) k_Army_nearTo.1 k_Army_nearTo.2 [6, 59, 60, 88] 400]
  have key : ∀ (C : Nat → List zv → Mu → mR) (E : Nat → List zv → List zv → Mu → mR), mbk C E q_Army_nearTo.1 q_Army_nearTo.2.1 z q_Army_nearTo.2.2.2 [6, 59, 60, 88] 400 (zfind q_Army_nearTo.2.2.2 0) (zentry q_Army_nearTo.2.2.1 [(2, ((o0 : Nat) : Int)), (0, v1), (0, v2), (0, v3)]) [] μ = g_Army_nearTo_6 E o0 v1 v2 v3 0 0 μ := by
    intro C E
    rcases ho0 with rfl | rfl <;> (rfl)
  exact key _ _
set_option maxRecDepth 100000 in
theorem e_Army_nearTo_6 (z : zZ) (d : Nat) (o0 : Nat) (v1 : Int) (v2 : Int) (v3 : Int) (v4 : Int) (v5 : Int) (μ : Mu) (ho0 : o0 = 4 ∨ o0 = 13) : f_Army_nearTo_6 z d o0 v1 v2 v3 v4 v5 μ = bif decide (μ o0 6 ≤ v5) then (some (v4, μ)) else (gI v1 12 (gI v5 12 ((mC z d 136 [(0, μ (o0 + 4) v1.toNat), (0, μ (o0 + 4) v5.toNat)] μ).bind fun q1 => (gI v1 12 ((mC z d 68 [(0, q1.2 (o0 + 4) v1.toNat)] q1.2).bind fun q2 => (gI v5 12 ((mC z d 68 [(0, q2.2 (o0 + 4) v5.toNat)] q2.2).bind fun q3 => (bif !decide (q2.1 = q3.1) then (f_Army_nearTo_59 z d o0 v1 v2 v3 v4 v5 q1.1 q3.2) else (f_Army_nearTo_60 z d o0 v1 v2 v3 v4 v5 q1.1 1 q3.2))))))))) := by
  show mE z d q_Army_nearTo 6 [(2, ((o0 : Nat) : Int)), (0, v1), (0, v2), (0, v3), (0, v4), (0, v5), (9, 0), (9, 0)] [] μ = _
  rw [mE_bk (M := q_Army_nearTo) k_Army_nearTo.1 k_Army_nearTo.2 [6, 59, 60, 88] 400]
  have key : ∀ (C : Nat → List zv → Mu → mR) (E : Nat → List zv → List zv → Mu → mR), mbk C E q_Army_nearTo.1 q_Army_nearTo.2.1 z q_Army_nearTo.2.2.2 [6, 59, 60, 88] 400 (zfind q_Army_nearTo.2.2.2 6) [(2, ((o0 : Nat) : Int)), (0, v1), (0, v2), (0, v3), (0, v4), (0, v5), (9, 0), (9, 0)] [] μ = bif decide (μ o0 6 ≤ v5) then (some (v4, μ)) else (gI v1 12 (gI v5 12 ((C 136 [(0, μ (o0 + 4) v1.toNat), (0, μ (o0 + 4) v5.toNat)] μ).bind fun q1 => (gI v1 12 ((C 68 [(0, q1.2 (o0 + 4) v1.toNat)] q1.2).bind fun q2 => (gI v5 12 ((C 68 [(0, q2.2 (o0 + 4) v5.toNat)] q2.2).bind fun q3 => (bif !decide (q2.1 = q3.1) then (g_Army_nearTo_59 E o0 v1 v2 v3 v4 v5 q1.1 q3.2) else (g_Army_nearTo_60 E o0 v1 v2 v3 v4 v5 q1.1 1 q3.2))))))))) := by
    intro C E
    rcases ho0 with rfl | rfl <;> (rfl)
  exact key _ _
set_option maxRecDepth 100000 in
theorem e_Army_nearTo_59 (z : zZ) (d : Nat) (o0 : Nat) (v1 : Int) (v2 : Int) (v3 : Int) (v4 : Int) (v5 : Int) (v6 : Int) (μ : Mu) (ho0 : o0 = 4 ∨ o0 = 13) : f_Army_nearTo_59 z d o0 v1 v2 v3 v4 v5 v6 μ = f_Army_nearTo_60 z d o0 v1 v2 v3 v4 v5 v6 0 μ := by
  show mE z d q_Army_nearTo 59 [(2, ((o0 : Nat) : Int)), (0, v1), (0, v2), (0, v3), (0, v4), (0, v5), (0, v6), (9, 0)] [] μ = _
  rw [mE_bk (M := q_Army_nearTo) k_Army_nearTo.1 k_Army_nearTo.2 [6, 59, 60, 88] 400]
  have key : ∀ (C : Nat → List zv → Mu → mR) (E : Nat → List zv → List zv → Mu → mR), mbk C E q_Army_nearTo.1 q_Army_nearTo.2.1 z q_Army_nearTo.2.2.2 [6, 59, 60, 88] 400 (zfind q_Army_nearTo.2.2.2 59) [(2, ((o0 : Nat) : Int)), (0, v1), (0, v2), (0, v3), (0, v4), (0, v5), (0, v6), (9, 0)] [] μ = g_Army_nearTo_60 E o0 v1 v2 v3 v4 v5 v6 0 μ := by
    intro C E
    rcases ho0 with rfl | rfl <;> (rfl)
  exact key _ _
set_option maxRecDepth 100000 in
theorem e_Army_nearTo_60 (z : zZ) (d : Nat) (o0 : Nat) (v1 : Int) (v2 : Int) (v3 : Int) (v4 : Int) (v5 : Int) (v6 : Int) (v100 : Int) (μ : Mu) (ho0 : o0 = 4 ∨ o0 = 13) : f_Army_nearTo_60 z d o0 v1 v2 v3 v4 v5 v6 v100 μ = bif decide (v100 = 0) then (f_Army_nearTo_88 z d o0 v1 v2 v3 v4 v5 μ) else (bif decide (v6 < v2) then (f_Army_nearTo_88 z d o0 v1 v2 v3 v4 v5 μ) else (bif decide (v3 < v6) then (f_Army_nearTo_88 z d o0 v1 v2 v3 v4 v5 μ) else (f_Army_nearTo_88 z d o0 v1 v2 v3 (z_or v4 (z_shl 1 v5)) v5 μ))) := by
  show mE z d q_Army_nearTo 60 [(2, ((o0 : Nat) : Int)), (0, v1), (0, v2), (0, v3), (0, v4), (0, v5), (0, v6), (9, 0)] [(0, v100)] μ = _
  rw [mE_bk (M := q_Army_nearTo) k_Army_nearTo.1 k_Army_nearTo.2 [6, 59, 60, 88] 400]
  have key : ∀ (C : Nat → List zv → Mu → mR) (E : Nat → List zv → List zv → Mu → mR), mbk C E q_Army_nearTo.1 q_Army_nearTo.2.1 z q_Army_nearTo.2.2.2 [6, 59, 60, 88] 400 (zfind q_Army_nearTo.2.2.2 60) [(2, ((o0 : Nat) : Int)), (0, v1), (0, v2), (0, v3), (0, v4), (0, v5), (0, v6), (9, 0)] [(0, v100)] μ = bif decide (v100 = 0) then (g_Army_nearTo_88 E o0 v1 v2 v3 v4 v5 μ) else (bif decide (v6 < v2) then (g_Army_nearTo_88 E o0 v1 v2 v3 v4 v5 μ) else (bif decide (v3 < v6) then (g_Army_nearTo_88 E o0 v1 v2 v3 v4 v5 μ) else (g_Army_nearTo_88 E o0 v1 v2 v3 (z_or v4 (z_shl 1 v5)) v5 μ))) := by
    intro C E
    rcases ho0 with rfl | rfl <;> (rfl)
  exact key _ _
set_option maxRecDepth 100000 in
theorem e_Army_nearTo_88 (z : zZ) (d : Nat) (o0 : Nat) (v1 : Int) (v2 : Int) (v3 : Int) (v4 : Int) (v5 : Int) (μ : Mu) (ho0 : o0 = 4 ∨ o0 = 13) : f_Army_nearTo_88 z d o0 v1 v2 v3 v4 v5 μ = f_Army_nearTo_6 z d o0 v1 v2 v3 v4 (zw (v5 + 1)) μ := by
  show mE z d q_Army_nearTo 88 [(2, ((o0 : Nat) : Int)), (0, v1), (0, v2), (0, v3), (0, v4), (0, v5), (9, 0), (9, 0)] [] μ = _
  rw [mE_bk (M := q_Army_nearTo) k_Army_nearTo.1 k_Army_nearTo.2 [6, 59, 60, 88] 400]
  have key : ∀ (C : Nat → List zv → Mu → mR) (E : Nat → List zv → List zv → Mu → mR), mbk C E q_Army_nearTo.1 q_Army_nearTo.2.1 z q_Army_nearTo.2.2.2 [6, 59, 60, 88] 400 (zfind q_Army_nearTo.2.2.2 88) [(2, ((o0 : Nat) : Int)), (0, v1), (0, v2), (0, v3), (0, v4), (0, v5), (9, 0), (9, 0)] [] μ = g_Army_nearTo_6 E o0 v1 v2 v3 v4 (zw (v5 + 1)) μ := by
    intro C E
    rcases ho0 with rfl | rfl <;> (rfl)
  exact key _ _
def g_Wrd_unlike_4 (E : Nat → List zv → List zv → Mu → mR) (v0 : Int) (v1 : Int) (v2 : Int) (v3 : Int) (μ : Mu) : mR := E 4 [(0, v0), (0, v1), (0, v2), (0, v3)] [] μ
noncomputable def f_Wrd_unlike_4 (z : zZ) (d : Nat) (v0 : Int) (v1 : Int) (v2 : Int) (v3 : Int) (μ : Mu) : mR := g_Wrd_unlike_4 (fun pc ls st μ => mE z d q_Wrd_unlike pc ls st μ) v0 v1 v2 v3 μ
def g_Wrd_unlike_26 (E : Nat → List zv → List zv → Mu → mR) (v0 : Int) (v1 : Int) (v2 : Int) (v3 : Int) (μ : Mu) : mR := E 26 [(0, v0), (0, v1), (0, v2), (0, v3)] [] μ
noncomputable def f_Wrd_unlike_26 (z : zZ) (d : Nat) (v0 : Int) (v1 : Int) (v2 : Int) (v3 : Int) (μ : Mu) : mR := g_Wrd_unlike_26 (fun pc ls st μ => mE z d q_Wrd_unlike pc ls st μ) v0 v1 v2 v3 μ
theorem k_Wrd_unlike : zprK q_Wrd_unlike.2.2.2 = true ∧ zinc q_Wrd_unlike.2.2.2 = true := by decide +kernel
set_option maxRecDepth 100000 in
theorem c_Wrd_unlike (z : zZ) (d : Nat) (v0 : Int) (v1 : Int) (μ : Mu) : mC z (d + 1) 136 [(0, v0), (0, v1)] μ = f_Wrd_unlike_4 z d v0 v1 0 0 μ := by
  rw [mC_succ q_Wrd_unlike rfl rfl rfl]
  rw [mE_bk (M := q_Wrd_unlike) k_Wrd_unlike.1 k_Wrd_unlike.2 [4, 26] 400]
  have key : ∀ (C : Nat → List zv → Mu → mR) (E : Nat → List zv → List zv → Mu → mR), mbk C E q_Wrd_unlike.1 q_Wrd_unlike.2.1 z q_Wrd_unlike.2.2.2 [4, 26] 400 (zfind q_Wrd_unlike.2.2.2 0) (zentry q_Wrd_unlike.2.2.1 [(0, v0), (0, v1)]) [] μ = g_Wrd_unlike_4 E v0 v1 0 0 μ := by
    intro C E
    rfl
  exact key _ _
set_option maxRecDepth 100000 in
theorem e_Wrd_unlike_4 (z : zZ) (d : Nat) (v0 : Int) (v1 : Int) (v2 : Int) (v3 : Int) (μ : Mu) : f_Wrd_unlike_4 z d v0 v1 v2 v3 μ = bif decide (8 ≤ v3) then (some (v2, μ)) else ((mC z d 41 [(0, v0), (0, v3)] μ).bind fun q1 => ((mC z d 41 [(0, v1), (0, v3)] q1.2).bind fun q2 => (bif decide (q1.1 = q2.1) then (f_Wrd_unlike_26 z d v0 v1 v2 v3 q2.2) else (f_Wrd_unlike_26 z d v0 v1 (zw (v2 + 1)) v3 q2.2)))) := by
  show mE z d q_Wrd_unlike 4 [(0, v0), (0, v1), (0, v2), (0, v3)] [] μ = _
  rw [mE_bk (M := q_Wrd_unlike) k_Wrd_unlike.1 k_Wrd_unlike.2 [4, 26] 400]
  have key : ∀ (C : Nat → List zv → Mu → mR) (E : Nat → List zv → List zv → Mu → mR), mbk C E q_Wrd_unlike.1 q_Wrd_unlike.2.1 z q_Wrd_unlike.2.2.2 [4, 26] 400 (zfind q_Wrd_unlike.2.2.2 4) [(0, v0), (0, v1), (0, v2), (0, v3)] [] μ = bif decide (8 ≤ v3) then (some (v2, μ)) else ((C 41 [(0, v0), (0, v3)] μ).bind fun q1 => ((C 41 [(0, v1), (0, v3)] q1.2).bind fun q2 => (bif decide (q1.1 = q2.1) then (g_Wrd_unlike_26 E v0 v1 v2 v3 q2.2) else (g_Wrd_unlike_26 E v0 v1 (zw (v2 + 1)) v3 q2.2)))) := by
    intro C E
    rfl
  exact key _ _
set_option maxRecDepth 100000 in
theorem e_Wrd_unlike_26 (z : zZ) (d : Nat) (v0 : Int) (v1 : Int) (v2 : Int) (v3 : Int) (μ : Mu) : f_Wrd_unlike_26 z d v0 v1 v2 v3 μ = f_Wrd_unlike_4 z d v0 v1 v2 (zw (v3 + 1)) μ := by
  show mE z d q_Wrd_unlike 26 [(0, v0), (0, v1), (0, v2), (0, v3)] [] μ = _
  rw [mE_bk (M := q_Wrd_unlike) k_Wrd_unlike.1 k_Wrd_unlike.2 [4, 26] 400]
  have key : ∀ (C : Nat → List zv → Mu → mR) (E : Nat → List zv → List zv → Mu → mR), mbk C E q_Wrd_unlike.1 q_Wrd_unlike.2.1 z q_Wrd_unlike.2.2.2 [4, 26] 400 (zfind q_Wrd_unlike.2.2.2 26) [(0, v0), (0, v1), (0, v2), (0, v3)] [] μ = g_Wrd_unlike_4 E v0 v1 v2 (zw (v3 + 1)) μ := by
    intro C E
    rfl
  exact key _ _
theorem k_W_fight : zprK q_W_fight.2.2.2 = true ∧ zinc q_W_fight.2.2.2 = true := by decide +kernel
set_option maxRecDepth 100000 in
theorem c_W_fight (z : zZ) (d : Nat) (v1 : Int) (μ : Mu) : mC z (d + 1) 137 [(2, 0), (0, v1)] μ = (mC z d 25 [(2, 1), (0, v1), (0, 3), (0, 17)] μ).bind fun q1 => (bif !decide (q1.1 = 0) then ((mC z d 19 [(2, 1), (0, v1)] q1.2).bind fun q2 => ((mC z d 138 [(2, 58), (2, 1)] q2.2).bind fun q3 => (some (q3.1, q3.2)))) else (some ((-1), q1.2))) := by
  rw [mC_succ q_W_fight rfl rfl rfl]
  rw [mE_bk (M := q_W_fight) k_W_fight.1 k_W_fight.2 [] 400]
  have key : ∀ (C : Nat → List zv → Mu → mR) (E : Nat → List zv → List zv → Mu → mR), mbk C E q_W_fight.1 q_W_fight.2.1 z q_W_fight.2.2.2 [] 400 (zfind q_W_fight.2.2.2 0) (zentry q_W_fight.2.2.1 [(2, 0), (0, v1)]) [] μ = (C 25 [(2, 1), (0, v1), (0, 3), (0, 17)] μ).bind fun q1 => (bif !decide (q1.1 = 0) then ((C 19 [(2, 1), (0, v1)] q1.2).bind fun q2 => ((C 138 [(2, 58), (2, 1)] q2.2).bind fun q3 => (some (q3.1, q3.2)))) else (some ((-1), q1.2))) := by
    intro C E
    rfl
  exact key _ _
def g_Fig_take_28 (E : Nat → List zv → List zv → Mu → mR) (v2 : Int) (μ : Mu) : mR := E 28 [(2, 58), (2, 1), (0, v2), (9, 0), (9, 0), (9, 0), (9, 0)] [] μ
noncomputable def f_Fig_take_28 (z : zZ) (d : Nat) (v2 : Int) (μ : Mu) : mR := g_Fig_take_28 (fun pc ls st μ => mE z d q_Fig_take pc ls st μ) v2 μ
def g_Fig_take_29 (E : Nat → List zv → List zv → Mu → mR) (v2 : Int) (v100 : Int) (μ : Mu) : mR := E 29 [(2, 58), (2, 1), (0, v2), (9, 0), (9, 0), (9, 0), (9, 0)] [(0, v100)] μ
noncomputable def f_Fig_take_29 (z : zZ) (d : Nat) (v2 : Int) (v100 : Int) (μ : Mu) : mR := g_Fig_take_29 (fun pc ls st μ => mE z d q_Fig_take pc ls st μ) v2 v100 μ
def g_Fig_take_53 (E : Nat → List zv → List zv → Mu → mR) (v2 : Int) (v3 : Int) (μ : Mu) : mR := E 53 [(2, 58), (2, 1), (0, v2), (0, v3), (9, 0), (9, 0), (9, 0)] [] μ
noncomputable def f_Fig_take_53 (z : zZ) (d : Nat) (v2 : Int) (v3 : Int) (μ : Mu) : mR := g_Fig_take_53 (fun pc ls st μ => mE z d q_Fig_take pc ls st μ) v2 v3 μ
def g_Fig_take_68 (E : Nat → List zv → List zv → Mu → mR) (v2 : Int) (v3 : Int) (v4 : Int) (μ : Mu) : mR := E 68 [(2, 58), (9, 0), (0, v2), (0, v3), (0, v4), (9, 0), (9, 0)] [] μ
noncomputable def f_Fig_take_68 (z : zZ) (d : Nat) (v2 : Int) (v3 : Int) (v4 : Int) (μ : Mu) : mR := g_Fig_take_68 (fun pc ls st μ => mE z d q_Fig_take pc ls st μ) v2 v3 v4 μ
def g_Fig_take_96 (E : Nat → List zv → List zv → Mu → mR) (v2 : Int) (v3 : Int) (v4 : Int) (μ : Mu) : mR := E 96 [(2, 58), (9, 0), (0, v2), (0, v3), (0, v4), (9, 0), (9, 0)] [] μ
noncomputable def f_Fig_take_96 (z : zZ) (d : Nat) (v2 : Int) (v3 : Int) (v4 : Int) (μ : Mu) : mR := g_Fig_take_96 (fun pc ls st μ => mE z d q_Fig_take pc ls st μ) v2 v3 v4 μ
def g_Fig_take_128 (E : Nat → List zv → List zv → Mu → mR) (μ : Mu) : mR := E 128 [(9, 0), (9, 0), (9, 0), (9, 0), (9, 0), (9, 0), (9, 0)] [] μ
noncomputable def f_Fig_take_128 (z : zZ) (d : Nat) (μ : Mu) : mR := g_Fig_take_128 (fun pc ls st μ => mE z d q_Fig_take pc ls st μ) μ
def g_Fig_take_145 (E : Nat → List zv → List zv → Mu → mR) (v5 : Int) (v6 : Int) (μ : Mu) : mR := E 145 [(2, 58), (9, 0), (9, 0), (9, 0), (9, 0), (0, v5), (0, v6)] [] μ
noncomputable def f_Fig_take_145 (z : zZ) (d : Nat) (v5 : Int) (v6 : Int) (μ : Mu) : mR := g_Fig_take_145 (fun pc ls st μ => mE z d q_Fig_take pc ls st μ) v5 v6 μ
theorem k_Fig_take : zprK q_Fig_take.2.2.2 = true ∧ zinc q_Fig_take.2.2.2 = true := by decide +kernel
set_option maxRecDepth 100000 in
theorem c_Fig_take (z : zZ) (d : Nat) (μ : Mu) : mC z (d + 1) 138 [(2, 58), (2, 1)] μ = (mC z d 29 [(2, 1)] μ).bind fun q1 => (bif !decide (q1.2 1 4 = 0) then (f_Fig_take_28 z d q1.1 q1.2) else ((mC z d 43 [(2, 1), (0, 62)] q1.2).bind fun q2 => (bif decide (q2.1 = 0) then (f_Fig_take_28 z d q1.1 q2.2) else ((mC z d 29 [(2, 1)] q2.2).bind fun q3 => (f_Fig_take_29 z d q1.1 q3.1 q3.2))))) := by
  rw [mC_succ q_Fig_take rfl rfl rfl]
  rw [mE_bk (M := q_Fig_take) k_Fig_take.1 k_Fig_take.2 [28, 29, 53, 68, 96, 128, 145] 400]
  have key : ∀ (C : Nat → List zv → Mu → mR) (E : Nat → List zv → List zv → Mu → mR), mbk C E q_Fig_take.1 q_Fig_take.2.1 z q_Fig_take.2.2.2 [28, 29, 53, 68, 96, 128, 145] 400 (zfind q_Fig_take.2.2.2 0) (zentry q_Fig_take.2.2.1 [(2, 58), (2, 1)]) [] μ = (C 29 [(2, 1)] μ).bind fun q1 => (bif !decide (q1.2 1 4 = 0) then (g_Fig_take_28 E q1.1 q1.2) else ((C 43 [(2, 1), (0, 62)] q1.2).bind fun q2 => (bif decide (q2.1 = 0) then (g_Fig_take_28 E q1.1 q2.2) else ((C 29 [(2, 1)] q2.2).bind fun q3 => (g_Fig_take_29 E q1.1 q3.1 q3.2))))) := by
    intro C E
    rfl
  exact key _ _
set_option maxRecDepth 100000 in
theorem e_Fig_take_28 (z : zZ) (d : Nat) (v2 : Int) (μ : Mu) : f_Fig_take_28 z d v2 μ = f_Fig_take_29 z d v2 0 μ := by
  show mE z d q_Fig_take 28 [(2, 58), (2, 1), (0, v2), (9, 0), (9, 0), (9, 0), (9, 0)] [] μ = _
  rw [mE_bk (M := q_Fig_take) k_Fig_take.1 k_Fig_take.2 [28, 29, 53, 68, 96, 128, 145] 400]
  have key : ∀ (C : Nat → List zv → Mu → mR) (E : Nat → List zv → List zv → Mu → mR), mbk C E q_Fig_take.1 q_Fig_take.2.1 z q_Fig_take.2.2.2 [28, 29, 53, 68, 96, 128, 145] 400 (zfind q_Fig_take.2.2.2 28) [(2, 58), (2, 1), (0, v2), (9, 0), (9, 0), (9, 0), (9, 0)] [] μ = g_Fig_take_29 E v2 0 μ := by
    intro C E
    rfl
  exact key _ _
set_option maxRecDepth 100000 in
theorem e_Fig_take_29 (z : zZ) (d : Nat) (v2 : Int) (v100 : Int) (μ : Mu) : f_Fig_take_29 z d v2 v100 μ = bif !decide (μ 1 4 = 0) then (f_Fig_take_53 z d v2 v100 μ) else ((mC z d 33 [(2, 1)] μ).bind fun q1 => (bif !decide (q1.1 = 0) then (f_Fig_take_53 z d v2 v100 q1.2) else ((mC z d 28 [(2, 1), (0, 1), (0, q1.2 1 2)] q1.2).bind fun q2 => (f_Fig_take_53 z d v2 v100 q2.2)))) := by
  show mE z d q_Fig_take 29 [(2, 58), (2, 1), (0, v2), (9, 0), (9, 0), (9, 0), (9, 0)] [(0, v100)] μ = _
  rw [mE_bk (M := q_Fig_take) k_Fig_take.1 k_Fig_take.2 [28, 29, 53, 68, 96, 128, 145] 400]
  have key : ∀ (C : Nat → List zv → Mu → mR) (E : Nat → List zv → List zv → Mu → mR), mbk C E q_Fig_take.1 q_Fig_take.2.1 z q_Fig_take.2.2.2 [28, 29, 53, 68, 96, 128, 145] 400 (zfind q_Fig_take.2.2.2 29) [(2, 58), (2, 1), (0, v2), (9, 0), (9, 0), (9, 0), (9, 0)] [(0, v100)] μ = bif !decide (μ 1 4 = 0) then (g_Fig_take_53 E v2 v100 μ) else ((C 33 [(2, 1)] μ).bind fun q1 => (bif !decide (q1.1 = 0) then (g_Fig_take_53 E v2 v100 q1.2) else ((C 28 [(2, 1), (0, 1), (0, q1.2 1 2)] q1.2).bind fun q2 => (g_Fig_take_53 E v2 v100 q2.2)))) := by
    intro C E
    rfl
  exact key _ _
set_option maxRecDepth 100000 in
theorem e_Fig_take_53 (z : zZ) (d : Nat) (v2 : Int) (v3 : Int) (μ : Mu) : f_Fig_take_53 z d v2 v3 μ = bif decide (μ 1 4 = 0) then (f_Fig_take_68 z d v2 v3 0 μ) else (some (μ 1 4, μ)) := by
  show mE z d q_Fig_take 53 [(2, 58), (2, 1), (0, v2), (0, v3), (9, 0), (9, 0), (9, 0)] [] μ = _
  rw [mE_bk (M := q_Fig_take) k_Fig_take.1 k_Fig_take.2 [28, 29, 53, 68, 96, 128, 145] 400]
  have key : ∀ (C : Nat → List zv → Mu → mR) (E : Nat → List zv → List zv → Mu → mR), mbk C E q_Fig_take.1 q_Fig_take.2.1 z q_Fig_take.2.2.2 [28, 29, 53, 68, 96, 128, 145] 400 (zfind q_Fig_take.2.2.2 53) [(2, 58), (2, 1), (0, v2), (0, v3), (9, 0), (9, 0), (9, 0)] [] μ = bif decide (μ 1 4 = 0) then (g_Fig_take_68 E v2 v3 0 μ) else (some (μ 1 4, μ)) := by
    intro C E
    rfl
  exact key _ _
set_option maxRecDepth 100000 in
theorem e_Fig_take_68 (z : zZ) (d : Nat) (v2 : Int) (v3 : Int) (v4 : Int) (μ : Mu) : f_Fig_take_68 z d v2 v3 v4 μ = bif decide (8 ≤ v4) then (f_Fig_take_96 z d v2 v3 v4 μ) else ((mC z d 41 [(0, v2), (0, v4)] μ).bind fun q1 => ((mC z d 41 [(0, v3), (0, v4)] q1.2).bind fun q2 => (bif !decide (q1.1 = q2.1) then (f_Fig_take_96 z d v2 v3 v4 q2.2) else (f_Fig_take_68 z d v2 v3 (zw (v4 + 1)) q2.2)))) := by
  show mE z d q_Fig_take 68 [(2, 58), (9, 0), (0, v2), (0, v3), (0, v4), (9, 0), (9, 0)] [] μ = _
  rw [mE_bk (M := q_Fig_take) k_Fig_take.1 k_Fig_take.2 [28, 29, 53, 68, 96, 128, 145] 400]
  have key : ∀ (C : Nat → List zv → Mu → mR) (E : Nat → List zv → List zv → Mu → mR), mbk C E q_Fig_take.1 q_Fig_take.2.1 z q_Fig_take.2.2.2 [28, 29, 53, 68, 96, 128, 145] 400 (zfind q_Fig_take.2.2.2 68) [(2, 58), (9, 0), (0, v2), (0, v3), (0, v4), (9, 0), (9, 0)] [] μ = bif decide (8 ≤ v4) then (g_Fig_take_96 E v2 v3 v4 μ) else ((C 41 [(0, v2), (0, v4)] μ).bind fun q1 => ((C 41 [(0, v3), (0, v4)] q1.2).bind fun q2 => (bif !decide (q1.1 = q2.1) then (g_Fig_take_96 E v2 v3 v4 q2.2) else (g_Fig_take_68 E v2 v3 (zw (v4 + 1)) q2.2)))) := by
    intro C E
    rfl
  exact key _ _
set_option maxRecDepth 100000 in
theorem e_Fig_take_96 (z : zZ) (d : Nat) (v2 : Int) (v3 : Int) (v4 : Int) (μ : Mu) : f_Fig_take_96 z d v2 v3 v4 μ = (mC z d 41 [(0, v2), (0, v4)] μ).bind fun q1 => ((mC z d 41 [(0, v3), (0, v4)] q1.2).bind fun q2 => ((mC z d 13 [(0, q1.1)] q2.2).bind fun q3 => (bif decide (q3.1 = 0) then (f_Fig_take_128 z d q3.2) else ((mC z d 13 [(0, q2.1)] q3.2).bind fun q4 => (bif !decide (q4.1 = 0) then (bif decide (q4.2 58 0 < 24) then (f_Fig_take_145 z d q1.1 q2.1 q4.2) else (some ((-4000), q4.2))) else (f_Fig_take_128 z d q4.2)))))) := by
  show mE z d q_Fig_take 96 [(2, 58), (9, 0), (0, v2), (0, v3), (0, v4), (9, 0), (9, 0)] [] μ = _
  rw [mE_bk (M := q_Fig_take) k_Fig_take.1 k_Fig_take.2 [28, 29, 53, 68, 96, 128, 145] 400]
  have key : ∀ (C : Nat → List zv → Mu → mR) (E : Nat → List zv → List zv → Mu → mR), mbk C E q_Fig_take.1 q_Fig_take.2.1 z q_Fig_take.2.2.2 [28, 29, 53, 68, 96, 128, 145] 400 (zfind q_Fig_take.2.2.2 96) [(2, 58), (9, 0), (0, v2), (0, v3), (0, v4), (9, 0), (9, 0)] [] μ = (C 41 [(0, v2), (0, v4)] μ).bind fun q1 => ((C 41 [(0, v3), (0, v4)] q1.2).bind fun q2 => ((C 13 [(0, q1.1)] q2.2).bind fun q3 => (bif decide (q3.1 = 0) then (g_Fig_take_128 E q3.2) else ((C 13 [(0, q2.1)] q3.2).bind fun q4 => (bif !decide (q4.1 = 0) then (bif decide (q4.2 58 0 < 24) then (g_Fig_take_145 E q1.1 q2.1 q4.2) else (some ((-4000), q4.2))) else (g_Fig_take_128 E q4.2)))))) := by
    intro C E
    rfl
  exact key _ _
set_option maxRecDepth 100000 in
theorem e_Fig_take_128 (z : zZ) (d : Nat) (μ : Mu) : f_Fig_take_128 z d μ = some ((-5000), μ) := by
  show mE z d q_Fig_take 128 [(9, 0), (9, 0), (9, 0), (9, 0), (9, 0), (9, 0), (9, 0)] [] μ = _
  rw [mE_bk (M := q_Fig_take) k_Fig_take.1 k_Fig_take.2 [28, 29, 53, 68, 96, 128, 145] 400]
  have key : ∀ (C : Nat → List zv → Mu → mR) (E : Nat → List zv → List zv → Mu → mR), mbk C E q_Fig_take.1 q_Fig_take.2.1 z q_Fig_take.2.2.2 [28, 29, 53, 68, 96, 128, 145] 400 (zfind q_Fig_take.2.2.2 128) [(9, 0), (9, 0), (9, 0), (9, 0), (9, 0), (9, 0), (9, 0)] [] μ = some ((-5000), μ) := by
    intro C E
    rfl
  exact key _ _
set_option maxRecDepth 100000 in
theorem e_Fig_take_145 (z : zZ) (d : Nat) (v5 : Int) (v6 : Int) (μ : Mu) : f_Fig_take_145 z d v5 v6 μ = gI (μ 58 0) 24 ((mC z d 139 [(2, 58)] (zup (zup μ 59 ((μ 58 0).toNat) (zw ((zw (v5 * 12)) + v6))) 58 0 (zw ((μ 58 0) + 1)))).bind fun q1 => (some (q1.2 58 0, q1.2))) := by
  show mE z d q_Fig_take 145 [(2, 58), (9, 0), (9, 0), (9, 0), (9, 0), (0, v5), (0, v6)] [] μ = _
  rw [mE_bk (M := q_Fig_take) k_Fig_take.1 k_Fig_take.2 [28, 29, 53, 68, 96, 128, 145] 400]
  have key : ∀ (C : Nat → List zv → Mu → mR) (E : Nat → List zv → List zv → Mu → mR), mbk C E q_Fig_take.1 q_Fig_take.2.1 z q_Fig_take.2.2.2 [28, 29, 53, 68, 96, 128, 145] 400 (zfind q_Fig_take.2.2.2 145) [(2, 58), (9, 0), (9, 0), (9, 0), (9, 0), (0, v5), (0, v6)] [] μ = gI (μ 58 0) 24 ((C 139 [(2, 58)] (zup (zup μ 59 ((μ 58 0).toNat) (zw ((zw (v5 * 12)) + v6))) 58 0 (zw ((μ 58 0) + 1)))).bind fun q1 => (some (q1.2 58 0, q1.2))) := by
    intro C E
    rfl
  exact key _ _
theorem k_Fig_change : zprK q_Fig_change.2.2.2 = true ∧ zinc q_Fig_change.2.2.2 = true := by decide +kernel
set_option maxRecDepth 100000 in
theorem c_Fig_change (z : zZ) (d : Nat) (μ : Mu) : mC z (d + 1) 139 [(2, 58)] μ = some (0, zup (zup μ 58 8 0) 58 9 0) := by
  rw [mC_succ q_Fig_change rfl rfl rfl]
  rw [mE_bk (M := q_Fig_change) k_Fig_change.1 k_Fig_change.2 [] 400]
  have key : ∀ (C : Nat → List zv → Mu → mR) (E : Nat → List zv → List zv → Mu → mR), mbk C E q_Fig_change.1 q_Fig_change.2.1 z q_Fig_change.2.2.2 [] 400 (zfind q_Fig_change.2.2.2 0) (zentry q_Fig_change.2.2.1 [(2, 58)]) [] μ = some (0, zup (zup μ 58 8 0) 58 9 0) := by
    intro C E
    rfl
  exact key _ _
def g_W_learnt_51 (E : Nat → List zv → List zv → Mu → mR) (v100 : Int) (μ : Mu) : mR := E 51 [(9, 0), (9, 0)] [(1, v100)] μ
noncomputable def f_W_learnt_51 (z : zZ) (d : Nat) (v100 : Int) (μ : Mu) : mR := g_W_learnt_51 (fun pc ls st μ => mE z d q_W_learnt pc ls st μ) v100 μ
theorem k_W_learnt : zprK q_W_learnt.2.2.2 = true ∧ zinc q_W_learnt.2.2.2 = true := by decide +kernel
set_option maxRecDepth 100000 in
theorem c_W_learnt (z : zZ) (d : Nat) (v1 : Int) (μ : Mu) : mC z (d + 1) 140 [(2, 0), (0, v1)] μ = bif !decide (v1 = (-1)) then ((mC z d 13 [(0, v1)] μ).bind fun q1 => (bif !decide (q1.1 = 0) then ((mC z d 141 [(2, 58)] q1.2).bind fun q2 => (bif !decide (z_lcmp q2.1 0 = 0) then ((mC z d 144 [(2, 58), (0, v1)] q2.2).bind fun q3 => (f_W_learnt_51 z d q3.1 q3.2)) else (f_W_learnt_51 z d ((-2)) q2.2))) else (some ((-3), q1.2)))) else ((mC z d 141 [(2, 58)] μ).bind fun q4 => (some (q4.1, q4.2))) := by
  rw [mC_succ q_W_learnt rfl rfl rfl]
  rw [mE_bk (M := q_W_learnt) k_W_learnt.1 k_W_learnt.2 [51] 400]
  have key : ∀ (C : Nat → List zv → Mu → mR) (E : Nat → List zv → List zv → Mu → mR), mbk C E q_W_learnt.1 q_W_learnt.2.1 z q_W_learnt.2.2.2 [51] 400 (zfind q_W_learnt.2.2.2 0) (zentry q_W_learnt.2.2.1 [(2, 0), (0, v1)]) [] μ = bif !decide (v1 = (-1)) then ((C 13 [(0, v1)] μ).bind fun q1 => (bif !decide (q1.1 = 0) then ((C 141 [(2, 58)] q1.2).bind fun q2 => (bif !decide (z_lcmp q2.1 0 = 0) then ((C 144 [(2, 58), (0, v1)] q2.2).bind fun q3 => (g_W_learnt_51 E q3.1 q3.2)) else (g_W_learnt_51 E ((-2)) q2.2))) else (some ((-3), q1.2)))) else ((C 141 [(2, 58)] μ).bind fun q4 => (some (q4.1, q4.2))) := by
    intro C E
    rfl
  exact key _ _
set_option maxRecDepth 100000 in
theorem e_W_learnt_51 (z : zZ) (d : Nat) (v100 : Int) (μ : Mu) : f_W_learnt_51 z d v100 μ = some (v100, μ) := by
  show mE z d q_W_learnt 51 [(9, 0), (9, 0)] [(1, v100)] μ = _
  rw [mE_bk (M := q_W_learnt) k_W_learnt.1 k_W_learnt.2 [51] 400]
  have key : ∀ (C : Nat → List zv → Mu → mR) (E : Nat → List zv → List zv → Mu → mR), mbk C E q_W_learnt.1 q_W_learnt.2.1 z q_W_learnt.2.2.2 [51] 400 (zfind q_W_learnt.2.2.2 51) [(9, 0), (9, 0)] [(1, v100)] μ = some (v100, μ) := by
    intro C E
    rfl
  exact key _ _
def g_Fig_countRows_20 (E : Nat → List zv → List zv → Mu → mR) (μ : Mu) : mR := E 20 [(2, 58)] [] μ
noncomputable def f_Fig_countRows_20 (z : zZ) (d : Nat) (μ : Mu) : mR := g_Fig_countRows_20 (fun pc ls st μ => mE z d q_Fig_countRows pc ls st μ) μ
theorem k_Fig_countRows : zprK q_Fig_countRows.2.2.2 = true ∧ zinc q_Fig_countRows.2.2.2 = true := by decide +kernel
set_option maxRecDepth 100000 in
theorem c_Fig_countRows (z : zZ) (d : Nat) (μ : Mu) : mC z (d + 1) 141 [(2, 58)] μ = bif !decide (μ 58 8 = 0) then (f_Fig_countRows_20 z d μ) else ((mC z d 142 [(2, 58)] μ).bind fun q1 => ((mC z d 143 [(2, 58)] q1.2).bind fun q2 => (f_Fig_countRows_20 z d (zup q2.2 58 8 1)))) := by
  rw [mC_succ q_Fig_countRows rfl rfl rfl]
  rw [mE_bk (M := q_Fig_countRows) k_Fig_countRows.1 k_Fig_countRows.2 [20] 400]
  have key : ∀ (C : Nat → List zv → Mu → mR) (E : Nat → List zv → List zv → Mu → mR), mbk C E q_Fig_countRows.1 q_Fig_countRows.2.1 z q_Fig_countRows.2.2.2 [20] 400 (zfind q_Fig_countRows.2.2.2 0) (zentry q_Fig_countRows.2.2.1 [(2, 58)]) [] μ = bif !decide (μ 58 8 = 0) then (g_Fig_countRows_20 E μ) else ((C 142 [(2, 58)] μ).bind fun q1 => ((C 143 [(2, 58)] q1.2).bind fun q2 => (g_Fig_countRows_20 E (zup q2.2 58 8 1)))) := by
    intro C E
    rfl
  exact key _ _
set_option maxRecDepth 100000 in
theorem e_Fig_countRows_20 (z : zZ) (d : Nat) (μ : Mu) : f_Fig_countRows_20 z d μ = some (μ 62 4095, μ) := by
  show mE z d q_Fig_countRows 20 [(2, 58)] [] μ = _
  rw [mE_bk (M := q_Fig_countRows) k_Fig_countRows.1 k_Fig_countRows.2 [20] 400]
  have key : ∀ (C : Nat → List zv → Mu → mR) (E : Nat → List zv → List zv → Mu → mR), mbk C E q_Fig_countRows.1 q_Fig_countRows.2.1 z q_Fig_countRows.2.2.2 [20] 400 (zfind q_Fig_countRows.2.2.2 20) [(2, 58)] [] μ = some (μ 62 4095, μ) := by
    intro C E
    rfl
  exact key _ _
