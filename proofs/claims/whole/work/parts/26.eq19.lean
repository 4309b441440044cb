def g_W_lexicon_22 (E : Nat → List zv → List zv → Mu → mR) (μ : Mu) : mR := E 22 [(9, 0), (9, 0), (9, 0)] [] μ
noncomputable def f_W_lexicon_22 (z : zZ) (d : Nat) (μ : Mu) : mR := g_W_lexicon_22 (fun pc ls st μ => mE z d q_W_lexicon pc ls st μ) μ
def g_W_lexicon_24 (E : Nat → List zv → List zv → Mu → mR) (v1 : Int) (v2 : Int) (μ : Mu) : mR := E 24 [(2, 0), (0, v1), (0, v2)] [] μ
noncomputable def f_W_lexicon_24 (z : zZ) (d : Nat) (v1 : Int) (v2 : Int) (μ : Mu) : mR := g_W_lexicon_24 (fun pc ls st μ => mE z d q_W_lexicon pc ls st μ) v1 v2 μ
theorem k_W_lexicon : zprK q_W_lexicon.2.2.2 = true ∧ zinc q_W_lexicon.2.2.2 = true := by decide +kernel
set_option maxRecDepth 100000 in
theorem c_W_lexicon (z : zZ) (d : Nat) (v1 : Int) (v2 : Int) (μ : Mu) : mC z (d + 1) 24 [(2, 0), (0, v1), (0, v2)] μ = (mC z d 15 [(0, v1)] μ).bind fun q1 => (bif decide (q1.1 = 0) then (f_W_lexicon_22 z d q1.2) else ((mC z d 25 [(2, 1), (0, v2), (0, 1), (0, 160)] q1.2).bind fun q2 => (bif !decide (q2.1 = 0) then (f_W_lexicon_24 z d v1 v2 q2.2) else (f_W_lexicon_22 z d q2.2)))) := by
  rw [mC_succ q_W_lexicon rfl rfl rfl]
  rw [mE_bk (M := q_W_lexicon) k_W_lexicon.1 k_W_lexicon.2 [22, 24] 400]
  have key : ∀ (C : Nat → List zv → Mu → mR) (E : Nat → List zv → List zv → Mu → mR), mbk C E q_W_lexicon.1 q_W_lexicon.2.1 z q_W_lexicon.2.2.2 [22, 24] 400 (zfind q_W_lexicon.2.2.2 0) (zentry q_W_lexicon.2.2.1 [(2, 0), (0, v1), (0, v2)]) [] μ = (C 15 [(0, v1)] μ).bind fun q1 => (bif decide (q1.1 = 0) then (g_W_lexicon_22 E q1.2) else ((C 25 [(2, 1), (0, v2), (0, 1), (0, 160)] q1.2).bind fun q2 => (bif !decide (q2.1 = 0) then (g_W_lexicon_24 E v1 v2 q2.2) else (g_W_lexicon_22 E q2.2)))) := by
    intro C E
    rfl
  exact key _ _
set_option maxRecDepth 100000 in
theorem e_W_lexicon_22 (z : zZ) (d : Nat) (μ : Mu) : f_W_lexicon_22 z d μ = some ((-1), μ) := by
  show mE z d q_W_lexicon 22 [(9, 0), (9, 0), (9, 0)] [] μ = _
  rw [mE_bk (M := q_W_lexicon) k_W_lexicon.1 k_W_lexicon.2 [22, 24] 400]
  have key : ∀ (C : Nat → List zv → Mu → mR) (E : Nat → List zv → List zv → Mu → mR), mbk C E q_W_lexicon.1 q_W_lexicon.2.1 z q_W_lexicon.2.2.2 [22, 24] 400 (zfind q_W_lexicon.2.2.2 22) [(9, 0), (9, 0), (9, 0)] [] μ = some ((-1), μ) := by
    intro C E
    rfl
  exact key _ _
set_option maxRecDepth 100000 in
theorem e_W_lexicon_24 (z : zZ) (d : Nat) (v1 : Int) (v2 : Int) (μ : Mu) (hv1 : v1 = 0 ∨ v1 = 1) : f_W_lexicon_24 z d v1 v2 μ = (mC z d 19 [(2, 1), (0, v2)] μ).bind fun q1 => ((mC z d 26 [(2, (((4 + 9 * v1.toNat) : Nat) : Int)), (2, 1)] q1.2).bind fun q2 => (some (q2.1, q2.2))) := by
  show mE z d q_W_lexicon 24 [(2, 0), (0, v1), (0, v2)] [] μ = _
  rw [mE_bk (M := q_W_lexicon) k_W_lexicon.1 k_W_lexicon.2 [22, 24] 400]
  have key : ∀ (C : Nat → List zv → Mu → mR) (E : Nat → List zv → List zv → Mu → mR), mbk C E q_W_lexicon.1 q_W_lexicon.2.1 z q_W_lexicon.2.2.2 [22, 24] 400 (zfind q_W_lexicon.2.2.2 24) [(2, 0), (0, v1), (0, v2)] [] μ = (C 19 [(2, 1), (0, v2)] μ).bind fun q1 => ((C 26 [(2, (((4 + 9 * v1.toNat) : Nat) : Int)), (2, 1)] q1.2).bind fun q2 => (some (q2.1, q2.2))) := by
    intro C E
    rcases hv1 with rfl | rfl <;> (rfl)
  exact key _ _
def g_Tape_holdsText_22 (E : Nat → List zv → List zv → Mu → mR) (μ : Mu) : mR := E 22 [(9, 0), (9, 0), (9, 0), (9, 0)] [] μ
noncomputable def f_Tape_holdsText_22 (z : zZ) (d : Nat) (μ : Mu) : mR := g_Tape_holdsText_22 (fun pc ls st μ => mE z d q_Tape_holdsText pc ls st μ) μ
def g_Tape_holdsText_23 (E : Nat → List zv → List zv → Mu → mR) (v100 : Int) (μ : Mu) : mR := E 23 [(9, 0), (9, 0), (9, 0), (9, 0)] [(0, v100)] μ
noncomputable def f_Tape_holdsText_23 (z : zZ) (d : Nat) (v100 : Int) (μ : Mu) : mR := g_Tape_holdsText_23 (fun pc ls st μ => mE z d q_Tape_holdsText pc ls st μ) v100 μ
theorem k_Tape_holdsText : zprK q_Tape_holdsText.2.2.2 = true ∧ zinc q_Tape_holdsText.2.2.2 = true := by decide +kernel
set_option maxRecDepth 100000 in
theorem c_Tape_holdsText (z : zZ) (d : Nat) (v1 : Int) (v2 : Int) (v3 : Int) (μ : Mu) : mC z (d + 1) 25 [(2, 1), (0, v1), (0, v2), (0, v3)] μ = bif decide (v1 < v2) then (f_Tape_holdsText_22 z d μ) else (bif decide (v3 < v1) then (f_Tape_holdsText_22 z d μ) else (bif decide (μ 1 1 < v1) then (f_Tape_holdsText_22 z d μ) else (f_Tape_holdsText_23 z d 1 μ))) := by
  rw [mC_succ q_Tape_holdsText rfl rfl rfl]
  rw [mE_bk (M := q_Tape_holdsText) k_Tape_holdsText.1 k_Tape_holdsText.2 [22, 23] 400]
  have key : ∀ (C : Nat → List zv → Mu → mR) (E : Nat → List zv → List zv → Mu → mR), mbk C E q_Tape_holdsText.1 q_Tape_holdsText.2.1 z q_Tape_holdsText.2.2.2 [22, 23] 400 (zfind q_Tape_holdsText.2.2.2 0) (zentry q_Tape_holdsText.2.2.1 [(2, 1), (0, v1), (0, v2), (0, v3)]) [] μ = bif decide (v1 < v2) then (g_Tape_holdsText_22 E μ) else (bif decide (v3 < v1) then (g_Tape_holdsText_22 E μ) else (bif decide (μ 1 1 < v1) then (g_Tape_holdsText_22 E μ) else (g_Tape_holdsText_23 E 1 μ))) := by
    intro C E
    rfl
  exact key _ _
set_option maxRecDepth 100000 in
theorem e_Tape_holdsText_22 (z : zZ) (d : Nat) (μ : Mu) : f_Tape_holdsText_22 z d μ = f_Tape_holdsText_23 z d 0 μ := by
  show mE z d q_Tape_holdsText 22 [(9, 0), (9, 0), (9, 0), (9, 0)] [] μ = _
  rw [mE_bk (M := q_Tape_holdsText) k_Tape_holdsText.1 k_Tape_holdsText.2 [22, 23] 400]
  have key : ∀ (C : Nat → List zv → Mu → mR) (E : Nat → List zv → List zv → Mu → mR), mbk C E q_Tape_holdsText.1 q_Tape_holdsText.2.1 z q_Tape_holdsText.2.2.2 [22, 23] 400 (zfind q_Tape_holdsText.2.2.2 22) [(9, 0), (9, 0), (9, 0), (9, 0)] [] μ = g_Tape_holdsText_23 E 0 μ := by
    intro C E
    rfl
  exact key _ _
set_option maxRecDepth 100000 in
theorem e_Tape_holdsText_23 (z : zZ) (d : Nat) (v100 : Int) (μ : Mu) : f_Tape_holdsText_23 z d v100 μ = g01 v100 (some (v100, μ)) := by
  show mE z d q_Tape_holdsText 23 [(9, 0), (9, 0), (9, 0), (9, 0)] [(0, v100)] μ = _
  rw [mE_bk (M := q_Tape_holdsText) k_Tape_holdsText.1 k_Tape_holdsText.2 [22, 23] 400]
  have key : ∀ (C : Nat → List zv → Mu → mR) (E : Nat → List zv → List zv → Mu → mR), mbk C E q_Tape_holdsText.1 q_Tape_holdsText.2.1 z q_Tape_holdsText.2.2.2 [22, 23] 400 (zfind q_Tape_holdsText.2.2.2 23) [(9, 0), (9, 0), (9, 0), (9, 0)] [(0, v100)] μ = g01 v100 (some (v100, μ)) := by
    intro C E
    rfl
  exact key _ _
def g_Army_takeLexicon_2 (E : Nat → List zv → List zv → Mu → mR) (o0 : Nat) (v2 : Int) (μ : Mu) : mR := E 2 [(2, ((o0 : Nat) : Int)), (2, 1), (0, v2), (9, 0), (9, 0)] [] μ
noncomputable def f_Army_takeLexicon_2 (z : zZ) (d : Nat) (o0 : Nat) (v2 : Int) (μ : Mu) : mR := g_Army_takeLexicon_2 (fun pc ls st μ => mE z d q_Army_takeLexicon pc ls st μ) o0 v2 μ
def g_Army_takeLexicon_32 (E : Nat → List zv → List zv → Mu → mR) (o0 : Nat) (v2 : Int) (v3 : Int) (μ : Mu) : mR := E 32 [(2, ((o0 : Nat) : Int)), (2, 1), (0, v2), (0, v3), (9, 0)] [] μ
noncomputable def f_Army_takeLexicon_32 (z : zZ) (d : Nat) (o0 : Nat) (v2 : Int) (v3 : Int) (μ : Mu) : mR := g_Army_takeLexicon_32 (fun pc ls st μ => mE z d q_Army_takeLexicon pc ls st μ) o0 v2 v3 μ
def g_Army_takeLexicon_66 (E : Nat → List zv → List zv → Mu → mR) (o0 : Nat) (v2 : Int) (v4 : Int) (μ : Mu) : mR := E 66 [(2, ((o0 : Nat) : Int)), (2, 1), (0, v2), (9, 0), (0, v4)] [] μ
noncomputable def f_Army_takeLexicon_66 (z : zZ) (d : Nat) (o0 : Nat) (v2 : Int) (v4 : Int) (μ : Mu) : mR := g_Army_takeLexicon_66 (fun pc ls st μ => mE z d q_Army_takeLexicon pc ls st μ) o0 v2 v4 μ
def g_Army_takeLexicon_79 (E : Nat → List zv → List zv → Mu → mR) (μ : Mu) : mR := E 79 [(9, 0), (2, 1), (9, 0), (9, 0), (9, 0)] [] μ
noncomputable def f_Army_takeLexicon_79 (z : zZ) (d : Nat) (μ : Mu) : mR := g_Army_takeLexicon_79 (fun pc ls st μ => mE z d q_Army_takeLexicon pc ls st μ) μ
theorem k_Army_takeLexicon : zprK q_Army_takeLexicon.2.2.2 = true ∧ zinc q_Army_takeLexicon.2.2.2 = true := by decide +kernel
set_option maxRecDepth 100000 in
theorem c_Army_takeLexicon (z : zZ) (d : Nat) (o0 : Nat) (μ : Mu) (ho0 : o0 = 4 ∨ o0 = 13) : mC z (d + 1) 26 [(2, ((o0 : Nat) : Int)), (2, 1)] μ = f_Army_takeLexicon_2 z d o0 0 μ := by
  rw [mC_succ q_Army_takeLexicon rfl rfl rfl]
  rw [mE_bk (M := q_Army_takeLexicon) k_Army_takeLexicon.1 k_Army_takeLexicon.2 [2, 32, 66, 79] 400]
  have key : ∀ (C : Nat → List zv → Mu → mR) (E : Nat → List zv → List zv → Mu → mR), mbk C E q_Army_takeLexicon.1 q_Army_takeLexicon.2.1 z q_Army_takeLexicon.2.2.2 [2, 32, 66, 79] 400 (zfind q_Army_takeLexicon.2.2.2 0) (zentry q_Army_takeLexicon.2.2.1 [(2, ((o0 : Nat) : Int)), (2, 1)]) [] μ = g_Army_takeLexicon_2 E o0 0 μ := by
    intro C E
    rcases ho0 with rfl | rfl <;> (rfl)
  exact key _ _
set_option maxRecDepth 100000 in
theorem e_Army_takeLexicon_2 (z : zZ) (d : Nat) (o0 : Nat) (v2 : Int) (μ : Mu) (ho0 : o0 = 4 ∨ o0 = 13) : f_Army_takeLexicon_2 z d o0 v2 μ = bif decide (12 < v2) then (some (μ 1 4, μ)) else (bif !decide (v2 = 12) then (f_Army_takeLexicon_32 z d o0 v2 (μ 1 2) μ) else ((mC z d 27 [(2, 1)] μ).bind fun q1 => (bif decide (q1.1 = 0) then (f_Army_takeLexicon_32 z d o0 v2 (μ 1 2) q1.2) else ((mC z d 28 [(2, 1), (0, 4), (0, μ 1 2)] q1.2).bind fun q2 => (f_Army_takeLexicon_32 z d o0 v2 (μ 1 2) q2.2))))) := by
  show mE z d q_Army_takeLexicon 2 [(2, ((o0 : Nat) : Int)), (2, 1), (0, v2), (9, 0), (9, 0)] [] μ = _
  rw [mE_bk (M := q_Army_takeLexicon) k_Army_takeLexicon.1 k_Army_takeLexicon.2 [2, 32, 66, 79] 400]
  have key : ∀ (C : Nat → List zv → Mu → mR) (E : Nat → List zv → List zv → Mu → mR), mbk C E q_Army_takeLexicon.1 q_Army_takeLexicon.2.1 z q_Army_takeLexicon.2.2.2 [2, 32, 66, 79] 400 (zfind q_Army_takeLexicon.2.2.2 2) [(2, ((o0 : Nat) : Int)), (2, 1), (0, v2), (9, 0), (9, 0)] [] μ = bif decide (12 < v2) then (some (μ 1 4, μ)) else (bif !decide (v2 = 12) then (g_Army_takeLexicon_32 E o0 v2 (μ 1 2) μ) else ((C 27 [(2, 1)] μ).bind fun q1 => (bif decide (q1.1 = 0) then (g_Army_takeLexicon_32 E o0 v2 (μ 1 2) q1.2) else ((C 28 [(2, 1), (0, 4), (0, μ 1 2)] q1.2).bind fun q2 => (g_Army_takeLexicon_32 E o0 v2 (μ 1 2) q2.2))))) := by
    intro C E
    rcases ho0 with rfl | rfl <;> (rfl)
  exact key _ _
set_option maxRecDepth 100000 in
theorem e_Army_takeLexicon_32 (z : zZ) (d : Nat) (o0 : Nat) (v2 : Int) (v3 : Int) (μ : Mu) (ho0 : o0 = 4 ∨ o0 = 13) : f_Army_takeLexicon_32 z d o0 v2 v3 μ = (mC z d 29 [(2, 1)] μ).bind fun q1 => (bif !decide (q1.2 1 4 = 0) then (f_Army_takeLexicon_66 z d o0 v2 q1.1 q1.2) else ((mC z d 32 [(2, (((o0 + 5) : Nat) : Int)), (0, v2), (0, q1.1)] q1.2).bind fun q2 => (bif decide (q2.1 = (-1)) then (f_Army_takeLexicon_66 z d o0 v2 q1.1 q2.2) else ((mC z d 28 [(2, 1), (0, 6), (0, v3)] q2.2).bind fun q3 => (f_Army_takeLexicon_66 z d o0 v2 q1.1 q3.2))))) := by
  show mE z d q_Army_takeLexicon 32 [(2, ((o0 : Nat) : Int)), (2, 1), (0, v2), (0, v3), (9, 0)] [] μ = _
  rw [mE_bk (M := q_Army_takeLexicon) k_Army_takeLexicon.1 k_Army_takeLexicon.2 [2, 32, 66, 79] 400]
  have key : ∀ (C : Nat → List zv → Mu → mR) (E : Nat → List zv → List zv → Mu → mR), mbk C E q_Army_takeLexicon.1 q_Army_takeLexicon.2.1 z q_Army_takeLexicon.2.2.2 [2, 32, 66, 79] 400 (zfind q_Army_takeLexicon.2.2.2 32) [(2, ((o0 : Nat) : Int)), (2, 1), (0, v2), (0, v3), (9, 0)] [] μ = (C 29 [(2, 1)] μ).bind fun q1 => (bif !decide (q1.2 1 4 = 0) then (g_Army_takeLexicon_66 E o0 v2 q1.1 q1.2) else ((C 32 [(2, (((o0 + 5) : Nat) : Int)), (0, v2), (0, q1.1)] q1.2).bind fun q2 => (bif decide (q2.1 = (-1)) then (g_Army_takeLexicon_66 E o0 v2 q1.1 q2.2) else ((C 28 [(2, 1), (0, 6), (0, v3)] q2.2).bind fun q3 => (g_Army_takeLexicon_66 E o0 v2 q1.1 q3.2))))) := by
    intro C E
    rcases ho0 with rfl | rfl <;> (rfl)
  exact key _ _
set_option maxRecDepth 100000 in
theorem e_Army_takeLexicon_66 (z : zZ) (d : Nat) (o0 : Nat) (v2 : Int) (v4 : Int) (μ : Mu) (ho0 : o0 = 4 ∨ o0 = 13) : f_Army_takeLexicon_66 z d o0 v2 v4 μ = bif !decide (μ 1 4 = 0) then (f_Army_takeLexicon_79 z d μ) else (bif !decide (v2 = 12) then (gI v2 12 ((mC z d 33 [(2, 1)] (zup μ (o0 + 5) v2.toNat v4)).bind fun q1 => (bif decide (q1.1 = 0) then ((mC z d 43 [(2, 1), (0, 44)] q1.2).bind fun q2 => (f_Army_takeLexicon_2 z d o0 (zw (v2 + 1)) q2.2)) else ((mC z d 34 [(2, ((o0 : Nat) : Int)), (0, zw (v2 + 1))] q1.2).bind fun q3 => (some (q3.2 o0 6, q3.2)))))) else (f_Army_takeLexicon_79 z d μ)) := by
  show mE z d q_Army_takeLexicon 66 [(2, ((o0 : Nat) : Int)), (2, 1), (0, v2), (9, 0), (0, v4)] [] μ = _
  rw [mE_bk (M := q_Army_takeLexicon) k_Army_takeLexicon.1 k_Army_takeLexicon.2 [2, 32, 66, 79] 400]
  have key : ∀ (C : Nat → List zv → Mu → mR) (E : Nat → List zv → List zv → Mu → mR), mbk C E q_Army_takeLexicon.1 q_Army_takeLexicon.2.1 z q_Army_takeLexicon.2.2.2 [2, 32, 66, 79] 400 (zfind q_Army_takeLexicon.2.2.2 66) [(2, ((o0 : Nat) : Int)), (2, 1), (0, v2), (9, 0), (0, v4)] [] μ = bif !decide (μ 1 4 = 0) then (g_Army_takeLexicon_79 E μ) else (bif !decide (v2 = 12) then (gI v2 12 ((C 33 [(2, 1)] (zup μ (o0 + 5) v2.toNat v4)).bind fun q1 => (bif decide (q1.1 = 0) then ((C 43 [(2, 1), (0, 44)] q1.2).bind fun q2 => (g_Army_takeLexicon_2 E o0 (zw (v2 + 1)) q2.2)) else ((C 34 [(2, ((o0 : Nat) : Int)), (0, zw (v2 + 1))] q1.2).bind fun q3 => (some (q3.2 o0 6, q3.2)))))) else (g_Army_takeLexicon_79 E μ)) := by
    intro C E
    rcases ho0 with rfl | rfl <;> (rfl)
  exact key _ _
set_option maxRecDepth 100000 in
theorem e_Army_takeLexicon_79 (z : zZ) (d : Nat) (μ : Mu) : f_Army_takeLexicon_79 z d μ = some (μ 1 4, μ) := by
  show mE z d q_Army_takeLexicon 79 [(9, 0), (2, 1), (9, 0), (9, 0), (9, 0)] [] μ = _
  rw [mE_bk (M := q_Army_takeLexicon) k_Army_takeLexicon.1 k_Army_takeLexicon.2 [2, 32, 66, 79] 400]
  have key : ∀ (C : Nat → List zv → Mu → mR) (E : Nat → List zv → List zv → Mu → mR), mbk C E q_Army_takeLexicon.1 q_Army_takeLexicon.2.1 z q_Army_takeLexicon.2.2.2 [2, 32, 66, 79] 400 (zfind q_Army_takeLexicon.2.2.2 79) [(9, 0), (2, 1), (9, 0), (9, 0), (9, 0)] [] μ = some (μ 1 4, μ) := by
    intro C E
    rfl
  exact key _ _
theorem k_Tape_atLetter : zprK q_Tape_atLetter.2.2.2 = true ∧ zinc q_Tape_atLetter.2.2.2 = true := by decide +kernel
set_option maxRecDepth 100000 in
theorem c_Tape_atLetter (z : zZ) (d : Nat) (μ : Mu) : mC z (d + 1) 27 [(2, 1)] μ = (mC z d 22 [(2, 1)] μ).bind fun q1 => ((mC z d 13 [(0, zw (q1.1 - 97))] q1.2).bind fun q2 => (g01 q2.1 (some (q2.1, q2.2)))) := by
  rw [mC_succ q_Tape_atLetter rfl rfl rfl]
  rw [mE_bk (M := q_Tape_atLetter) k_Tape_atLetter.1 k_Tape_atLetter.2 [] 400]
  have key : ∀ (C : Nat → List zv → Mu → mR) (E : Nat → List zv → List zv → Mu → mR), mbk C E q_Tape_atLetter.1 q_Tape_atLetter.2.1 z q_Tape_atLetter.2.2.2 [] 400 (zfind q_Tape_atLetter.2.2.2 0) (zentry q_Tape_atLetter.2.2.1 [(2, 1)]) [] μ = (C 22 [(2, 1)] μ).bind fun q1 => ((C 13 [(0, zw (q1.1 - 97))] q1.2).bind fun q2 => (g01 q2.1 (some (q2.1, q2.2)))) := by
    intro C E
    rfl
  exact key _ _
def g_Tape_fail_18 (E : Nat → List zv → List zv → Mu → mR) (μ : Mu) : mR := E 18 [(9, 0), (9, 0), (9, 0)] [] μ
noncomputable def f_Tape_fail_18 (z : zZ) (d : Nat) (μ : Mu) : mR := g_Tape_fail_18 (fun pc ls st μ => mE z d q_Tape_fail pc ls st μ) μ
theorem k_Tape_fail : zprK q_Tape_fail.2.2.2 = true ∧ zinc q_Tape_fail.2.2.2 = true := by decide +kernel
set_option maxRecDepth 100000 in
theorem c_Tape_fail (z : zZ) (d : Nat) (v1 : Int) (v2 : Int) (μ : Mu) : mC z (d + 1) 28 [(2, 1), (0, v1), (0, v2)] μ = bif !decide (μ 1 4 = 0) then (f_Tape_fail_18 z d μ) else (f_Tape_fail_18 z d (zup μ 1 4 (zw ((zw (((-1000)) * v1)) - v2)))) := by
  rw [mC_succ q_Tape_fail rfl rfl rfl]
  rw [mE_bk (M := q_Tape_fail) k_Tape_fail.1 k_Tape_fail.2 [18] 400]
  have key : ∀ (C : Nat → List zv → Mu → mR) (E : Nat → List zv → List zv → Mu → mR), mbk C E q_Tape_fail.1 q_Tape_fail.2.1 z q_Tape_fail.2.2.2 [18] 400 (zfind q_Tape_fail.2.2.2 0) (zentry q_Tape_fail.2.2.1 [(2, 1), (0, v1), (0, v2)]) [] μ = bif !decide (μ 1 4 = 0) then (g_Tape_fail_18 E μ) else (g_Tape_fail_18 E (zup μ 1 4 (zw ((zw (((-1000)) * v1)) - v2)))) := by
    intro C E
    rfl
  exact key _ _
set_option maxRecDepth 100000 in
theorem e_Tape_fail_18 (z : zZ) (d : Nat) (μ : Mu) : f_Tape_fail_18 z d μ = some (0, μ) := by
  show mE z d q_Tape_fail 18 [(9, 0), (9, 0), (9, 0)] [] μ = _
  rw [mE_bk (M := q_Tape_fail) k_Tape_fail.1 k_Tape_fail.2 [18] 400]
  have key : ∀ (C : Nat → List zv → Mu → mR) (E : Nat → List zv → List zv → Mu → mR), mbk C E q_Tape_fail.1 q_Tape_fail.2.1 z q_Tape_fail.2.2.2 [18] 400 (zfind q_Tape_fail.2.2.2 18) [(9, 0), (9, 0), (9, 0)] [] μ = some (0, μ) := by
    intro C E
    rfl
  exact key _ _
def g_Tape_takeWord_12 (E : Nat → List zv → List zv → Mu → mR) (v1 : Int) (v2 : Int) (μ : Mu) : mR := E 12 [(2, 1), (0, v1), (0, v2)] [] μ
noncomputable def f_Tape_takeWord_12 (z : zZ) (d : Nat) (v1 : Int) (v2 : Int) (μ : Mu) : mR := g_Tape_takeWord_12 (fun pc ls st μ => mE z d q_Tape_takeWord pc ls st μ) v1 v2 μ
def g_Tape_takeWord_60 (E : Nat → List zv → List zv → Mu → mR) (v1 : Int) (v2 : Int) (μ : Mu) : mR := E 60 [(2, 1), (0, v1), (0, v2)] [] μ
noncomputable def f_Tape_takeWord_60 (z : zZ) (d : Nat) (v1 : Int) (v2 : Int) (μ : Mu) : mR := g_Tape_takeWord_60 (fun pc ls st μ => mE z d q_Tape_takeWord pc ls st μ) v1 v2 μ
def g_Tape_takeWord_66 (E : Nat → List zv → List zv → Mu → mR) (v1 : Int) (μ : Mu) : mR := E 66 [(2, 1), (0, v1), (9, 0)] [] μ
noncomputable def f_Tape_takeWord_66 (z : zZ) (d : Nat) (v1 : Int) (μ : Mu) : mR := g_Tape_takeWord_66 (fun pc ls st μ => mE z d q_Tape_takeWord pc ls st μ) v1 μ
def g_Tape_takeWord_78 (E : Nat → List zv → List zv → Mu → mR) (v100 : Int) (μ : Mu) : mR := E 78 [(9, 0), (9, 0), (9, 0)] [(0, v100)] μ
noncomputable def f_Tape_takeWord_78 (z : zZ) (d : Nat) (v100 : Int) (μ : Mu) : mR := g_Tape_takeWord_78 (fun pc ls st μ => mE z d q_Tape_takeWord pc ls st μ) v100 μ
theorem k_Tape_takeWord : zprK q_Tape_takeWord.2.2.2 = true ∧ zinc q_Tape_takeWord.2.2.2 = true := by decide +kernel
set_option maxRecDepth 100000 in
theorem c_Tape_takeWord (z : zZ) (d : Nat) (μ : Mu) : mC z (d + 1) 29 [(2, 1)] μ = (mC z d 30 [(2, 1)] μ).bind fun q1 => ((mC z d 31 [(0, 0), (0, 0), (0, q1.1)] q1.2).bind fun q2 => (f_Tape_takeWord_12 z d q2.1 1 q2.2)) := by
  rw [mC_succ q_Tape_takeWord rfl rfl rfl]
  rw [mE_bk (M := q_Tape_takeWord) k_Tape_takeWord.1 k_Tape_takeWord.2 [12, 60, 66, 78] 400]
  have key : ∀ (C : Nat → List zv → Mu → mR) (E : Nat → List zv → List zv → Mu → mR), mbk C E q_Tape_takeWord.1 q_Tape_takeWord.2.1 z q_Tape_takeWord.2.2.2 [12, 60, 66, 78] 400 (zfind q_Tape_takeWord.2.2.2 0) (zentry q_Tape_takeWord.2.2.1 [(2, 1)]) [] μ = (C 30 [(2, 1)] μ).bind fun q1 => ((C 31 [(0, 0), (0, 0), (0, q1.1)] q1.2).bind fun q2 => (g_Tape_takeWord_12 E q2.1 1 q2.2)) := by
    intro C E
    rfl
  exact key _ _
set_option maxRecDepth 100000 in
theorem e_Tape_takeWord_12 (z : zZ) (d : Nat) (v1 : Int) (v2 : Int) (μ : Mu) : f_Tape_takeWord_12 z d v1 v2 μ = bif decide (8 < v2) then (f_Tape_takeWord_66 z d v1 μ) else (bif !decide (μ 1 4 = 0) then (f_Tape_takeWord_66 z d v1 μ) else ((mC z d 27 [(2, 1)] μ).bind fun q1 => (bif decide (q1.1 = 0) then (f_Tape_takeWord_66 z d v1 q1.2) else (bif !decide (v2 = 8) then ((mC z d 30 [(2, 1)] q1.2).bind fun q2 => ((mC z d 31 [(0, v1), (0, v2), (0, q2.1)] q2.2).bind fun q3 => (f_Tape_takeWord_60 z d q3.1 v2 q3.2))) else ((mC z d 28 [(2, 1), (0, 3), (0, q1.2 1 2)] q1.2).bind fun q4 => (f_Tape_takeWord_60 z d v1 v2 q4.2)))))) := by
  show mE z d q_Tape_takeWord 12 [(2, 1), (0, v1), (0, v2)] [] μ = _
  rw [mE_bk (M := q_Tape_takeWord) k_Tape_takeWord.1 k_Tape_takeWord.2 [12, 60, 66, 78] 400]
  have key : ∀ (C : Nat → List zv → Mu → mR) (E : Nat → List zv → List zv → Mu → mR), mbk C E q_Tape_takeWord.1 q_Tape_takeWord.2.1 z q_Tape_takeWord.2.2.2 [12, 60, 66, 78] 400 (zfind q_Tape_takeWord.2.2.2 12) [(2, 1), (0, v1), (0, v2)] [] μ = bif decide (8 < v2) then (g_Tape_takeWord_66 E v1 μ) else (bif !decide (μ 1 4 = 0) then (g_Tape_takeWord_66 E v1 μ) else ((C 27 [(2, 1)] μ).bind fun q1 => (bif decide (q1.1 = 0) then (g_Tape_takeWord_66 E v1 q1.2) else (bif !decide (v2 = 8) then ((C 30 [(2, 1)] q1.2).bind fun q2 => ((C 31 [(0, v1), (0, v2), (0, q2.1)] q2.2).bind fun q3 => (g_Tape_takeWord_60 E q3.1 v2 q3.2))) else ((C 28 [(2, 1), (0, 3), (0, q1.2 1 2)] q1.2).bind fun q4 => (g_Tape_takeWord_60 E v1 v2 q4.2)))))) := by
    intro C E
    rfl
  exact key _ _
set_option maxRecDepth 100000 in
theorem e_Tape_takeWord_66 (z : zZ) (d : Nat) (v1 : Int) (μ : Mu) : f_Tape_takeWord_66 z d v1 μ = bif !decide (μ 1 4 = 0) then (f_Tape_takeWord_78 z d 0 μ) else (f_Tape_takeWord_78 z d v1 μ) := by
  show mE z d q_Tape_takeWord 66 [(2, 1), (0, v1), (9, 0)] [] μ = _
  rw [mE_bk (M := q_Tape_takeWord) k_Tape_takeWord.1 k_Tape_takeWord.2 [12, 60, 66, 78] 400]
  have key : ∀ (C : Nat → List zv → Mu → mR) (E : Nat → List zv → List zv → Mu → mR), mbk C E q_Tape_takeWord.1 q_Tape_takeWord.2.1 z q_Tape_takeWord.2.2.2 [12, 60, 66, 78] 400 (zfind q_Tape_takeWord.2.2.2 66) [(2, 1), (0, v1), (9, 0)] [] μ = bif !decide (μ 1 4 = 0) then (g_Tape_takeWord_78 E 0 μ) else (g_Tape_takeWord_78 E v1 μ) := by
    intro C E
    rfl
  exact key _ _
set_option maxRecDepth 100000 in
theorem e_Tape_takeWord_60 (z : zZ) (d : Nat) (v1 : Int) (v2 : Int) (μ : Mu) : f_Tape_takeWord_60 z d v1 v2 μ = f_Tape_takeWord_12 z d v1 (zw (v2 + 1)) μ := by
  show mE z d q_Tape_takeWord 60 [(2, 1), (0, v1), (0, v2)] [] μ = _
  rw [mE_bk (M := q_Tape_takeWord) k_Tape_takeWord.1 k_Tape_takeWord.2 [12, 60, 66, 78] 400]
  have key : ∀ (C : Nat → List zv → Mu → mR) (E : Nat → List zv → List zv → Mu → mR), mbk C E q_Tape_takeWord.1 q_Tape_takeWord.2.1 z q_Tape_takeWord.2.2.2 [12, 60, 66, 78] 400 (zfind q_Tape_takeWord.2.2.2 60) [(2, 1), (0, v1), (0, v2)] [] μ = g_Tape_takeWord_12 E v1 (zw (v2 + 1)) μ := by
    intro C E
    rfl
  exact key _ _
set_option maxRecDepth 100000 in
theorem e_Tape_takeWord_78 (z : zZ) (d : Nat) (v100 : Int) (μ : Mu) : f_Tape_takeWord_78 z d v100 μ = some (v100, μ) := by
  show mE z d q_Tape_takeWord 78 [(9, 0), (9, 0), (9, 0)] [(0, v100)] μ = _
  rw [mE_bk (M := q_Tape_takeWord) k_Tape_takeWord.1 k_Tape_takeWord.2 [12, 60, 66, 78] 400]
  have key : ∀ (C : Nat → List zv → Mu → mR) (E : Nat → List zv → List zv → Mu → mR), mbk C E q_Tape_takeWord.1 q_Tape_takeWord.2.1 z q_Tape_takeWord.2.2.2 [12, 60, 66, 78] 400 (zfind q_Tape_takeWord.2.2.2 78) [(9, 0), (9, 0), (9, 0)] [(0, v100)] μ = some (v100, μ) := by
    intro C E
    rfl
  exact key _ _
theorem k_Tape_takeLetter : zprK q_Tape_takeLetter.2.2.2 = true ∧ zinc q_Tape_takeLetter.2.2.2 = true := by decide +kernel
set_option maxRecDepth 100000 in
theorem c_Tape_takeLetter (z : zZ) (d : Nat) (μ : Mu) : mC z (d + 1) 30 [(2, 1)] μ = (mC z d 27 [(2, 1)] μ).bind fun q1 => (bif !decide (q1.1 = 0) then ((mC z d 21 [(2, 1)] q1.2).bind fun q2 => (some (zw (q2.1 - 97), q2.2))) else ((mC z d 28 [(2, 1), (0, 1), (0, q1.2 1 2)] q1.2).bind fun q3 => (some (0, q3.2)))) := by
  rw [mC_succ q_Tape_takeLetter rfl rfl rfl]
  rw [mE_bk (M := q_Tape_takeLetter) k_Tape_takeLetter.1 k_Tape_takeLetter.2 [] 400]
  have key : ∀ (C : Nat → List zv → Mu → mR) (E : Nat → List zv → List zv → Mu → mR), mbk C E q_Tape_takeLetter.1 q_Tape_takeLetter.2.1 z q_Tape_takeLetter.2.2.2 [] 400 (zfind q_Tape_takeLetter.2.2.2 0) (zentry q_Tape_takeLetter.2.2.1 [(2, 1)]) [] μ = (C 27 [(2, 1)] μ).bind fun q1 => (bif !decide (q1.1 = 0) then ((C 21 [(2, 1)] q1.2).bind fun q2 => (some (zw (q2.1 - 97), q2.2))) else ((C 28 [(2, 1), (0, 1), (0, q1.2 1 2)] q1.2).bind fun q3 => (some (0, q3.2)))) := by
    intro C E
    rfl
  exact key _ _
theorem k_Wrd_changed : zprK q_Wrd_changed.2.2.2 = true ∧ zinc q_Wrd_changed.2.2.2 = true := by decide +kernel
set_option maxRecDepth 100000 in
theorem c_Wrd_changed (z : zZ) (d : Nat) (v0 : Int) (v1 : Int) (v2 : Int) (μ : Mu) : mC z (d + 1) 31 [(0, v0), (0, v1), (0, v2)] μ = some (z_or (z_and v0 (z_xor (z_shl 15 (zw (4 * v1))) ((-1)))) (z_shl (zw (v2 + 1)) (zw (4 * v1))), μ) := by
  rw [mC_succ q_Wrd_changed rfl rfl rfl]
  rw [mE_bk (M := q_Wrd_changed) k_Wrd_changed.1 k_Wrd_changed.2 [] 400]
  have key : ∀ (C : Nat → List zv → Mu → mR) (E : Nat → List zv → List zv → Mu → mR), mbk C E q_Wrd_changed.1 q_Wrd_changed.2.1 z q_Wrd_changed.2.2.2 [] 400 (zfind q_Wrd_changed.2.2.2 0) (zentry q_Wrd_changed.2.2.1 [(0, v0), (0, v1), (0, v2)]) [] μ = some (z_or (z_and v0 (z_xor (z_shl 15 (zw (4 * v1))) ((-1)))) (z_shl (zw (v2 + 1)) (zw (4 * v1))), μ) := by
    intro C E
    rfl
  exact key _ _
def g_Army_indexOf_2 (E : Nat → List zv → List zv → Mu → mR) (v0 : Int) (v1 : Int) (v2 : Int) (v3 : Int) (μ : Mu) : mR := E 2 [(2, v0), (0, v1), (0, v2), (0, v3)] [] μ
noncomputable def f_Army_indexOf_2 (z : zZ) (d : Nat) (v0 : Int) (v1 : Int) (v2 : Int) (v3 : Int) (μ : Mu) : mR := g_Army_indexOf_2 (fun pc ls st μ => mE z d q_Army_indexOf pc ls st μ) v0 v1 v2 v3 μ
def g_Army_indexOf_28 (E : Nat → List zv → List zv → Mu → mR) (μ : Mu) : mR := E 28 [(9, 0), (9, 0), (9, 0), (9, 0)] [] μ
noncomputable def f_Army_indexOf_28 (z : zZ) (d : Nat) (μ : Mu) : mR := g_Army_indexOf_28 (fun pc ls st μ => mE z d q_Army_indexOf pc ls st μ) μ
theorem k_Army_indexOf : zprK q_Army_indexOf.2.2.2 = true ∧ zinc q_Army_indexOf.2.2.2 = true := by decide +kernel
set_option maxRecDepth 100000 in
theorem c_Army_indexOf (z : zZ) (d : Nat) (v0 : Int) (v1 : Int) (v2 : Int) (μ : Mu) : mC z (d + 1) 32 [(2, v0), (0, v1), (0, v2)] μ = f_Army_indexOf_2 z d v0 v1 v2 0 μ := by
  rw [mC_succ q_Army_indexOf rfl rfl rfl]
  rw [mE_bk (M := q_Army_indexOf) k_Army_indexOf.1 k_Army_indexOf.2 [2, 28] 400]
  have key : ∀ (C : Nat → List zv → Mu → mR) (E : Nat → List zv → List zv → Mu → mR), mbk C E q_Army_indexOf.1 q_Army_indexOf.2.1 z q_Army_indexOf.2.2.2 [2, 28] 400 (zfind q_Army_indexOf.2.2.2 0) (zentry q_Army_indexOf.2.2.1 [(2, v0), (0, v1), (0, v2)]) [] μ = g_Army_indexOf_2 E v0 v1 v2 0 μ := by
    intro C E
    rfl
  exact key _ _
set_option maxRecDepth 100000 in
theorem e_Army_indexOf_2 (z : zZ) (d : Nat) (v0 : Int) (v1 : Int) (v2 : Int) (v3 : Int) (μ : Mu) : f_Army_indexOf_2 z d v0 v1 v2 v3 μ = bif decide (v1 ≤ v3) then (f_Army_indexOf_28 z d μ) else (gK v0 (bif decide (zlen v0 ≤ v3) then (f_Army_indexOf_28 z d μ) else (gA v0 v3 (bif !decide (μ v0.toNat v3.toNat = v2) then (f_Army_indexOf_2 z d v0 v1 v2 (zw (v3 + 1)) μ) else (some (v3, μ)))))) := by
  show mE z d q_Army_indexOf 2 [(2, v0), (0, v1), (0, v2), (0, v3)] [] μ = _
  rw [mE_bk (M := q_Army_indexOf) k_Army_indexOf.1 k_Army_indexOf.2 [2, 28] 400]
  have key : ∀ (C : Nat → List zv → Mu → mR) (E : Nat → List zv → List zv → Mu → mR), mbk C E q_Army_indexOf.1 q_Army_indexOf.2.1 z q_Army_indexOf.2.2.2 [2, 28] 400 (zfind q_Army_indexOf.2.2.2 2) [(2, v0), (0, v1), (0, v2), (0, v3)] [] μ = bif decide (v1 ≤ v3) then (g_Army_indexOf_28 E μ) else (gK v0 (bif decide (zlen v0 ≤ v3) then (g_Army_indexOf_28 E μ) else (gA v0 v3 (bif !decide (μ v0.toNat v3.toNat = v2) then (g_Army_indexOf_2 E v0 v1 v2 (zw (v3 + 1)) μ) else (some (v3, μ)))))) := by
    intro C E
    rfl
  exact key _ _
set_option maxRecDepth 100000 in
theorem e_Army_indexOf_28 (z : zZ) (d : Nat) (μ : Mu) : f_Army_indexOf_28 z d μ = some ((-1), μ) := by
  show mE z d q_Army_indexOf 28 [(9, 0), (9, 0), (9, 0), (9, 0)] [] μ = _
  rw [mE_bk (M := q_Army_indexOf) k_Army_indexOf.1 k_Army_indexOf.2 [2, 28] 400]
  have key : ∀ (C : Nat → List zv → Mu → mR) (E : Nat → List zv → List zv → Mu → mR), mbk C E q_Army_indexOf.1 q_Army_indexOf.2.1 z q_Army_indexOf.2.2.2 [2, 28] 400 (zfind q_Army_indexOf.2.2.2 28) [(9, 0), (9, 0), (9, 0), (9, 0)] [] μ = some ((-1), μ) := by
    intro C E
    rfl
  exact key _ _
def g_Tape_atEnd_16 (E : Nat → List zv → List zv → Mu → mR) (v100 : Int) (μ : Mu) : mR := E 16 [(9, 0)] [(0, v100)] μ
noncomputable def f_Tape_atEnd_16 (z : zZ) (d : Nat) (v100 : Int) (μ : Mu) : mR := g_Tape_atEnd_16 (fun pc ls st μ => mE z d q_Tape_atEnd pc ls st μ) v100 μ
theorem k_Tape_atEnd : zprK q_Tape_atEnd.2.2.2 = true ∧ zinc q_Tape_atEnd.2.2.2 = true := by decide +kernel
set_option maxRecDepth 100000 in
theorem c_Tape_atEnd (z : zZ) (d : Nat) (μ : Mu) : mC z (d + 1) 33 [(2, 1)] μ = bif decide (μ 1 2 < μ 1 3) then (f_Tape_atEnd_16 z d 0 μ) else (f_Tape_atEnd_16 z d 1 μ) := by
  rw [mC_succ q_Tape_atEnd rfl rfl rfl]
  rw [mE_bk (M := q_Tape_atEnd) k_Tape_atEnd.1 k_Tape_atEnd.2 [16] 400]
  have key : ∀ (C : Nat → List zv → Mu → mR) (E : Nat → List zv → List zv → Mu → mR), mbk C E q_Tape_atEnd.1 q_Tape_atEnd.2.1 z q_Tape_atEnd.2.2.2 [16] 400 (zfind q_Tape_atEnd.2.2.2 0) (zentry q_Tape_atEnd.2.2.1 [(2, 1)]) [] μ = bif decide (μ 1 2 < μ 1 3) then (g_Tape_atEnd_16 E 0 μ) else (g_Tape_atEnd_16 E 1 μ) := by
    intro C E
    rfl
  exact key _ _
set_option maxRecDepth 100000 in
theorem e_Tape_atEnd_16 (z : zZ) (d : Nat) (v100 : Int) (μ : Mu) : f_Tape_atEnd_16 z d v100 μ = g01 v100 (some (v100, μ)) := by
  show mE z d q_Tape_atEnd 16 [(9, 0)] [(0, v100)] μ = _
  rw [mE_bk (M := q_Tape_atEnd) k_Tape_atEnd.1 k_Tape_atEnd.2 [16] 400]
  have key : ∀ (C : Nat → List zv → Mu → mR) (E : Nat → List zv → List zv → Mu → mR), mbk C E q_Tape_atEnd.1 q_Tape_atEnd.2.1 z q_Tape_atEnd.2.2.2 [16] 400 (zfind q_Tape_atEnd.2.2.2 16) [(9, 0)] [(0, v100)] μ = g01 v100 (some (v100, μ)) := by
    intro C E
    rfl
  exact key _ _
theorem k_Army_adopt : zprK q_Army_adopt.2.2.2 = true ∧ zinc q_Army_adopt.2.2.2 = true := by decide +kernel
set_option maxRecDepth 100000 in
theorem c_Army_adopt (z : zZ) (d : Nat) (o0 : Nat) (v1 : Int) (μ : Mu) (ho0 : o0 = 4 ∨ o0 = 13) : mC z (d + 1) 34 [(2, ((o0 : Nat) : Int)), (0, v1)] μ = (mC z d 35 [(2, ((o0 : Nat) : Int)), (2, (((o0 + 6) : Nat) : Int))] μ).bind fun q1 => ((mC z d 38 [(2, ((o0 : Nat) : Int)), (2, (((o0 + 6) : Nat) : Int))] (zup (zcpy q1.2 (o0 + 5) 0 (o0 + 4) 0 12) o0 6 v1)).bind fun q2 => (some (0, q2.2))) := by
  rw [mC_succ q_Army_adopt rfl rfl rfl]
  rw [mE_bk (M := q_Army_adopt) k_Army_adopt.1 k_Army_adopt.2 [] 400]
  have key : ∀ (C : Nat → List zv → Mu → mR) (E : Nat → List zv → List zv → Mu → mR), mbk C E q_Army_adopt.1 q_Army_adopt.2.1 z q_Army_adopt.2.2.2 [] 400 (zfind q_Army_adopt.2.2.2 0) (zentry q_Army_adopt.2.2.1 [(2, ((o0 : Nat) : Int)), (0, v1)]) [] μ = (C 35 [(2, ((o0 : Nat) : Int)), (2, (((o0 + 6) : Nat) : Int))] μ).bind fun q1 => ((C 38 [(2, ((o0 : Nat) : Int)), (2, (((o0 + 6) : Nat) : Int))] (zup (zcpy q1.2 (o0 + 5) 0 (o0 + 4) 0 12) o0 6 v1)).bind fun q2 => (some (0, q2.2))) := by
    intro C E
    rcases ho0 with rfl | rfl <;> (rfl)
  exact key _ _
def g_Army_saveTo_25 (E : Nat → List zv → List zv → Mu → mR) (o0 : Nat) (o1 : Nat) (v2 : Int) (μ : Mu) : mR := E 25 [(2, ((o0 : Nat) : Int)), (2, ((o1 : Nat) : Int)), (0, v2)] [] μ
noncomputable def f_Army_saveTo_25 (z : zZ) (d : Nat) (o0 : Nat) (o1 : Nat) (v2 : Int) (μ : Mu) : mR := g_Army_saveTo_25 (fun pc ls st μ => mE z d q_Army_saveTo pc ls st μ) o0 o1 v2 μ
def g_Army_saveTo_75 (E : Nat → List zv → List zv → Mu → mR) (o0 : Nat) (o1 : Nat) (v2 : Int) (μ : Mu) : mR := E 75 [(2, ((o0 : Nat) : Int)), (2, ((o1 : Nat) : Int)), (0, v2)] [] μ
noncomputable def f_Army_saveTo_75 (z : zZ) (d : Nat) (o0 : Nat) (o1 : Nat) (v2 : Int) (μ : Mu) : mR := g_Army_saveTo_75 (fun pc ls st μ => mE z d q_Army_saveTo pc ls st μ) o0 o1 v2 μ
theorem k_Army_saveTo : zprK q_Army_saveTo.2.2.2 = true ∧ zinc q_Army_saveTo.2.2.2 = true := by decide +kernel
set_option maxRecDepth 100000 in
theorem c_Army_saveTo (z : zZ) (d : Nat) (o0 : Nat) (o1 : Nat) (μ : Mu) (ho0 : o0 = 4 ∨ o0 = 13) (ho1 : o1 = 10 ∨ o1 = 19 ∨ o1 = 73 ∨ o1 = 76 ∨ o1 = 80 ∨ o1 = 83) : mC z (d + 1) 35 [(2, ((o0 : Nat) : Int)), (2, ((o1 : Nat) : Int))] μ = f_Army_saveTo_25 z d o0 o1 0 (zup (zcpy μ (o0 + 3) 0 (o1 + 1) 0 36) o1 2 0) := by
  rw [mC_succ q_Army_saveTo rfl rfl rfl]
  rw [mE_bk (M := q_Army_saveTo) k_Army_saveTo.1 k_Army_saveTo.2 [25, 75] 400]
  have key : ∀ (C : Nat → List zv → Mu → mR) (E : Nat → List zv → List zv → Mu → mR), mbk C E q_Army_saveTo.1 q_Army_saveTo.2.1 z q_Army_saveTo.2.2.2 [25, 75] 400 (zfind q_Army_saveTo.2.2.2 0) (zentry q_Army_saveTo.2.2.1 [(2, ((o0 : Nat) : Int)), (2, ((o1 : Nat) : Int))]) [] μ = g_Army_saveTo_25 E o0 o1 0 (zup (zcpy μ (o0 + 3) 0 (o1 + 1) 0 36) o1 2 0) := by
    intro C E
    rcases ho0 with rfl | rfl <;> rcases ho1 with rfl | rfl | rfl | rfl | rfl | rfl <;> (rfl)
  exact key _ _
set_option maxRecDepth 100000 in
theorem e_Army_saveTo_25 (z : zZ) (d : Nat) (o0 : Nat) (o1 : Nat) (v2 : Int) (μ : Mu) (ho0 : o0 = 4 ∨ o0 = 13) (ho1 : o1 = 10 ∨ o1 = 19 ∨ o1 = 73 ∨ o1 = 76 ∨ o1 = 80 ∨ o1 = 83) : f_Army_saveTo_25 z d o0 o1 v2 μ = bif decide (μ o0 6 ≤ v2) then (some (0, μ)) else ((mC z d 36 [(2, ((o0 : Nat) : Int)), (0, v2)] μ).bind fun q1 => (bif decide (q1.1 = 0) then (f_Army_saveTo_75 z d o0 o1 v2 q1.2) else (bif decide (6 ≤ q1.2 o1 2) then (f_Army_saveTo_75 z d o0 o1 v2 q1.2) else (gI v2 12 (gI (q1.2 o1 2) 6 (f_Army_saveTo_75 z d o0 o1 v2 (zup (zup q1.2 (o1 + 2) ((q1.2 o1 2).toNat) (q1.2 (o0 + 4) v2.toNat)) o1 2 (zw ((q1.2 o1 2) + 1))))))))) := by
  show mE z d q_Army_saveTo 25 [(2, ((o0 : Nat) : Int)), (2, ((o1 : Nat) : Int)), (0, v2)] [] μ = _
  rw [mE_bk (M := q_Army_saveTo) k_Army_saveTo.1 k_Army_saveTo.2 [25, 75] 400]
  have key : ∀ (C : Nat → List zv → Mu → mR) (E : Nat → List zv → List zv → Mu → mR), mbk C E q_Army_saveTo.1 q_Army_saveTo.2.1 z q_Army_saveTo.2.2.2 [25, 75] 400 (zfind q_Army_saveTo.2.2.2 25) [(2, ((o0 : Nat) : Int)), (2, ((o1 : Nat) : Int)), (0, v2)] [] μ = bif decide (μ o0 6 ≤ v2) then (some (0, μ)) else ((C 36 [(2, ((o0 : Nat) : Int)), (0, v2)] μ).bind fun q1 => (bif decide (q1.1 = 0) then (g_Army_saveTo_75 E o0 o1 v2 q1.2) else (bif decide (6 ≤ q1.2 o1 2) then (g_Army_saveTo_75 E o0 o1 v2 q1.2) else (gI v2 12 (gI (q1.2 o1 2) 6 (g_Army_saveTo_75 E o0 o1 v2 (zup (zup q1.2 (o1 + 2) ((q1.2 o1 2).toNat) (q1.2 (o0 + 4) v2.toNat)) o1 2 (zw ((q1.2 o1 2) + 1))))))))) := by
    intro C E
    rcases ho0 with rfl | rfl <;> rcases ho1 with rfl | rfl | rfl | rfl | rfl | rfl <;> (rfl)
  exact key _ _
set_option maxRecDepth 100000 in
theorem e_Army_saveTo_75 (z : zZ) (d : Nat) (o0 : Nat) (o1 : Nat) (v2 : Int) (μ : Mu) (ho0 : o0 = 4 ∨ o0 = 13) (ho1 : o1 = 10 ∨ o1 = 19 ∨ o1 = 73 ∨ o1 = 76 ∨ o1 = 80 ∨ o1 = 83) : f_Army_saveTo_75 z d o0 o1 v2 μ = f_Army_saveTo_25 z d o0 o1 (zw (v2 + 1)) μ := by
  show mE z d q_Army_saveTo 75 [(2, ((o0 : Nat) : Int)), (2, ((o1 : Nat) : Int)), (0, v2)] [] μ = _
  rw [mE_bk (M := q_Army_saveTo) k_Army_saveTo.1 k_Army_saveTo.2 [25, 75] 400]
  have key : ∀ (C : Nat → List zv → Mu → mR) (E : Nat → List zv → List zv → Mu → mR), mbk C E q_Army_saveTo.1 q_Army_saveTo.2.1 z q_Army_saveTo.2.2.2 [25, 75] 400 (zfind q_Army_saveTo.2.2.2 75) [(2, ((o0 : Nat) : Int)), (2, ((o1 : Nat) : Int)), (0, v2)] [] μ = g_Army_saveTo_25 E o0 o1 (zw (v2 + 1)) μ := by
    intro C E
    rcases ho0 with rfl | rfl <;> rcases ho1 with rfl | rfl | rfl | rfl | rfl | rfl <;> (rfl)
  exact key _ _
def g_Army_stands_23 (E : Nat → List zv → List zv → Mu → mR) (μ : Mu) : mR := E 23 [(9, 0), (9, 0)] [] μ
noncomputable def f_Army_stands_23 (z : zZ) (d : Nat) (μ : Mu) : mR := g_Army_stands_23 (fun pc ls st μ => mE z d q_Army_stands pc ls st μ) μ
def g_Army_stands_24 (E : Nat → List zv → List zv → Mu → mR) (v100 : Int) (μ : Mu) : mR := E 24 [(9, 0), (9, 0)] [(0, v100)] μ
noncomputable def f_Army_stands_24 (z : zZ) (d : Nat) (v100 : Int) (μ : Mu) : mR := g_Army_stands_24 (fun pc ls st μ => mE z d q_Army_stands pc ls st μ) v100 μ
theorem k_Army_stands : zprK q_Army_stands.2.2.2 = true ∧ zinc q_Army_stands.2.2.2 = true := by decide +kernel
set_option maxRecDepth 100000 in
theorem c_Army_stands (z : zZ) (d : Nat) (o0 : Nat) (v1 : Int) (μ : Mu) (ho0 : o0 = 4 ∨ o0 = 13) : mC z (d + 1) 36 [(2, ((o0 : Nat) : Int)), (0, v1)] μ = (mC z d 37 [(2, ((o0 : Nat) : Int)), (0, v1)] μ).bind fun q1 => (bif decide (q1.1 = 0) then (f_Army_stands_23 z d q1.2) else ((mC z d 23 [(0, q1.2 o0 7), (0, v1)] q1.2).bind fun q2 => (bif decide (q2.1 = 0) then (f_Army_stands_23 z d q2.2) else (f_Army_stands_24 z d 1 q2.2)))) := by
  rw [mC_succ q_Army_stands rfl rfl rfl]
  rw [mE_bk (M := q_Army_stands) k_Army_stands.1 k_Army_stands.2 [23, 24] 400]
  have key : ∀ (C : Nat → List zv → Mu → mR) (E : Nat → List zv → List zv → Mu → mR), mbk C E q_Army_stands.1 q_Army_stands.2.1 z q_Army_stands.2.2.2 [23, 24] 400 (zfind q_Army_stands.2.2.2 0) (zentry q_Army_stands.2.2.1 [(2, ((o0 : Nat) : Int)), (0, v1)]) [] μ = (C 37 [(2, ((o0 : Nat) : Int)), (0, v1)] μ).bind fun q1 => (bif decide (q1.1 = 0) then (g_Army_stands_23 E q1.2) else ((C 23 [(0, q1.2 o0 7), (0, v1)] q1.2).bind fun q2 => (bif decide (q2.1 = 0) then (g_Army_stands_23 E q2.2) else (g_Army_stands_24 E 1 q2.2)))) := by
    intro C E
    rcases ho0 with rfl | rfl <;> (rfl)
  exact key _ _
set_option maxRecDepth 100000 in
theorem e_Army_stands_23 (z : zZ) (d : Nat) (μ : Mu) : f_Army_stands_23 z d μ = f_Army_stands_24 z d 0 μ := by
  show mE z d q_Army_stands 23 [(9, 0), (9, 0)] [] μ = _
  rw [mE_bk (M := q_Army_stands) k_Army_stands.1 k_Army_stands.2 [23, 24] 400]
  have key : ∀ (C : Nat → List zv → Mu → mR) (E : Nat → List zv → List zv → Mu → mR), mbk C E q_Army_stands.1 q_Army_stands.2.1 z q_Army_stands.2.2.2 [23, 24] 400 (zfind q_Army_stands.2.2.2 23) [(9, 0), (9, 0)] [] μ = g_Army_stands_24 E 0 μ := by
    intro C E
    rfl
  exact key _ _
set_option maxRecDepth 100000 in
theorem e_Army_stands_24 (z : zZ) (d : Nat) (v100 : Int) (μ : Mu) : f_Army_stands_24 z d v100 μ = g01 v100 (some (v100, μ)) := by
  show mE z d q_Army_stands 24 [(9, 0), (9, 0)] [(0, v100)] μ = _
  rw [mE_bk (M := q_Army_stands) k_Army_stands.1 k_Army_stands.2 [23, 24] 400]
  have key : ∀ (C : Nat → List zv → Mu → mR) (E : Nat → List zv → List zv → Mu → mR), mbk C E q_Army_stands.1 q_Army_stands.2.1 z q_Army_stands.2.2.2 [23, 24] 400 (zfind q_Army_stands.2.2.2 24) [(9, 0), (9, 0)] [(0, v100)] μ = g01 v100 (some (v100, μ)) := by
    intro C E
    rfl
  exact key _ _
