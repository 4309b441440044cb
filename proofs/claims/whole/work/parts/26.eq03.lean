def g_M_factOf_88 (E : Nat → List zv → List zv → Mu → mR) (μ : Mu) : mR := E 88 [(9, 0)] [] μ
noncomputable def f_M_factOf_88 (z : zZ) (d : Nat) (μ : Mu) : mR := g_M_factOf_88 (fun pc ls st μ => mE z d q_M_factOf pc ls st μ) μ
def g_M_factOf_90 (E : Nat → List zv → List zv → Mu → mR) (μ : Mu) : mR := E 90 [(9, 0)] [] μ
noncomputable def f_M_factOf_90 (z : zZ) (d : Nat) (μ : Mu) : mR := g_M_factOf_90 (fun pc ls st μ => mE z d q_M_factOf pc ls st μ) μ
def g_M_factOf_92 (E : Nat → List zv → List zv → Mu → mR) (μ : Mu) : mR := E 92 [(9, 0)] [] μ
noncomputable def f_M_factOf_92 (z : zZ) (d : Nat) (μ : Mu) : mR := g_M_factOf_92 (fun pc ls st μ => mE z d q_M_factOf pc ls st μ) μ
def g_M_factOf_94 (E : Nat → List zv → List zv → Mu → mR) (μ : Mu) : mR := E 94 [(9, 0)] [] μ
noncomputable def f_M_factOf_94 (z : zZ) (d : Nat) (μ : Mu) : mR := g_M_factOf_94 (fun pc ls st μ => mE z d q_M_factOf pc ls st μ) μ
def g_M_factOf_96 (E : Nat → List zv → List zv → Mu → mR) (μ : Mu) : mR := E 96 [(9, 0)] [] μ
noncomputable def f_M_factOf_96 (z : zZ) (d : Nat) (μ : Mu) : mR := g_M_factOf_96 (fun pc ls st μ => mE z d q_M_factOf pc ls st μ) μ
def g_M_factOf_98 (E : Nat → List zv → List zv → Mu → mR) (μ : Mu) : mR := E 98 [(9, 0)] [] μ
noncomputable def f_M_factOf_98 (z : zZ) (d : Nat) (μ : Mu) : mR := g_M_factOf_98 (fun pc ls st μ => mE z d q_M_factOf pc ls st μ) μ
def g_M_factOf_100 (E : Nat → List zv → List zv → Mu → mR) (μ : Mu) : mR := E 100 [(9, 0)] [] μ
noncomputable def f_M_factOf_100 (z : zZ) (d : Nat) (μ : Mu) : mR := g_M_factOf_100 (fun pc ls st μ => mE z d q_M_factOf pc ls st μ) μ
def g_M_factOf_103 (E : Nat → List zv → List zv → Mu → mR) (μ : Mu) : mR := E 103 [(9, 0)] [] μ
noncomputable def f_M_factOf_103 (z : zZ) (d : Nat) (μ : Mu) : mR := g_M_factOf_103 (fun pc ls st μ => mE z d q_M_factOf pc ls st μ) μ
def g_M_factOf_106 (E : Nat → List zv → List zv → Mu → mR) (μ : Mu) : mR := E 106 [(9, 0)] [] μ
noncomputable def f_M_factOf_106 (z : zZ) (d : Nat) (μ : Mu) : mR := g_M_factOf_106 (fun pc ls st μ => mE z d q_M_factOf pc ls st μ) μ
def g_M_factOf_109 (E : Nat → List zv → List zv → Mu → mR) (μ : Mu) : mR := E 109 [(9, 0)] [] μ
noncomputable def f_M_factOf_109 (z : zZ) (d : Nat) (μ : Mu) : mR := g_M_factOf_109 (fun pc ls st μ => mE z d q_M_factOf pc ls st μ) μ
def g_M_factOf_112 (E : Nat → List zv → List zv → Mu → mR) (μ : Mu) : mR := E 112 [(9, 0)] [] μ
noncomputable def f_M_factOf_112 (z : zZ) (d : Nat) (μ : Mu) : mR := g_M_factOf_112 (fun pc ls st μ => mE z d q_M_factOf pc ls st μ) μ
theorem k_M_factOf : zprK q_M_factOf.2.2.2 = true ∧ zinc q_M_factOf.2.2.2 = true := by decide +kernel
set_option maxRecDepth 100000 in
theorem c_M_factOf (z : zZ) (d : Nat) (v0 : Int) (μ : Mu) : mC z (d + 1) 217 [(0, v0)] μ = bif decide (v0 = 104) then (f_M_factOf_106 z d μ) else bif decide (v0 = 105) then (f_M_factOf_90 z d μ) else bif decide (v0 = 106) then (f_M_factOf_112 z d μ) else bif decide (v0 = 107) then (f_M_factOf_112 z d μ) else bif decide (v0 = 108) then (f_M_factOf_112 z d μ) else bif decide (v0 = 109) then (f_M_factOf_92 z d μ) else bif decide (v0 = 110) then (f_M_factOf_96 z d μ) else bif decide (v0 = 111) then (f_M_factOf_112 z d μ) else bif decide (v0 = 112) then (f_M_factOf_112 z d μ) else bif decide (v0 = 113) then (f_M_factOf_98 z d μ) else bif decide (v0 = 114) then (f_M_factOf_100 z d μ) else bif decide (v0 = 115) then (f_M_factOf_94 z d μ) else bif decide (v0 = 116) then (f_M_factOf_88 z d μ) else bif decide (v0 = 117) then (f_M_factOf_112 z d μ) else bif decide (v0 = 118) then (f_M_factOf_112 z d μ) else bif decide (v0 = 119) then (f_M_factOf_112 z d μ) else bif decide (v0 = 120) then (f_M_factOf_103 z d μ) else bif decide (v0 = 121) then (f_M_factOf_109 z d μ) else (f_M_factOf_112 z d μ) := by
  rw [mC_succ q_M_factOf rfl rfl rfl]
  rw [mE_bk (M := q_M_factOf) k_M_factOf.1 k_M_factOf.2 [88, 90, 92, 94, 96, 98, 100, 103, 106, 109, 112] 400]
  have key : ∀ (C : Nat → List zv → Mu → mR) (E : Nat → List zv → List zv → Mu → mR), mbk C E q_M_factOf.1 q_M_factOf.2.1 z q_M_factOf.2.2.2 [88, 90, 92, 94, 96, 98, 100, 103, 106, 109, 112] 400 (zfind q_M_factOf.2.2.2 0) (zentry q_M_factOf.2.2.1 [(0, v0)]) [] μ = bif decide (v0 = 104) then (g_M_factOf_106 E μ) else bif decide (v0 = 105) then (g_M_factOf_90 E μ) else bif decide (v0 = 106) then (g_M_factOf_112 E μ) else bif decide (v0 = 107) then (g_M_factOf_112 E μ) else bif decide (v0 = 108) then (g_M_factOf_112 E μ) else bif decide (v0 = 109) then (g_M_factOf_92 E μ) else bif decide (v0 = 110) then (g_M_factOf_96 E μ) else bif decide (v0 = 111) then (g_M_factOf_112 E μ) else bif decide (v0 = 112) then (g_M_factOf_112 E μ) else bif decide (v0 = 113) then (g_M_factOf_98 E μ) else bif decide (v0 = 114) then (g_M_factOf_100 E μ) else bif decide (v0 = 115) then (g_M_factOf_94 E μ) else bif decide (v0 = 116) then (g_M_factOf_88 E μ) else bif decide (v0 = 117) then (g_M_factOf_112 E μ) else bif decide (v0 = 118) then (g_M_factOf_112 E μ) else bif decide (v0 = 119) then (g_M_factOf_112 E μ) else bif decide (v0 = 120) then (g_M_factOf_103 E μ) else bif decide (v0 = 121) then (g_M_factOf_109 E μ) else (g_M_factOf_112 E μ) := by
    intro C E
    rfl
  exact key _ _
set_option maxRecDepth 100000 in
theorem e_M_factOf_106 (z : zZ) (d : Nat) (μ : Mu) : f_M_factOf_106 z d μ = some (8, μ) := by
  show mE z d q_M_factOf 106 [(9, 0)] [] μ = _
  rw [mE_bk (M := q_M_factOf) k_M_factOf.1 k_M_factOf.2 [88, 90, 92, 94, 96, 98, 100, 103, 106, 109, 112] 400]
  have key : ∀ (C : Nat → List zv → Mu → mR) (E : Nat → List zv → List zv → Mu → mR), mbk C E q_M_factOf.1 q_M_factOf.2.1 z q_M_factOf.2.2.2 [88, 90, 92, 94, 96, 98, 100, 103, 106, 109, 112] 400 (zfind q_M_factOf.2.2.2 106) [(9, 0)] [] μ = some (8, μ) := by
    intro C E
    rfl
  exact key _ _
set_option maxRecDepth 100000 in
theorem e_M_factOf_90 (z : zZ) (d : Nat) (μ : Mu) : f_M_factOf_90 z d μ = some (1, μ) := by
  show mE z d q_M_factOf 90 [(9, 0)] [] μ = _
  rw [mE_bk (M := q_M_factOf) k_M_factOf.1 k_M_factOf.2 [88, 90, 92, 94, 96, 98, 100, 103, 106, 109, 112] 400]
  have key : ∀ (C : Nat → List zv → Mu → mR) (E : Nat → List zv → List zv → Mu → mR), mbk C E q_M_factOf.1 q_M_factOf.2.1 z q_M_factOf.2.2.2 [88, 90, 92, 94, 96, 98, 100, 103, 106, 109, 112] 400 (zfind q_M_factOf.2.2.2 90) [(9, 0)] [] μ = some (1, μ) := by
    intro C E
    rfl
  exact key _ _
set_option maxRecDepth 100000 in
theorem e_M_factOf_112 (z : zZ) (d : Nat) (μ : Mu) : f_M_factOf_112 z d μ = some ((-1), μ) := by
  show mE z d q_M_factOf 112 [(9, 0)] [] μ = _
  rw [mE_bk (M := q_M_factOf) k_M_factOf.1 k_M_factOf.2 [88, 90, 92, 94, 96, 98, 100, 103, 106, 109, 112] 400]
  have key : ∀ (C : Nat → List zv → Mu → mR) (E : Nat → List zv → List zv → Mu → mR), mbk C E q_M_factOf.1 q_M_factOf.2.1 z q_M_factOf.2.2.2 [88, 90, 92, 94, 96, 98, 100, 103, 106, 109, 112] 400 (zfind q_M_factOf.2.2.2 112) [(9, 0)] [] μ = some ((-1), μ) := by
    intro C E
    rfl
  exact key _ _
set_option maxRecDepth 100000 in
theorem e_M_factOf_92 (z : zZ) (d : Nat) (μ : Mu) : f_M_factOf_92 z d μ = some (2, μ) := by
  show mE z d q_M_factOf 92 [(9, 0)] [] μ = _
  rw [mE_bk (M := q_M_factOf) k_M_factOf.1 k_M_factOf.2 [88, 90, 92, 94, 96, 98, 100, 103, 106, 109, 112] 400]
  have key : ∀ (C : Nat → List zv → Mu → mR) (E : Nat → List zv → List zv → Mu → mR), mbk C E q_M_factOf.1 q_M_factOf.2.1 z q_M_factOf.2.2.2 [88, 90, 92, 94, 96, 98, 100, 103, 106, 109, 112] 400 (zfind q_M_factOf.2.2.2 92) [(9, 0)] [] μ = some (2, μ) := by
    intro C E
    rfl
  exact key _ _
set_option maxRecDepth 100000 in
theorem e_M_factOf_96 (z : zZ) (d : Nat) (μ : Mu) : f_M_factOf_96 z d μ = some (4, μ) := by
  show mE z d q_M_factOf 96 [(9, 0)] [] μ = _
  rw [mE_bk (M := q_M_factOf) k_M_factOf.1 k_M_factOf.2 [88, 90, 92, 94, 96, 98, 100, 103, 106, 109, 112] 400]
  have key : ∀ (C : Nat → List zv → Mu → mR) (E : Nat → List zv → List zv → Mu → mR), mbk C E q_M_factOf.1 q_M_factOf.2.1 z q_M_factOf.2.2.2 [88, 90, 92, 94, 96, 98, 100, 103, 106, 109, 112] 400 (zfind q_M_factOf.2.2.2 96) [(9, 0)] [] μ = some (4, μ) := by
    intro C E
    rfl
  exact key _ _
set_option maxRecDepth 100000 in
theorem e_M_factOf_98 (z : zZ) (d : Nat) (μ : Mu) : f_M_factOf_98 z d μ = some (5, μ) := by
  show mE z d q_M_factOf 98 [(9, 0)] [] μ = _
  rw [mE_bk (M := q_M_factOf) k_M_factOf.1 k_M_factOf.2 [88, 90, 92, 94, 96, 98, 100, 103, 106, 109, 112] 400]
  have key : ∀ (C : Nat → List zv → Mu → mR) (E : Nat → List zv → List zv → Mu → mR), mbk C E q_M_factOf.1 q_M_factOf.2.1 z q_M_factOf.2.2.2 [88, 90, 92, 94, 96, 98, 100, 103, 106, 109, 112] 400 (zfind q_M_factOf.2.2.2 98) [(9, 0)] [] μ = some (5, μ) := by
    intro C E
    rfl
  exact key _ _
set_option maxRecDepth 100000 in
theorem e_M_factOf_100 (z : zZ) (d : Nat) (μ : Mu) : f_M_factOf_100 z d μ = some (6, μ) := by
  show mE z d q_M_factOf 100 [(9, 0)] [] μ = _
  rw [mE_bk (M := q_M_factOf) k_M_factOf.1 k_M_factOf.2 [88, 90, 92, 94, 96, 98, 100, 103, 106, 109, 112] 400]
  have key : ∀ (C : Nat → List zv → Mu → mR) (E : Nat → List zv → List zv → Mu → mR), mbk C E q_M_factOf.1 q_M_factOf.2.1 z q_M_factOf.2.2.2 [88, 90, 92, 94, 96, 98, 100, 103, 106, 109, 112] 400 (zfind q_M_factOf.2.2.2 100) [(9, 0)] [] μ = some (6, μ) := by
    intro C E
    rfl
  exact key _ _
set_option maxRecDepth 100000 in
theorem e_M_factOf_94 (z : zZ) (d : Nat) (μ : Mu) : f_M_factOf_94 z d μ = some (3, μ) := by
  show mE z d q_M_factOf 94 [(9, 0)] [] μ = _
  rw [mE_bk (M := q_M_factOf) k_M_factOf.1 k_M_factOf.2 [88, 90, 92, 94, 96, 98, 100, 103, 106, 109, 112] 400]
  have key : ∀ (C : Nat → List zv → Mu → mR) (E : Nat → List zv → List zv → Mu → mR), mbk C E q_M_factOf.1 q_M_factOf.2.1 z q_M_factOf.2.2.2 [88, 90, 92, 94, 96, 98, 100, 103, 106, 109, 112] 400 (zfind q_M_factOf.2.2.2 94) [(9, 0)] [] μ = some (3, μ) := by
    intro C E
    rfl
  exact key _ _
set_option maxRecDepth 100000 in
theorem e_M_factOf_88 (z : zZ) (d : Nat) (μ : Mu) : f_M_factOf_88 z d μ = some (0, μ) := by
  show mE z d q_M_factOf 88 [(9, 0)] [] μ = _
  rw [mE_bk (M := q_M_factOf) k_M_factOf.1 k_M_factOf.2 [88, 90, 92, 94, 96, 98, 100, 103, 106, 109, 112] 400]
  have key : ∀ (C : Nat → List zv → Mu → mR) (E : Nat → List zv → List zv → Mu → mR), mbk C E q_M_factOf.1 q_M_factOf.2.1 z q_M_factOf.2.2.2 [88, 90, 92, 94, 96, 98, 100, 103, 106, 109, 112] 400 (zfind q_M_factOf.2.2.2 88) [(9, 0)] [] μ = some (0, μ) := by
    intro C E
    rfl
  exact key _ _
set_option maxRecDepth 100000 in
theorem e_M_factOf_103 (z : zZ) (d : Nat) (μ : Mu) : f_M_factOf_103 z d μ = some (7, μ) := by
  show mE z d q_M_factOf 103 [(9, 0)] [] μ = _
  rw [mE_bk (M := q_M_factOf) k_M_factOf.1 k_M_factOf.2 [88, 90, 92, 94, 96, 98, 100, 103, 106, 109, 112] 400]
  have key : ∀ (C : Nat → List zv → Mu → mR) (E : Nat → List zv → List zv → Mu → mR), mbk C E q_M_factOf.1 q_M_factOf.2.1 z q_M_factOf.2.2.2 [88, 90, 92, 94, 96, 98, 100, 103, 106, 109, 112] 400 (zfind q_M_factOf.2.2.2 103) [(9, 0)] [] μ = some (7, μ) := by
    intro C E
    rfl
  exact key _ _
set_option maxRecDepth 100000 in
theorem e_M_factOf_109 (z : zZ) (d : Nat) (μ : Mu) : f_M_factOf_109 z d μ = some (9, μ) := by
  show mE z d q_M_factOf 109 [(9, 0)] [] μ = _
  rw [mE_bk (M := q_M_factOf) k_M_factOf.1 k_M_factOf.2 [88, 90, 92, 94, 96, 98, 100, 103, 106, 109, 112] 400]
  have key : ∀ (C : Nat → List zv → Mu → mR) (E : Nat → List zv → List zv → Mu → mR), mbk C E q_M_factOf.1 q_M_factOf.2.1 z q_M_factOf.2.2.2 [88, 90, 92, 94, 96, 98, 100, 103, 106, 109, 112] 400 (zfind q_M_factOf.2.2.2 109) [(9, 0)] [] μ = some (9, μ) := by
    intro C E
    rfl
  exact key _ _
def g_M_sumSign_52 (E : Nat → List zv → List zv → Mu → mR) (v100 : Int) (μ : Mu) : mR := E 52 [(9, 0)] [(0, v100)] μ
noncomputable def f_M_sumSign_52 (z : zZ) (d : Nat) (v100 : Int) (μ : Mu) : mR := g_M_sumSign_52 (fun pc ls st μ => mE z d q_M_sumSign pc ls st μ) v100 μ
theorem k_M_sumSign : zprK q_M_sumSign.2.2.2 = true ∧ zinc q_M_sumSign.2.2.2 = true := by decide +kernel
set_option maxRecDepth 100000 in
theorem c_M_sumSign (z : zZ) (d : Nat) (v0 : Int) (μ : Mu) : mC z (d + 1) 218 [(0, v0)] μ = bif !decide (v0 = 43) then (bif !decide (v0 = 45) then (bif !decide (v0 = 42) then (bif !decide (v0 = 47) then (bif !decide (v0 = 37) then (f_M_sumSign_52 z d ((-1)) μ) else (f_M_sumSign_52 z d 6 μ)) else (f_M_sumSign_52 z d 5 μ)) else (f_M_sumSign_52 z d 4 μ)) else (f_M_sumSign_52 z d 3 μ)) else (f_M_sumSign_52 z d 2 μ) := by
  rw [mC_succ q_M_sumSign rfl rfl rfl]
  rw [mE_bk (M := q_M_sumSign) k_M_sumSign.1 k_M_sumSign.2 [52] 400]
  have key : ∀ (C : Nat → List zv → Mu → mR) (E : Nat → List zv → List zv → Mu → mR), mbk C E q_M_sumSign.1 q_M_sumSign.2.1 z q_M_sumSign.2.2.2 [52] 400 (zfind q_M_sumSign.2.2.2 0) (zentry q_M_sumSign.2.2.1 [(0, v0)]) [] μ = bif !decide (v0 = 43) then (bif !decide (v0 = 45) then (bif !decide (v0 = 42) then (bif !decide (v0 = 47) then (bif !decide (v0 = 37) then (g_M_sumSign_52 E ((-1)) μ) else (g_M_sumSign_52 E 6 μ)) else (g_M_sumSign_52 E 5 μ)) else (g_M_sumSign_52 E 4 μ)) else (g_M_sumSign_52 E 3 μ)) else (g_M_sumSign_52 E 2 μ) := by
    intro C E
    rfl
  exact key _ _
set_option maxRecDepth 100000 in
theorem e_M_sumSign_52 (z : zZ) (d : Nat) (v100 : Int) (μ : Mu) : f_M_sumSign_52 z d v100 μ = some (v100, μ) := by
  show mE z d q_M_sumSign 52 [(9, 0)] [(0, v100)] μ = _
  rw [mE_bk (M := q_M_sumSign) k_M_sumSign.1 k_M_sumSign.2 [52] 400]
  have key : ∀ (C : Nat → List zv → Mu → mR) (E : Nat → List zv → List zv → Mu → mR), mbk C E q_M_sumSign.1 q_M_sumSign.2.1 z q_M_sumSign.2.2.2 [52] 400 (zfind q_M_sumSign.2.2.2 52) [(9, 0)] [(0, v100)] μ = some (v100, μ) := by
    intro C E
    rfl
  exact key _ _
def g_M_closesSums_0 (E : Nat → List zv → List zv → Mu → mR) (v1 : Int) (μ : Mu) : mR := E 0 [(2, 86), (0, v1)] [] μ
noncomputable def f_M_closesSums_0 (z : zZ) (d : Nat) (v1 : Int) (μ : Mu) : mR := g_M_closesSums_0 (fun pc ls st μ => mE z d q_M_closesSums pc ls st μ) v1 μ
def g_M_closesSums_17 (E : Nat → List zv → List zv → Mu → mR) (v1 : Int) (μ : Mu) : mR := E 17 [(2, 86), (0, v1)] [] μ
noncomputable def f_M_closesSums_17 (z : zZ) (d : Nat) (v1 : Int) (μ : Mu) : mR := g_M_closesSums_17 (fun pc ls st μ => mE z d q_M_closesSums pc ls st μ) v1 μ
def g_M_closesSums_37 (E : Nat → List zv → List zv → Mu → mR) (v1 : Int) (μ : Mu) : mR := E 37 [(2, 86), (0, v1)] [] μ
noncomputable def f_M_closesSums_37 (z : zZ) (d : Nat) (v1 : Int) (μ : Mu) : mR := g_M_closesSums_37 (fun pc ls st μ => mE z d q_M_closesSums pc ls st μ) v1 μ
def g_M_closesSums_59 (E : Nat → List zv → List zv → Mu → mR) (μ : Mu) : mR := E 59 [(9, 0), (9, 0)] [] μ
noncomputable def f_M_closesSums_59 (z : zZ) (d : Nat) (μ : Mu) : mR := g_M_closesSums_59 (fun pc ls st μ => mE z d q_M_closesSums pc ls st μ) μ
theorem k_M_closesSums : zprK q_M_closesSums.2.2.2 = true ∧ zinc q_M_closesSums.2.2.2 = true := by decide +kernel
set_option maxRecDepth 100000 in
theorem c_M_closesSums (z : zZ) (d : Nat) (v1 : Int) (μ : Mu) : mC z (d + 1) 219 [(2, 86), (0, v1)] μ = (mC z d 220 [(2, 86)] μ).bind fun q1 => (bif decide (q1.1 < 4) then (f_M_closesSums_17 z d v1 q1.2) else ((mC z d 220 [(2, 86)] q1.2).bind fun q2 => (bif decide (q2.1 ≤ 6) then (f_M_closesSums_37 z d v1 q2.2) else (f_M_closesSums_17 z d v1 q2.2)))) := by
  rw [mC_succ q_M_closesSums rfl rfl rfl]
  rw [mE_bk (M := q_M_closesSums) k_M_closesSums.1 k_M_closesSums.2 [0, 17, 37, 59] 400]
  have key : ∀ (C : Nat → List zv → Mu → mR) (E : Nat → List zv → List zv → Mu → mR), mbk C E q_M_closesSums.1 q_M_closesSums.2.1 z q_M_closesSums.2.2.2 [0, 17, 37, 59] 400 (zfind q_M_closesSums.2.2.2 0) (zentry q_M_closesSums.2.2.1 [(2, 86), (0, v1)]) [] μ = (C 220 [(2, 86)] μ).bind fun q1 => (bif decide (q1.1 < 4) then (g_M_closesSums_17 E v1 q1.2) else ((C 220 [(2, 86)] q1.2).bind fun q2 => (bif decide (q2.1 ≤ 6) then (g_M_closesSums_37 E v1 q2.2) else (g_M_closesSums_17 E v1 q2.2)))) := by
    intro C E
    rfl
  exact key _ _
set_option maxRecDepth 100000 in
theorem e_M_closesSums_17 (z : zZ) (d : Nat) (v1 : Int) (μ : Mu) : f_M_closesSums_17 z d v1 μ = bif decide (v1 = 0) then (f_M_closesSums_59 z d μ) else ((mC z d 220 [(2, 86)] μ).bind fun q1 => (bif decide (q1.1 = 2) then (f_M_closesSums_37 z d v1 q1.2) else ((mC z d 220 [(2, 86)] q1.2).bind fun q2 => (bif !decide (q2.1 = 3) then (f_M_closesSums_59 z d q2.2) else (f_M_closesSums_37 z d v1 q2.2))))) := by
  show mE z d q_M_closesSums 17 [(2, 86), (0, v1)] [] μ = _
  rw [mE_bk (M := q_M_closesSums) k_M_closesSums.1 k_M_closesSums.2 [0, 17, 37, 59] 400]
  have key : ∀ (C : Nat → List zv → Mu → mR) (E : Nat → List zv → List zv → Mu → mR), mbk C E q_M_closesSums.1 q_M_closesSums.2.1 z q_M_closesSums.2.2.2 [0, 17, 37, 59] 400 (zfind q_M_closesSums.2.2.2 17) [(2, 86), (0, v1)] [] μ = bif decide (v1 = 0) then (g_M_closesSums_59 E μ) else ((C 220 [(2, 86)] μ).bind fun q1 => (bif decide (q1.1 = 2) then (g_M_closesSums_37 E v1 q1.2) else ((C 220 [(2, 86)] q1.2).bind fun q2 => (bif !decide (q2.1 = 3) then (g_M_closesSums_59 E q2.2) else (g_M_closesSums_37 E v1 q2.2))))) := by
    intro C E
    rfl
  exact key _ _
set_option maxRecDepth 100000 in
theorem e_M_closesSums_37 (z : zZ) (d : Nat) (v1 : Int) (μ : Mu) : f_M_closesSums_37 z d v1 μ = (mC z d 220 [(2, 86)] μ).bind fun q1 => ((mC z d 216 [(2, 86), (0, q1.1), (0, 0)] q1.2).bind fun q2 => (f_M_closesSums_0 z d v1 (zup q2.2 86 25 (zw ((q2.2 86 25) - 1))))) := by
  show mE z d q_M_closesSums 37 [(2, 86), (0, v1)] [] μ = _
  rw [mE_bk (M := q_M_closesSums) k_M_closesSums.1 k_M_closesSums.2 [0, 17, 37, 59] 400]
  have key : ∀ (C : Nat → List zv → Mu → mR) (E : Nat → List zv → List zv → Mu → mR), mbk C E q_M_closesSums.1 q_M_closesSums.2.1 z q_M_closesSums.2.2.2 [0, 17, 37, 59] 400 (zfind q_M_closesSums.2.2.2 37) [(2, 86), (0, v1)] [] μ = (C 220 [(2, 86)] μ).bind fun q1 => ((C 216 [(2, 86), (0, q1.1), (0, 0)] q1.2).bind fun q2 => (g_M_closesSums_0 E v1 (zup q2.2 86 25 (zw ((q2.2 86 25) - 1))))) := by
    intro C E
    rfl
  exact key _ _
set_option maxRecDepth 100000 in
theorem e_M_closesSums_59 (z : zZ) (d : Nat) (μ : Mu) : f_M_closesSums_59 z d μ = some (0, μ) := by
  show mE z d q_M_closesSums 59 [(9, 0), (9, 0)] [] μ = _
  rw [mE_bk (M := q_M_closesSums) k_M_closesSums.1 k_M_closesSums.2 [0, 17, 37, 59] 400]
  have key : ∀ (C : Nat → List zv → Mu → mR) (E : Nat → List zv → List zv → Mu → mR), mbk C E q_M_closesSums.1 q_M_closesSums.2.1 z q_M_closesSums.2.2.2 [0, 17, 37, 59] 400 (zfind q_M_closesSums.2.2.2 59) [(9, 0), (9, 0)] [] μ = some (0, μ) := by
    intro C E
    rfl
  exact key _ _
set_option maxRecDepth 100000 in
theorem e_M_closesSums_0 (z : zZ) (d : Nat) (v1 : Int) (μ : Mu) : f_M_closesSums_0 z d v1 μ = (mC z d 220 [(2, 86)] μ).bind fun q1 => (bif decide (q1.1 < 4) then (f_M_closesSums_17 z d v1 q1.2) else ((mC z d 220 [(2, 86)] q1.2).bind fun q2 => (bif decide (q2.1 ≤ 6) then (f_M_closesSums_37 z d v1 q2.2) else (f_M_closesSums_17 z d v1 q2.2)))) := by
  show mE z d q_M_closesSums 0 [(2, 86), (0, v1)] [] μ = _
  rw [mE_bk (M := q_M_closesSums) k_M_closesSums.1 k_M_closesSums.2 [0, 17, 37, 59] 400]
  have key : ∀ (C : Nat → List zv → Mu → mR) (E : Nat → List zv → List zv → Mu → mR), mbk C E q_M_closesSums.1 q_M_closesSums.2.1 z q_M_closesSums.2.2.2 [0, 17, 37, 59] 400 (zfind q_M_closesSums.2.2.2 0) [(2, 86), (0, v1)] [] μ = (C 220 [(2, 86)] μ).bind fun q1 => (bif decide (q1.1 < 4) then (g_M_closesSums_17 E v1 q1.2) else ((C 220 [(2, 86)] q1.2).bind fun q2 => (bif decide (q2.1 ≤ 6) then (g_M_closesSums_37 E v1 q2.2) else (g_M_closesSums_17 E v1 q2.2)))) := by
    intro C E
    rfl
  exact key _ _
def g_M_waitTop_26 (E : Nat → List zv → List zv → Mu → mR) (v100 : Int) (μ : Mu) : mR := E 26 [(9, 0)] [(0, v100)] μ
noncomputable def f_M_waitTop_26 (z : zZ) (d : Nat) (v100 : Int) (μ : Mu) : mR := g_M_waitTop_26 (fun pc ls st μ => mE z d q_M_waitTop pc ls st μ) v100 μ
theorem k_M_waitTop : zprK q_M_waitTop.2.2.2 = true ∧ zinc q_M_waitTop.2.2.2 = true := by decide +kernel
set_option maxRecDepth 100000 in
theorem c_M_waitTop (z : zZ) (d : Nat) (μ : Mu) : mC z (d + 1) 220 [(2, 86)] μ = bif !decide (μ 86 25 = 0) then (gI (zw ((μ 86 25) - 1)) 220 (f_M_waitTop_26 z d (z_div (μ 99 ((zw ((μ 86 25) - 1)).toNat)) 1048576) μ)) else (f_M_waitTop_26 z d ((-1)) μ) := by
  rw [mC_succ q_M_waitTop rfl rfl rfl]
  rw [mE_bk (M := q_M_waitTop) k_M_waitTop.1 k_M_waitTop.2 [26] 400]
  have key : ∀ (C : Nat → List zv → Mu → mR) (E : Nat → List zv → List zv → Mu → mR), mbk C E q_M_waitTop.1 q_M_waitTop.2.1 z q_M_waitTop.2.2.2 [26] 400 (zfind q_M_waitTop.2.2.2 0) (zentry q_M_waitTop.2.2.1 [(2, 86)]) [] μ = bif !decide (μ 86 25 = 0) then (gI (zw ((μ 86 25) - 1)) 220 (g_M_waitTop_26 E (z_div (μ 99 ((zw ((μ 86 25) - 1)).toNat)) 1048576) μ)) else (g_M_waitTop_26 E ((-1)) μ) := by
    intro C E
    rfl
  exact key _ _
set_option maxRecDepth 100000 in
theorem e_M_waitTop_26 (z : zZ) (d : Nat) (v100 : Int) (μ : Mu) : f_M_waitTop_26 z d v100 μ = some (v100, μ) := by
  show mE z d q_M_waitTop 26 [(9, 0)] [(0, v100)] μ = _
  rw [mE_bk (M := q_M_waitTop) k_M_waitTop.1 k_M_waitTop.2 [26] 400]
  have key : ∀ (C : Nat → List zv → Mu → mR) (E : Nat → List zv → List zv → Mu → mR), mbk C E q_M_waitTop.1 q_M_waitTop.2.1 z q_M_waitTop.2.2.2 [26] 400 (zfind q_M_waitTop.2.2.2 26) [(9, 0)] [(0, v100)] μ = some (v100, μ) := by
    intro C E
    rfl
  exact key _ _
def g_M_hasOpenSum_2 (E : Nat → List zv → List zv → Mu → mR) (v2 : Int) (μ : Mu) : mR := E 2 [(2, 86), (9, 0), (0, v2)] [] μ
noncomputable def f_M_hasOpenSum_2 (z : zZ) (d : Nat) (v2 : Int) (μ : Mu) : mR := g_M_hasOpenSum_2 (fun pc ls st μ => mE z d q_M_hasOpenSum pc ls st μ) v2 μ
theorem k_M_hasOpenSum : zprK q_M_hasOpenSum.2.2.2 = true ∧ zinc q_M_hasOpenSum.2.2.2 = true := by decide +kernel
set_option maxRecDepth 100000 in
theorem c_M_hasOpenSum (z : zZ) (d : Nat) (v1 : Int) (μ : Mu) : mC z (d + 1) 221 [(2, 86), (0, v1)] μ = f_M_hasOpenSum_2 z d v1 μ := by
  rw [mC_succ q_M_hasOpenSum rfl rfl rfl]
  rw [mE_bk (M := q_M_hasOpenSum) k_M_hasOpenSum.1 k_M_hasOpenSum.2 [2] 400]
  have key : ∀ (C : Nat → List zv → Mu → mR) (E : Nat → List zv → List zv → Mu → mR), mbk C E q_M_hasOpenSum.1 q_M_hasOpenSum.2.1 z q_M_hasOpenSum.2.2.2 [2] 400 (zfind q_M_hasOpenSum.2.2.2 0) (zentry q_M_hasOpenSum.2.2.1 [(2, 86), (0, v1)]) [] μ = g_M_hasOpenSum_2 E v1 μ := by
    intro C E
    rfl
  exact key _ _
set_option maxRecDepth 100000 in
theorem e_M_hasOpenSum_2 (z : zZ) (d : Nat) (v2 : Int) (μ : Mu) : f_M_hasOpenSum_2 z d v2 μ = bif decide (μ 86 25 ≤ v2) then (some (0, μ)) else (gI v2 220 (bif !decide (z_div (μ 99 v2.toNat) 1048576 = 14) then (f_M_hasOpenSum_2 z d (zw (v2 + 1)) μ) else (some (1, μ)))) := by
  show mE z d q_M_hasOpenSum 2 [(2, 86), (9, 0), (0, v2)] [] μ = _
  rw [mE_bk (M := q_M_hasOpenSum) k_M_hasOpenSum.1 k_M_hasOpenSum.2 [2] 400]
  have key : ∀ (C : Nat → List zv → Mu → mR) (E : Nat → List zv → List zv → Mu → mR), mbk C E q_M_hasOpenSum.1 q_M_hasOpenSum.2.1 z q_M_hasOpenSum.2.2.2 [2] 400 (zfind q_M_hasOpenSum.2.2.2 2) [(2, 86), (9, 0), (0, v2)] [] μ = bif decide (μ 86 25 ≤ v2) then (some (0, μ)) else (gI v2 220 (bif !decide (z_div (μ 99 v2.toNat) 1048576 = 14) then (g_M_hasOpenSum_2 E (zw (v2 + 1)) μ) else (some (1, μ)))) := by
    intro C E
    rfl
  exact key _ _
def g_M_readsCondition_40 (E : Nat → List zv → List zv → Mu → mR) (μ : Mu) : mR := E 40 [(2, 86)] [] μ
noncomputable def f_M_readsCondition_40 (z : zZ) (d : Nat) (μ : Mu) : mR := g_M_readsCondition_40 (fun pc ls st μ => mE z d q_M_readsCondition pc ls st μ) μ
def g_M_readsCondition_58 (E : Nat → List zv → List zv → Mu → mR) (μ : Mu) : mR := E 58 [(2, 86)] [] μ
noncomputable def f_M_readsCondition_58 (z : zZ) (d : Nat) (μ : Mu) : mR := g_M_readsCondition_58 (fun pc ls st μ => mE z d q_M_readsCondition pc ls st μ) μ
def g_M_readsCondition_75 (E : Nat → List zv → List zv → Mu → mR) (v101 : Int) (μ : Mu) : mR := E 75 [(2, 86)] [(0, v101), (2, 86)] μ
noncomputable def f_M_readsCondition_75 (z : zZ) (d : Nat) (v101 : Int) (μ : Mu) : mR := g_M_readsCondition_75 (fun pc ls st μ => mE z d q_M_readsCondition pc ls st μ) v101 μ
def g_M_readsCondition_92 (E : Nat → List zv → List zv → Mu → mR) (μ : Mu) : mR := E 92 [(2, 86)] [] μ
noncomputable def f_M_readsCondition_92 (z : zZ) (d : Nat) (μ : Mu) : mR := g_M_readsCondition_92 (fun pc ls st μ => mE z d q_M_readsCondition pc ls st μ) μ
def g_M_readsCondition_180 (E : Nat → List zv → List zv → Mu → mR) (μ : Mu) : mR := E 180 [(2, 86)] [] μ
noncomputable def f_M_readsCondition_180 (z : zZ) (d : Nat) (μ : Mu) : mR := g_M_readsCondition_180 (fun pc ls st μ => mE z d q_M_readsCondition pc ls st μ) μ
def g_M_readsCondition_195 (E : Nat → List zv → List zv → Mu → mR) (v101 : Int) (μ : Mu) : mR := E 195 [(2, 86)] [(0, v101), (2, 86)] μ
noncomputable def f_M_readsCondition_195 (z : zZ) (d : Nat) (v101 : Int) (μ : Mu) : mR := g_M_readsCondition_195 (fun pc ls st μ => mE z d q_M_readsCondition pc ls st μ) v101 μ
def g_M_readsCondition_215 (E : Nat → List zv → List zv → Mu → mR) (v101 : Int) (μ : Mu) : mR := E 215 [(2, 86)] [(0, v101), (2, 86)] μ
noncomputable def f_M_readsCondition_215 (z : zZ) (d : Nat) (v101 : Int) (μ : Mu) : mR := g_M_readsCondition_215 (fun pc ls st μ => mE z d q_M_readsCondition pc ls st μ) v101 μ
theorem k_M_readsCondition : zprK q_M_readsCondition.2.2.2 = true ∧ zinc q_M_readsCondition.2.2.2 = true := by decide +kernel
set_option maxRecDepth 100000 in
theorem c_M_readsCondition (z : zZ) (d : Nat) (μ : Mu) : mC z (d + 1) 222 [(2, 86)] μ = (mC z d 193 [(2, 86)] μ).bind fun q1 => (bif decide (q1.1 = 40) then ((mC z d 213 [(2, 86), (0, 13)] (zup (zup q1.2 86 23 0) 86 25 0)).bind fun q2 => (bif !decide (q2.1 = 0) then (f_M_readsCondition_40 z d q2.2) else (some (0, q2.2)))) else ((mC z d 194 [(2, 86), (0, 1), (0, q1.2 86 10)] q1.2).bind fun q3 => (g01 q3.1 (some (q3.1, q3.2))))) := by
  rw [mC_succ q_M_readsCondition rfl rfl rfl]
  rw [mE_bk (M := q_M_readsCondition) k_M_readsCondition.1 k_M_readsCondition.2 [40, 58, 75, 92, 180, 195, 215] 400]
  have key : ∀ (C : Nat → List zv → Mu → mR) (E : Nat → List zv → List zv → Mu → mR), mbk C E q_M_readsCondition.1 q_M_readsCondition.2.1 z q_M_readsCondition.2.2.2 [40, 58, 75, 92, 180, 195, 215] 400 (zfind q_M_readsCondition.2.2.2 0) (zentry q_M_readsCondition.2.2.1 [(2, 86)]) [] μ = (C 193 [(2, 86)] μ).bind fun q1 => (bif decide (q1.1 = 40) then ((C 213 [(2, 86), (0, 13)] (zup (zup q1.2 86 23 0) 86 25 0)).bind fun q2 => (bif !decide (q2.1 = 0) then (g_M_readsCondition_40 E q2.2) else (some (0, q2.2)))) else ((C 194 [(2, 86), (0, 1), (0, q1.2 86 10)] q1.2).bind fun q3 => (g01 q3.1 (some (q3.1, q3.2))))) := by
    intro C E
    rfl
  exact key _ _
set_option maxRecDepth 100000 in
theorem e_M_readsCondition_40 (z : zZ) (d : Nat) (μ : Mu) : f_M_readsCondition_40 z d μ = (mC z d 193 [(2, 86)] μ).bind fun q1 => (bif decide (q1.1 = 33) then (f_M_readsCondition_58 z d q1.2) else ((mC z d 193 [(2, 86)] q1.2).bind fun q2 => (bif !decide (q2.1 = 40) then ((mC z d 223 [(2, 86)] q2.2).bind fun q3 => (bif !decide (q3.1 = 0) then (f_M_readsCondition_92 z d q3.2) else (some (0, q3.2)))) else (f_M_readsCondition_58 z d q2.2)))) := by
  show mE z d q_M_readsCondition 40 [(2, 86)] [] μ = _
  rw [mE_bk (M := q_M_readsCondition) k_M_readsCondition.1 k_M_readsCondition.2 [40, 58, 75, 92, 180, 195, 215] 400]
  have key : ∀ (C : Nat → List zv → Mu → mR) (E : Nat → List zv → List zv → Mu → mR), mbk C E q_M_readsCondition.1 q_M_readsCondition.2.1 z q_M_readsCondition.2.2.2 [40, 58, 75, 92, 180, 195, 215] 400 (zfind q_M_readsCondition.2.2.2 40) [(2, 86)] [] μ = (C 193 [(2, 86)] μ).bind fun q1 => (bif decide (q1.1 = 33) then (g_M_readsCondition_58 E q1.2) else ((C 193 [(2, 86)] q1.2).bind fun q2 => (bif !decide (q2.1 = 40) then ((C 223 [(2, 86)] q2.2).bind fun q3 => (bif !decide (q3.1 = 0) then (g_M_readsCondition_92 E q3.2) else (some (0, q3.2)))) else (g_M_readsCondition_58 E q2.2)))) := by
    intro C E
    rfl
  exact key _ _
set_option maxRecDepth 100000 in
theorem e_M_readsCondition_58 (z : zZ) (d : Nat) (μ : Mu) : f_M_readsCondition_58 z d μ = (mC z d 193 [(2, 86)] μ).bind fun q1 => (bif !decide (q1.1 = 33) then (f_M_readsCondition_75 z d 13 q1.2) else (f_M_readsCondition_75 z d 10 q1.2)) := by
  show mE z d q_M_readsCondition 58 [(2, 86)] [] μ = _
  rw [mE_bk (M := q_M_readsCondition) k_M_readsCondition.1 k_M_readsCondition.2 [40, 58, 75, 92, 180, 195, 215] 400]
  have key : ∀ (C : Nat → List zv → Mu → mR) (E : Nat → List zv → List zv → Mu → mR), mbk C E q_M_readsCondition.1 q_M_readsCondition.2.1 z q_M_readsCondition.2.2.2 [40, 58, 75, 92, 180, 195, 215] 400 (zfind q_M_readsCondition.2.2.2 58) [(2, 86)] [] μ = (C 193 [(2, 86)] μ).bind fun q1 => (bif !decide (q1.1 = 33) then (g_M_readsCondition_75 E 13 q1.2) else (g_M_readsCondition_75 E 10 q1.2)) := by
    intro C E
    rfl
  exact key _ _
set_option maxRecDepth 100000 in
theorem e_M_readsCondition_92 (z : zZ) (d : Nat) (μ : Mu) : f_M_readsCondition_92 z d μ = (mC z d 193 [(2, 86)] μ).bind fun q1 => (bif !decide (q1.1 = 41) then ((mC z d 193 [(2, 86)] q1.2).bind fun q2 => (bif decide (q2.1 = 38) then (f_M_readsCondition_180 z d q2.2) else ((mC z d 193 [(2, 86)] q2.2).bind fun q3 => (bif decide (q3.1 = 124) then (f_M_readsCondition_180 z d q3.2) else ((mC z d 194 [(2, 86), (0, 1), (0, q3.2 86 10)] q3.2).bind fun q4 => (g01 q4.1 (some (q4.1, q4.2)))))))) else ((mC z d 225 [(2, 86), (0, 1)] q1.2).bind fun q5 => (bif !decide (zw ((q5.2 86 25) - 1) = 0) then ((mC z d 224 [(2, 86)] (zup (zup (zup q5.2 86 25 (zw ((q5.2 86 25) - 1))) 86 23 (zw ((q5.2 86 23) - 1))) 86 10 (zw ((q5.2 86 10) + 1)))).bind fun q6 => (f_M_readsCondition_92 z d q6.2)) else (some (1, zup (zup (zup q5.2 86 25 (zw ((q5.2 86 25) - 1))) 86 23 (zw ((q5.2 86 23) - 1))) 86 10 (zw ((q5.2 86 10) + 1))))))) := by
  show mE z d q_M_readsCondition 92 [(2, 86)] [] μ = _
  rw [mE_bk (M := q_M_readsCondition) k_M_readsCondition.1 k_M_readsCondition.2 [40, 58, 75, 92, 180, 195, 215] 400]
  have key : ∀ (C : Nat → List zv → Mu → mR) (E : Nat → List zv → List zv → Mu → mR), mbk C E q_M_readsCondition.1 q_M_readsCondition.2.1 z q_M_readsCondition.2.2.2 [40, 58, 75, 92, 180, 195, 215] 400 (zfind q_M_readsCondition.2.2.2 92) [(2, 86)] [] μ = (C 193 [(2, 86)] μ).bind fun q1 => (bif !decide (q1.1 = 41) then ((C 193 [(2, 86)] q1.2).bind fun q2 => (bif decide (q2.1 = 38) then (g_M_readsCondition_180 E q2.2) else ((C 193 [(2, 86)] q2.2).bind fun q3 => (bif decide (q3.1 = 124) then (g_M_readsCondition_180 E q3.2) else ((C 194 [(2, 86), (0, 1), (0, q3.2 86 10)] q3.2).bind fun q4 => (g01 q4.1 (some (q4.1, q4.2)))))))) else ((C 225 [(2, 86), (0, 1)] q1.2).bind fun q5 => (bif !decide (zw ((q5.2 86 25) - 1) = 0) then ((C 224 [(2, 86)] (zup (zup (zup q5.2 86 25 (zw ((q5.2 86 25) - 1))) 86 23 (zw ((q5.2 86 23) - 1))) 86 10 (zw ((q5.2 86 10) + 1)))).bind fun q6 => (g_M_readsCondition_92 E q6.2)) else (some (1, zup (zup (zup q5.2 86 25 (zw ((q5.2 86 25) - 1))) 86 23 (zw ((q5.2 86 23) - 1))) 86 10 (zw ((q5.2 86 10) + 1))))))) := by
    intro C E
    rfl
  exact key _ _
set_option maxRecDepth 100000 in
theorem e_M_readsCondition_75 (z : zZ) (d : Nat) (v101 : Int) (μ : Mu) : f_M_readsCondition_75 z d v101 μ = (mC z d 213 [(2, 86), (0, v101)] μ).bind fun q1 => (bif !decide (q1.1 = 0) then (f_M_readsCondition_40 z d q1.2) else (some (0, q1.2))) := by
  show mE z d q_M_readsCondition 75 [(2, 86)] [(0, v101), (2, 86)] μ = _
  rw [mE_bk (M := q_M_readsCondition) k_M_readsCondition.1 k_M_readsCondition.2 [40, 58, 75, 92, 180, 195, 215] 400]
  have key : ∀ (C : Nat → List zv → Mu → mR) (E : Nat → List zv → List zv → Mu → mR), mbk C E q_M_readsCondition.1 q_M_readsCondition.2.1 z q_M_readsCondition.2.2.2 [40, 58, 75, 92, 180, 195, 215] 400 (zfind q_M_readsCondition.2.2.2 75) [(2, 86)] [(0, v101), (2, 86)] μ = (C 213 [(2, 86), (0, v101)] μ).bind fun q1 => (bif !decide (q1.1 = 0) then (g_M_readsCondition_40 E q1.2) else (some (0, q1.2))) := by
    intro C E
    rfl
  exact key _ _
set_option maxRecDepth 100000 in
theorem e_M_readsCondition_180 (z : zZ) (d : Nat) (μ : Mu) : f_M_readsCondition_180 z d μ = (mC z d 193 [(2, 86)] μ).bind fun q1 => (bif !decide (q1.1 = 124) then (f_M_readsCondition_195 z d 0 q1.2) else (f_M_readsCondition_195 z d 1 q1.2)) := by
  show mE z d q_M_readsCondition 180 [(2, 86)] [] μ = _
  rw [mE_bk (M := q_M_readsCondition) k_M_readsCondition.1 k_M_readsCondition.2 [40, 58, 75, 92, 180, 195, 215] 400]
  have key : ∀ (C : Nat → List zv → Mu → mR) (E : Nat → List zv → List zv → Mu → mR), mbk C E q_M_readsCondition.1 q_M_readsCondition.2.1 z q_M_readsCondition.2.2.2 [40, 58, 75, 92, 180, 195, 215] 400 (zfind q_M_readsCondition.2.2.2 180) [(2, 86)] [] μ = (C 193 [(2, 86)] μ).bind fun q1 => (bif !decide (q1.1 = 124) then (g_M_readsCondition_195 E 0 q1.2) else (g_M_readsCondition_195 E 1 q1.2)) := by
    intro C E
    rfl
  exact key _ _
set_option maxRecDepth 100000 in
theorem e_M_readsCondition_195 (z : zZ) (d : Nat) (v101 : Int) (μ : Mu) : f_M_readsCondition_195 z d v101 μ = (mC z d 225 [(2, 86), (0, v101)] μ).bind fun q1 => ((mC z d 193 [(2, 86)] q1.2).bind fun q2 => (bif !decide (q2.1 = 38) then (f_M_readsCondition_215 z d 12 q2.2) else (f_M_readsCondition_215 z d 11 q2.2))) := by
  show mE z d q_M_readsCondition 195 [(2, 86)] [(0, v101), (2, 86)] μ = _
  rw [mE_bk (M := q_M_readsCondition) k_M_readsCondition.1 k_M_readsCondition.2 [40, 58, 75, 92, 180, 195, 215] 400]
  have key : ∀ (C : Nat → List zv → Mu → mR) (E : Nat → List zv → List zv → Mu → mR), mbk C E q_M_readsCondition.1 q_M_readsCondition.2.1 z q_M_readsCondition.2.2.2 [40, 58, 75, 92, 180, 195, 215] 400 (zfind q_M_readsCondition.2.2.2 195) [(2, 86)] [(0, v101), (2, 86)] μ = (C 225 [(2, 86), (0, v101)] μ).bind fun q1 => ((C 193 [(2, 86)] q1.2).bind fun q2 => (bif !decide (q2.1 = 38) then (g_M_readsCondition_215 E 12 q2.2) else (g_M_readsCondition_215 E 11 q2.2))) := by
    intro C E
    rfl
  exact key _ _
set_option maxRecDepth 100000 in
theorem e_M_readsCondition_215 (z : zZ) (d : Nat) (v101 : Int) (μ : Mu) : f_M_readsCondition_215 z d v101 μ = (mC z d 226 [(2, 86), (0, v101)] μ).bind fun q1 => (f_M_readsCondition_40 z d q1.2) := by
  show mE z d q_M_readsCondition 215 [(2, 86)] [(0, v101), (2, 86)] μ = _
  rw [mE_bk (M := q_M_readsCondition) k_M_readsCondition.1 k_M_readsCondition.2 [40, 58, 75, 92, 180, 195, 215] 400]
  have key : ∀ (C : Nat → List zv → Mu → mR) (E : Nat → List zv → List zv → Mu → mR), mbk C E q_M_readsCondition.1 q_M_readsCondition.2.1 z q_M_readsCondition.2.2.2 [40, 58, 75, 92, 180, 195, 215] 400 (zfind q_M_readsCondition.2.2.2 215) [(2, 86)] [(0, v101), (2, 86)] μ = (C 226 [(2, 86), (0, v101)] μ).bind fun q1 => (g_M_readsCondition_40 E q1.2) := by
    intro C E
    rfl
  exact key _ _
