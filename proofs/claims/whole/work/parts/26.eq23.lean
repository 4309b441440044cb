def g_W_orders_19 (E : Nat → List zv → List zv → Mu → mR) (v1 : Int) (v4 : Int) (v5 : Int) (μ : Mu) : mR := E 19 [(2, 0), (0, v1), (9, 0), (9, 0), (0, v4), (0, v5)] [] μ
noncomputable def f_W_orders_19 (z : zZ) (d : Nat) (v1 : Int) (v4 : Int) (v5 : Int) (μ : Mu) : mR := g_W_orders_19 (fun pc ls st μ => mE z d q_W_orders pc ls st μ) v1 v4 v5 μ
def g_W_orders_44 (E : Nat → List zv → List zv → Mu → mR) (v1 : Int) (v4 : Int) (v5 : Int) (μ : Mu) : mR := E 44 [(2, 0), (0, v1), (9, 0), (9, 0), (0, v4), (0, v5)] [] μ
noncomputable def f_W_orders_44 (z : zZ) (d : Nat) (v1 : Int) (v4 : Int) (v5 : Int) (μ : Mu) : mR := g_W_orders_44 (fun pc ls st μ => mE z d q_W_orders pc ls st μ) v1 v4 v5 μ
theorem k_W_orders : zprK q_W_orders.2.2.2 = true ∧ zinc q_W_orders.2.2.2 = true := by decide +kernel
set_option maxRecDepth 100000 in
theorem c_W_orders (z : zZ) (d : Nat) (v1 : Int) (v2 : Int) (μ : Mu) : mC z (d + 1) 63 [(2, 0), (0, v1), (0, v2)] μ = (mC z d 64 [(2, 0), (0, v1), (0, v2)] μ).bind fun q1 => (bif decide (q1.1 = 0) then (f_W_orders_19 z d v1 0 0 q1.2) else (some (q1.1, q1.2))) := by
  rw [mC_succ q_W_orders rfl rfl rfl]
  rw [mE_bk (M := q_W_orders) k_W_orders.1 k_W_orders.2 [19, 44] 400]
  have key : ∀ (C : Nat → List zv → Mu → mR) (E : Nat → List zv → List zv → Mu → mR), mbk C E q_W_orders.1 q_W_orders.2.1 z q_W_orders.2.2.2 [19, 44] 400 (zfind q_W_orders.2.2.2 0) (zentry q_W_orders.2.2.1 [(2, 0), (0, v1), (0, v2)]) [] μ = (C 64 [(2, 0), (0, v1), (0, v2)] μ).bind fun q1 => (bif decide (q1.1 = 0) then (g_W_orders_19 E v1 0 0 q1.2) else (some (q1.1, q1.2))) := by
    intro C E
    rfl
  exact key _ _
set_option maxRecDepth 100000 in
theorem e_W_orders_19 (z : zZ) (d : Nat) (v1 : Int) (v4 : Int) (v5 : Int) (μ : Mu) : f_W_orders_19 z d v1 v4 v5 μ = bif decide (μ 36 3 ≤ v5) then (some (v4, μ)) else ((mC z d 70 [(2, 0), (0, v1), (0, v5)] μ).bind fun q1 => (bif decide (q1.1 = 0) then (f_W_orders_44 z d v1 v4 v5 q1.2) else (f_W_orders_44 z d v1 (zw (v4 + 1)) v5 q1.2))) := by
  show mE z d q_W_orders 19 [(2, 0), (0, v1), (9, 0), (9, 0), (0, v4), (0, v5)] [] μ = _
  rw [mE_bk (M := q_W_orders) k_W_orders.1 k_W_orders.2 [19, 44] 400]
  have key : ∀ (C : Nat → List zv → Mu → mR) (E : Nat → List zv → List zv → Mu → mR), mbk C E q_W_orders.1 q_W_orders.2.1 z q_W_orders.2.2.2 [19, 44] 400 (zfind q_W_orders.2.2.2 19) [(2, 0), (0, v1), (9, 0), (9, 0), (0, v4), (0, v5)] [] μ = bif decide (μ 36 3 ≤ v5) then (some (v4, μ)) else ((C 70 [(2, 0), (0, v1), (0, v5)] μ).bind fun q1 => (bif decide (q1.1 = 0) then (g_W_orders_44 E v1 v4 v5 q1.2) else (g_W_orders_44 E v1 (zw (v4 + 1)) v5 q1.2))) := by
    intro C E
    rfl
  exact key _ _
set_option maxRecDepth 100000 in
theorem e_W_orders_44 (z : zZ) (d : Nat) (v1 : Int) (v4 : Int) (v5 : Int) (μ : Mu) : f_W_orders_44 z d v1 v4 v5 μ = f_W_orders_19 z d v1 v4 (zw (v5 + 1)) μ := by
  show mE z d q_W_orders 44 [(2, 0), (0, v1), (9, 0), (9, 0), (0, v4), (0, v5)] [] μ = _
  rw [mE_bk (M := q_W_orders) k_W_orders.1 k_W_orders.2 [19, 44] 400]
  have key : ∀ (C : Nat → List zv → Mu → mR) (E : Nat → List zv → List zv → Mu → mR), mbk C E q_W_orders.1 q_W_orders.2.1 z q_W_orders.2.2.2 [19, 44] 400 (zfind q_W_orders.2.2.2 44) [(2, 0), (0, v1), (9, 0), (9, 0), (0, v4), (0, v5)] [] μ = g_W_orders_19 E v1 v4 (zw (v5 + 1)) μ := by
    intro C E
    rfl
  exact key _ _
def g_W_readActs_22 (E : Nat → List zv → List zv → Mu → mR) (μ : Mu) : mR := E 22 [(9, 0), (9, 0), (9, 0)] [] μ
noncomputable def f_W_readActs_22 (z : zZ) (d : Nat) (μ : Mu) : mR := g_W_readActs_22 (fun pc ls st μ => mE z d q_W_readActs pc ls st μ) μ
theorem k_W_readActs : zprK q_W_readActs.2.2.2 = true ∧ zinc q_W_readActs.2.2.2 = true := by decide +kernel
set_option maxRecDepth 100000 in
theorem c_W_readActs (z : zZ) (d : Nat) (v1 : Int) (v2 : Int) (μ : Mu) : mC z (d + 1) 64 [(2, 0), (0, v1), (0, v2)] μ = (mC z d 15 [(0, v1)] μ).bind fun q1 => (bif decide (q1.1 = 0) then (f_W_readActs_22 z d q1.2) else ((mC z d 25 [(2, 1), (0, v2), (0, 1), (0, 160)] q1.2).bind fun q2 => (bif !decide (q2.1 = 0) then ((mC z d 19 [(2, 1), (0, v2)] q2.2).bind fun q3 => ((mC z d 65 [(2, 36), (2, 1)] q3.2).bind fun q4 => (some (q4.2 1 4, q4.2)))) else (f_W_readActs_22 z d q2.2)))) := by
  rw [mC_succ q_W_readActs rfl rfl rfl]
  rw [mE_bk (M := q_W_readActs) k_W_readActs.1 k_W_readActs.2 [22] 400]
  have key : ∀ (C : Nat → List zv → Mu → mR) (E : Nat → List zv → List zv → Mu → mR), mbk C E q_W_readActs.1 q_W_readActs.2.1 z q_W_readActs.2.2.2 [22] 400 (zfind q_W_readActs.2.2.2 0) (zentry q_W_readActs.2.2.1 [(2, 0), (0, v1), (0, v2)]) [] μ = (C 15 [(0, v1)] μ).bind fun q1 => (bif decide (q1.1 = 0) then (g_W_readActs_22 E q1.2) else ((C 25 [(2, 1), (0, v2), (0, 1), (0, 160)] q1.2).bind fun q2 => (bif !decide (q2.1 = 0) then ((C 19 [(2, 1), (0, v2)] q2.2).bind fun q3 => ((C 65 [(2, 36), (2, 1)] q3.2).bind fun q4 => (some (q4.2 1 4, q4.2)))) else (g_W_readActs_22 E q2.2)))) := by
    intro C E
    rfl
  exact key _ _
set_option maxRecDepth 100000 in
theorem e_W_readActs_22 (z : zZ) (d : Nat) (μ : Mu) : f_W_readActs_22 z d μ = some ((-1), μ) := by
  show mE z d q_W_readActs 22 [(9, 0), (9, 0), (9, 0)] [] μ = _
  rw [mE_bk (M := q_W_readActs) k_W_readActs.1 k_W_readActs.2 [22] 400]
  have key : ∀ (C : Nat → List zv → Mu → mR) (E : Nat → List zv → List zv → Mu → mR), mbk C E q_W_readActs.1 q_W_readActs.2.1 z q_W_readActs.2.2.2 [22] 400 (zfind q_W_readActs.2.2.2 22) [(9, 0), (9, 0), (9, 0)] [] μ = some ((-1), μ) := by
    intro C E
    rfl
  exact key _ _
def g_Acts_read_7 (E : Nat → List zv → List zv → Mu → mR) (v2 : Int) (μ : Mu) : mR := E 7 [(2, 36), (2, 1), (0, v2)] [] μ
noncomputable def f_Acts_read_7 (z : zZ) (d : Nat) (v2 : Int) (μ : Mu) : mR := g_Acts_read_7 (fun pc ls st μ => mE z d q_Acts_read pc ls st μ) v2 μ
def g_Acts_read_32 (E : Nat → List zv → List zv → Mu → mR) (v2 : Int) (μ : Mu) : mR := E 32 [(2, 36), (2, 1), (0, v2)] [] μ
noncomputable def f_Acts_read_32 (z : zZ) (d : Nat) (v2 : Int) (μ : Mu) : mR := g_Acts_read_32 (fun pc ls st μ => mE z d q_Acts_read pc ls st μ) v2 μ
def g_Acts_read_43 (E : Nat → List zv → List zv → Mu → mR) (v2 : Int) (μ : Mu) : mR := E 43 [(2, 36), (2, 1), (0, v2)] [] μ
noncomputable def f_Acts_read_43 (z : zZ) (d : Nat) (v2 : Int) (μ : Mu) : mR := g_Acts_read_43 (fun pc ls st μ => mE z d q_Acts_read pc ls st μ) v2 μ
def g_Acts_read_72 (E : Nat → List zv → List zv → Mu → mR) (v2 : Int) (μ : Mu) : mR := E 72 [(2, 36), (2, 1), (0, v2)] [] μ
noncomputable def f_Acts_read_72 (z : zZ) (d : Nat) (v2 : Int) (μ : Mu) : mR := g_Acts_read_72 (fun pc ls st μ => mE z d q_Acts_read pc ls st μ) v2 μ
def g_Acts_read_83 (E : Nat → List zv → List zv → Mu → mR) (μ : Mu) : mR := E 83 [(9, 0), (9, 0), (9, 0)] [] μ
noncomputable def f_Acts_read_83 (z : zZ) (d : Nat) (μ : Mu) : mR := g_Acts_read_83 (fun pc ls st μ => mE z d q_Acts_read pc ls st μ) μ
theorem k_Acts_read : zprK q_Acts_read.2.2.2 = true ∧ zinc q_Acts_read.2.2.2 = true := by decide +kernel
set_option maxRecDepth 100000 in
theorem c_Acts_read (z : zZ) (d : Nat) (μ : Mu) : mC z (d + 1) 65 [(2, 36), (2, 1)] μ = f_Acts_read_7 z d 0 (zup μ 36 3 0) := by
  rw [mC_succ q_Acts_read rfl rfl rfl]
  rw [mE_bk (M := q_Acts_read) k_Acts_read.1 k_Acts_read.2 [7, 32, 43, 72, 83] 400]
  have key : ∀ (C : Nat → List zv → Mu → mR) (E : Nat → List zv → List zv → Mu → mR), mbk C E q_Acts_read.1 q_Acts_read.2.1 z q_Acts_read.2.2.2 [7, 32, 43, 72, 83] 400 (zfind q_Acts_read.2.2.2 0) (zentry q_Acts_read.2.2.1 [(2, 36), (2, 1)]) [] μ = g_Acts_read_7 E 0 (zup μ 36 3 0) := by
    intro C E
    rfl
  exact key _ _
set_option maxRecDepth 100000 in
theorem e_Acts_read_7 (z : zZ) (d : Nat) (v2 : Int) (μ : Mu) : f_Acts_read_7 z d v2 μ = bif decide (12 < v2) then (f_Acts_read_83 z d μ) else (bif !decide (μ 1 4 = 0) then (f_Acts_read_83 z d μ) else (bif decide (v2 ≤ 0) then (f_Acts_read_32 z d v2 μ) else ((mC z d 33 [(2, 1)] μ).bind fun q1 => (bif decide (q1.1 = 0) then (f_Acts_read_32 z d v2 q1.2) else (some (0, q1.2)))))) := by
  show mE z d q_Acts_read 7 [(2, 36), (2, 1), (0, v2)] [] μ = _
  rw [mE_bk (M := q_Acts_read) k_Acts_read.1 k_Acts_read.2 [7, 32, 43, 72, 83] 400]
  have key : ∀ (C : Nat → List zv → Mu → mR) (E : Nat → List zv → List zv → Mu → mR), mbk C E q_Acts_read.1 q_Acts_read.2.1 z q_Acts_read.2.2.2 [7, 32, 43, 72, 83] 400 (zfind q_Acts_read.2.2.2 7) [(2, 36), (2, 1), (0, v2)] [] μ = bif decide (12 < v2) then (g_Acts_read_83 E μ) else (bif !decide (μ 1 4 = 0) then (g_Acts_read_83 E μ) else (bif decide (v2 ≤ 0) then (g_Acts_read_32 E v2 μ) else ((C 33 [(2, 1)] μ).bind fun q1 => (bif decide (q1.1 = 0) then (g_Acts_read_32 E v2 q1.2) else (some (0, q1.2)))))) := by
    intro C E
    rfl
  exact key _ _
set_option maxRecDepth 100000 in
theorem e_Acts_read_83 (z : zZ) (d : Nat) (μ : Mu) : f_Acts_read_83 z d μ = some (0, μ) := by
  show mE z d q_Acts_read 83 [(9, 0), (9, 0), (9, 0)] [] μ = _
  rw [mE_bk (M := q_Acts_read) k_Acts_read.1 k_Acts_read.2 [7, 32, 43, 72, 83] 400]
  have key : ∀ (C : Nat → List zv → Mu → mR) (E : Nat → List zv → List zv → Mu → mR), mbk C E q_Acts_read.1 q_Acts_read.2.1 z q_Acts_read.2.2.2 [7, 32, 43, 72, 83] 400 (zfind q_Acts_read.2.2.2 83) [(9, 0), (9, 0), (9, 0)] [] μ = some (0, μ) := by
    intro C E
    rfl
  exact key _ _
set_option maxRecDepth 100000 in
theorem e_Acts_read_32 (z : zZ) (d : Nat) (v2 : Int) (μ : Mu) : f_Acts_read_32 z d v2 μ = bif decide (v2 ≤ 0) then (f_Acts_read_43 z d v2 μ) else ((mC z d 43 [(2, 1), (0, 59)] μ).bind fun q1 => (f_Acts_read_43 z d v2 q1.2)) := by
  show mE z d q_Acts_read 32 [(2, 36), (2, 1), (0, v2)] [] μ = _
  rw [mE_bk (M := q_Acts_read) k_Acts_read.1 k_Acts_read.2 [7, 32, 43, 72, 83] 400]
  have key : ∀ (C : Nat → List zv → Mu → mR) (E : Nat → List zv → List zv → Mu → mR), mbk C E q_Acts_read.1 q_Acts_read.2.1 z q_Acts_read.2.2.2 [7, 32, 43, 72, 83] 400 (zfind q_Acts_read.2.2.2 32) [(2, 36), (2, 1), (0, v2)] [] μ = bif decide (v2 ≤ 0) then (g_Acts_read_43 E v2 μ) else ((C 43 [(2, 1), (0, 59)] μ).bind fun q1 => (g_Acts_read_43 E v2 q1.2)) := by
    intro C E
    rfl
  exact key _ _
set_option maxRecDepth 100000 in
theorem e_Acts_read_43 (z : zZ) (d : Nat) (v2 : Int) (μ : Mu) : f_Acts_read_43 z d v2 μ = bif !decide (v2 = 12) then (f_Acts_read_72 z d v2 μ) else (bif !decide (μ 1 4 = 0) then (f_Acts_read_72 z d v2 μ) else ((mC z d 66 [(2, 1)] μ).bind fun q1 => (bif decide (q1.1 = 0) then (f_Acts_read_72 z d v2 q1.2) else ((mC z d 28 [(2, 1), (0, 4), (0, q1.2 1 2)] q1.2).bind fun q2 => (f_Acts_read_72 z d v2 q2.2))))) := by
  show mE z d q_Acts_read 43 [(2, 36), (2, 1), (0, v2)] [] μ = _
  rw [mE_bk (M := q_Acts_read) k_Acts_read.1 k_Acts_read.2 [7, 32, 43, 72, 83] 400]
  have key : ∀ (C : Nat → List zv → Mu → mR) (E : Nat → List zv → List zv → Mu → mR), mbk C E q_Acts_read.1 q_Acts_read.2.1 z q_Acts_read.2.2.2 [7, 32, 43, 72, 83] 400 (zfind q_Acts_read.2.2.2 43) [(2, 36), (2, 1), (0, v2)] [] μ = bif !decide (v2 = 12) then (g_Acts_read_72 E v2 μ) else (bif !decide (μ 1 4 = 0) then (g_Acts_read_72 E v2 μ) else ((C 66 [(2, 1)] μ).bind fun q1 => (bif decide (q1.1 = 0) then (g_Acts_read_72 E v2 q1.2) else ((C 28 [(2, 1), (0, 4), (0, q1.2 1 2)] q1.2).bind fun q2 => (g_Acts_read_72 E v2 q2.2))))) := by
    intro C E
    rfl
  exact key _ _
set_option maxRecDepth 100000 in
theorem e_Acts_read_72 (z : zZ) (d : Nat) (v2 : Int) (μ : Mu) : f_Acts_read_72 z d v2 μ = (mC z d 67 [(2, 36), (2, 1)] μ).bind fun q1 => (f_Acts_read_7 z d (zw (v2 + 1)) q1.2) := by
  show mE z d q_Acts_read 72 [(2, 36), (2, 1), (0, v2)] [] μ = _
  rw [mE_bk (M := q_Acts_read) k_Acts_read.1 k_Acts_read.2 [7, 32, 43, 72, 83] 400]
  have key : ∀ (C : Nat → List zv → Mu → mR) (E : Nat → List zv → List zv → Mu → mR), mbk C E q_Acts_read.1 q_Acts_read.2.1 z q_Acts_read.2.2.2 [7, 32, 43, 72, 83] 400 (zfind q_Acts_read.2.2.2 72) [(2, 36), (2, 1), (0, v2)] [] μ = (C 67 [(2, 36), (2, 1)] μ).bind fun q1 => (g_Acts_read_7 E (zw (v2 + 1)) q1.2) := by
    intro C E
    rfl
  exact key _ _
def g_Acts_canBegin_36 (E : Nat → List zv → List zv → Mu → mR) (μ : Mu) : mR := E 36 [(9, 0), (9, 0)] [] μ
noncomputable def f_Acts_canBegin_36 (z : zZ) (d : Nat) (μ : Mu) : mR := g_Acts_canBegin_36 (fun pc ls st μ => mE z d q_Acts_canBegin pc ls st μ) μ
def g_Acts_canBegin_40 (E : Nat → List zv → List zv → Mu → mR) (μ : Mu) : mR := E 40 [(9, 0), (9, 0)] [] μ
noncomputable def f_Acts_canBegin_40 (z : zZ) (d : Nat) (μ : Mu) : mR := g_Acts_canBegin_40 (fun pc ls st μ => mE z d q_Acts_canBegin pc ls st μ) μ
def g_Acts_canBegin_41 (E : Nat → List zv → List zv → Mu → mR) (v100 : Int) (μ : Mu) : mR := E 41 [(9, 0), (9, 0)] [(0, v100)] μ
noncomputable def f_Acts_canBegin_41 (z : zZ) (d : Nat) (v100 : Int) (μ : Mu) : mR := g_Acts_canBegin_41 (fun pc ls st μ => mE z d q_Acts_canBegin pc ls st μ) v100 μ
theorem k_Acts_canBegin : zprK q_Acts_canBegin.2.2.2 = true ∧ zinc q_Acts_canBegin.2.2.2 = true := by decide +kernel
set_option maxRecDepth 100000 in
theorem c_Acts_canBegin (z : zZ) (d : Nat) (μ : Mu) : mC z (d + 1) 66 [(2, 1)] μ = (mC z d 22 [(2, 1)] μ).bind fun q1 => ((mC z d 27 [(2, 1)] q1.2).bind fun q2 => (bif !decide (q2.1 = 0) then (f_Acts_canBegin_36 z d q2.2) else (bif decide (q1.1 = 43) then (f_Acts_canBegin_36 z d q2.2) else (bif decide (q1.1 = 45) then (f_Acts_canBegin_36 z d q2.2) else (bif decide (q1.1 = 126) then (f_Acts_canBegin_36 z d q2.2) else (bif !decide (q1.1 = 63) then (f_Acts_canBegin_40 z d q2.2) else (f_Acts_canBegin_36 z d q2.2))))))) := by
  rw [mC_succ q_Acts_canBegin rfl rfl rfl]
  rw [mE_bk (M := q_Acts_canBegin) k_Acts_canBegin.1 k_Acts_canBegin.2 [36, 40, 41] 400]
  have key : ∀ (C : Nat → List zv → Mu → mR) (E : Nat → List zv → List zv → Mu → mR), mbk C E q_Acts_canBegin.1 q_Acts_canBegin.2.1 z q_Acts_canBegin.2.2.2 [36, 40, 41] 400 (zfind q_Acts_canBegin.2.2.2 0) (zentry q_Acts_canBegin.2.2.1 [(2, 1)]) [] μ = (C 22 [(2, 1)] μ).bind fun q1 => ((C 27 [(2, 1)] q1.2).bind fun q2 => (bif !decide (q2.1 = 0) then (g_Acts_canBegin_36 E q2.2) else (bif decide (q1.1 = 43) then (g_Acts_canBegin_36 E q2.2) else (bif decide (q1.1 = 45) then (g_Acts_canBegin_36 E q2.2) else (bif decide (q1.1 = 126) then (g_Acts_canBegin_36 E q2.2) else (bif !decide (q1.1 = 63) then (g_Acts_canBegin_40 E q2.2) else (g_Acts_canBegin_36 E q2.2))))))) := by
    intro C E
    rfl
  exact key _ _
set_option maxRecDepth 100000 in
theorem e_Acts_canBegin_36 (z : zZ) (d : Nat) (μ : Mu) : f_Acts_canBegin_36 z d μ = f_Acts_canBegin_41 z d 1 μ := by
  show mE z d q_Acts_canBegin 36 [(9, 0), (9, 0)] [] μ = _
  rw [mE_bk (M := q_Acts_canBegin) k_Acts_canBegin.1 k_Acts_canBegin.2 [36, 40, 41] 400]
  have key : ∀ (C : Nat → List zv → Mu → mR) (E : Nat → List zv → List zv → Mu → mR), mbk C E q_Acts_canBegin.1 q_Acts_canBegin.2.1 z q_Acts_canBegin.2.2.2 [36, 40, 41] 400 (zfind q_Acts_canBegin.2.2.2 36) [(9, 0), (9, 0)] [] μ = g_Acts_canBegin_41 E 1 μ := by
    intro C E
    rfl
  exact key _ _
set_option maxRecDepth 100000 in
theorem e_Acts_canBegin_40 (z : zZ) (d : Nat) (μ : Mu) : f_Acts_canBegin_40 z d μ = f_Acts_canBegin_41 z d 0 μ := by
  show mE z d q_Acts_canBegin 40 [(9, 0), (9, 0)] [] μ = _
  rw [mE_bk (M := q_Acts_canBegin) k_Acts_canBegin.1 k_Acts_canBegin.2 [36, 40, 41] 400]
  have key : ∀ (C : Nat → List zv → Mu → mR) (E : Nat → List zv → List zv → Mu → mR), mbk C E q_Acts_canBegin.1 q_Acts_canBegin.2.1 z q_Acts_canBegin.2.2.2 [36, 40, 41] 400 (zfind q_Acts_canBegin.2.2.2 40) [(9, 0), (9, 0)] [] μ = g_Acts_canBegin_41 E 0 μ := by
    intro C E
    rfl
  exact key _ _
set_option maxRecDepth 100000 in
theorem e_Acts_canBegin_41 (z : zZ) (d : Nat) (v100 : Int) (μ : Mu) : f_Acts_canBegin_41 z d v100 μ = g01 v100 (some (v100, μ)) := by
  show mE z d q_Acts_canBegin 41 [(9, 0), (9, 0)] [(0, v100)] μ = _
  rw [mE_bk (M := q_Acts_canBegin) k_Acts_canBegin.1 k_Acts_canBegin.2 [36, 40, 41] 400]
  have key : ∀ (C : Nat → List zv → Mu → mR) (E : Nat → List zv → List zv → Mu → mR), mbk C E q_Acts_canBegin.1 q_Acts_canBegin.2.1 z q_Acts_canBegin.2.2.2 [36, 40, 41] 400 (zfind q_Acts_canBegin.2.2.2 41) [(9, 0), (9, 0)] [(0, v100)] μ = g01 v100 (some (v100, μ)) := by
    intro C E
    rfl
  exact key _ _
def g_Acts_readAct_23 (E : Nat → List zv → List zv → Mu → mR) (μ : Mu) : mR := E 23 [(9, 0), (2, 1), (9, 0)] [] μ
noncomputable def f_Acts_readAct_23 (z : zZ) (d : Nat) (μ : Mu) : mR := g_Acts_readAct_23 (fun pc ls st μ => mE z d q_Acts_readAct pc ls st μ) μ
def g_Acts_readAct_49 (E : Nat → List zv → List zv → Mu → mR) (v100 : Int) (μ : Mu) : mR := E 49 [(2, 36), (2, 1), (9, 0)] [(0, v100)] μ
noncomputable def f_Acts_readAct_49 (z : zZ) (d : Nat) (v100 : Int) (μ : Mu) : mR := g_Acts_readAct_49 (fun pc ls st μ => mE z d q_Acts_readAct pc ls st μ) v100 μ
def g_Acts_readAct_118 (E : Nat → List zv → List zv → Mu → mR) (v2 : Int) (μ : Mu) : mR := E 118 [(2, 36), (2, 1), (0, v2)] [] μ
noncomputable def f_Acts_readAct_118 (z : zZ) (d : Nat) (v2 : Int) (μ : Mu) : mR := g_Acts_readAct_118 (fun pc ls st μ => mE z d q_Acts_readAct pc ls st μ) v2 μ
def g_Acts_readAct_165 (E : Nat → List zv → List zv → Mu → mR) (μ : Mu) : mR := E 165 [(2, 36), (9, 0), (9, 0)] [] μ
noncomputable def f_Acts_readAct_165 (z : zZ) (d : Nat) (μ : Mu) : mR := g_Acts_readAct_165 (fun pc ls st μ => mE z d q_Acts_readAct pc ls st μ) μ
theorem k_Acts_readAct : zprK q_Acts_readAct.2.2.2 = true ∧ zinc q_Acts_readAct.2.2.2 = true := by decide +kernel
set_option maxRecDepth 100000 in
theorem c_Acts_readAct (z : zZ) (d : Nat) (μ : Mu) : mC z (d + 1) 67 [(2, 36), (2, 1)] μ = bif !decide (μ 1 4 = 0) then (f_Acts_readAct_23 z d μ) else ((mC z d 66 [(2, 1)] μ).bind fun q1 => (bif decide (q1.1 = 0) then (f_Acts_readAct_23 z d q1.2) else (bif decide (q1.2 36 3 < 12) then ((mC z d 27 [(2, 1)] q1.2).bind fun q2 => (bif decide (q2.1 = 0) then ((mC z d 21 [(2, 1)] q2.2).bind fun q3 => (f_Acts_readAct_49 z d q3.1 q3.2)) else (f_Acts_readAct_49 z d 62 q2.2))) else (f_Acts_readAct_23 z d q1.2)))) := by
  rw [mC_succ q_Acts_readAct rfl rfl rfl]
  rw [mE_bk (M := q_Acts_readAct) k_Acts_readAct.1 k_Acts_readAct.2 [23, 49, 118, 165] 400]
  have key : ∀ (C : Nat → List zv → Mu → mR) (E : Nat → List zv → List zv → Mu → mR), mbk C E q_Acts_readAct.1 q_Acts_readAct.2.1 z q_Acts_readAct.2.2.2 [23, 49, 118, 165] 400 (zfind q_Acts_readAct.2.2.2 0) (zentry q_Acts_readAct.2.2.1 [(2, 36), (2, 1)]) [] μ = bif !decide (μ 1 4 = 0) then (g_Acts_readAct_23 E μ) else ((C 66 [(2, 1)] μ).bind fun q1 => (bif decide (q1.1 = 0) then (g_Acts_readAct_23 E q1.2) else (bif decide (q1.2 36 3 < 12) then ((C 27 [(2, 1)] q1.2).bind fun q2 => (bif decide (q2.1 = 0) then ((C 21 [(2, 1)] q2.2).bind fun q3 => (g_Acts_readAct_49 E q3.1 q3.2)) else (g_Acts_readAct_49 E 62 q2.2))) else (g_Acts_readAct_23 E q1.2)))) := by
    intro C E
    rfl
  exact key _ _
set_option maxRecDepth 100000 in
theorem e_Acts_readAct_23 (z : zZ) (d : Nat) (μ : Mu) : f_Acts_readAct_23 z d μ = (mC z d 28 [(2, 1), (0, 1), (0, μ 1 2)] μ).bind fun q1 => (some (0, q1.2)) := by
  show mE z d q_Acts_readAct 23 [(9, 0), (2, 1), (9, 0)] [] μ = _
  rw [mE_bk (M := q_Acts_readAct) k_Acts_readAct.1 k_Acts_readAct.2 [23, 49, 118, 165] 400]
  have key : ∀ (C : Nat → List zv → Mu → mR) (E : Nat → List zv → List zv → Mu → mR), mbk C E q_Acts_readAct.1 q_Acts_readAct.2.1 z q_Acts_readAct.2.2.2 [23, 49, 118, 165] 400 (zfind q_Acts_readAct.2.2.2 23) [(9, 0), (2, 1), (9, 0)] [] μ = (C 28 [(2, 1), (0, 1), (0, μ 1 2)] μ).bind fun q1 => (some (0, q1.2)) := by
    intro C E
    rfl
  exact key _ _
set_option maxRecDepth 100000 in
theorem e_Acts_readAct_49 (z : zZ) (d : Nat) (v100 : Int) (μ : Mu) : f_Acts_readAct_49 z d v100 μ = gI (μ 36 3) 12 ((mC z d 29 [(2, 1)] (zup μ 37 ((μ 36 3).toNat) v100)).bind fun q1 => (gI (μ 36 3) 12 (gI (q1.2 36 3) 12 (bif !decide (v100 = 62) then (f_Acts_readAct_118 z d v100 (zup (zup q1.2 38 ((μ 36 3).toNat) q1.1) 39 ((q1.2 36 3).toNat) 0)) else (bif !decide (q1.2 1 4 = 0) then (f_Acts_readAct_118 z d v100 (zup (zup q1.2 38 ((μ 36 3).toNat) q1.1) 39 ((q1.2 36 3).toNat) 0)) else ((mC z d 43 [(2, 1), (0, 62)] (zup (zup q1.2 38 ((μ 36 3).toNat) q1.1) 39 ((q1.2 36 3).toNat) 0)).bind fun q2 => (bif decide (q2.1 = 0) then (f_Acts_readAct_118 z d v100 q2.2) else ((mC z d 29 [(2, 1)] q2.2).bind fun q3 => (gI (q2.2 36 3) 12 (f_Acts_readAct_118 z d v100 (zup q3.2 39 ((q2.2 36 3).toNat) q3.1))))))))))) := by
  show mE z d q_Acts_readAct 49 [(2, 36), (2, 1), (9, 0)] [(0, v100)] μ = _
  rw [mE_bk (M := q_Acts_readAct) k_Acts_readAct.1 k_Acts_readAct.2 [23, 49, 118, 165] 400]
  have key : ∀ (C : Nat → List zv → Mu → mR) (E : Nat → List zv → List zv → Mu → mR), mbk C E q_Acts_readAct.1 q_Acts_readAct.2.1 z q_Acts_readAct.2.2.2 [23, 49, 118, 165] 400 (zfind q_Acts_readAct.2.2.2 49) [(2, 36), (2, 1), (9, 0)] [(0, v100)] μ = gI (μ 36 3) 12 ((C 29 [(2, 1)] (zup μ 37 ((μ 36 3).toNat) v100)).bind fun q1 => (gI (μ 36 3) 12 (gI (q1.2 36 3) 12 (bif !decide (v100 = 62) then (g_Acts_readAct_118 E v100 (zup (zup q1.2 38 ((μ 36 3).toNat) q1.1) 39 ((q1.2 36 3).toNat) 0)) else (bif !decide (q1.2 1 4 = 0) then (g_Acts_readAct_118 E v100 (zup (zup q1.2 38 ((μ 36 3).toNat) q1.1) 39 ((q1.2 36 3).toNat) 0)) else ((C 43 [(2, 1), (0, 62)] (zup (zup q1.2 38 ((μ 36 3).toNat) q1.1) 39 ((q1.2 36 3).toNat) 0)).bind fun q2 => (bif decide (q2.1 = 0) then (g_Acts_readAct_118 E v100 q2.2) else ((C 29 [(2, 1)] q2.2).bind fun q3 => (gI (q2.2 36 3) 12 (g_Acts_readAct_118 E v100 (zup q3.2 39 ((q2.2 36 3).toNat) q3.1))))))))))) := by
    intro C E
    rfl
  exact key _ _
set_option maxRecDepth 100000 in
theorem e_Acts_readAct_118 (z : zZ) (d : Nat) (v2 : Int) (μ : Mu) : f_Acts_readAct_118 z d v2 μ = bif !decide (v2 = 63) then (f_Acts_readAct_165 z d μ) else (bif !decide (μ 1 4 = 0) then (f_Acts_readAct_165 z d μ) else ((mC z d 43 [(2, 1), (0, 46)] μ).bind fun q1 => (bif decide (q1.1 = 0) then (f_Acts_readAct_165 z d q1.2) else (gI (q1.2 36 3) 12 ((mC z d 68 [(0, q1.2 38 ((q1.2 36 3).toNat))] q1.2).bind fun q2 => ((mC z d 69 [(2, 1), (0, q2.1)] q2.2).bind fun q3 => (gI (q1.2 36 3) 12 (f_Acts_readAct_165 z d (zup q3.2 39 ((q1.2 36 3).toNat) q3.1))))))))) := by
  show mE z d q_Acts_readAct 118 [(2, 36), (2, 1), (0, v2)] [] μ = _
  rw [mE_bk (M := q_Acts_readAct) k_Acts_readAct.1 k_Acts_readAct.2 [23, 49, 118, 165] 400]
  have key : ∀ (C : Nat → List zv → Mu → mR) (E : Nat → List zv → List zv → Mu → mR), mbk C E q_Acts_readAct.1 q_Acts_readAct.2.1 z q_Acts_readAct.2.2.2 [23, 49, 118, 165] 400 (zfind q_Acts_readAct.2.2.2 118) [(2, 36), (2, 1), (0, v2)] [] μ = bif !decide (v2 = 63) then (g_Acts_readAct_165 E μ) else (bif !decide (μ 1 4 = 0) then (g_Acts_readAct_165 E μ) else ((C 43 [(2, 1), (0, 46)] μ).bind fun q1 => (bif decide (q1.1 = 0) then (g_Acts_readAct_165 E q1.2) else (gI (q1.2 36 3) 12 ((C 68 [(0, q1.2 38 ((q1.2 36 3).toNat))] q1.2).bind fun q2 => ((C 69 [(2, 1), (0, q2.1)] q2.2).bind fun q3 => (gI (q1.2 36 3) 12 (g_Acts_readAct_165 E (zup q3.2 39 ((q1.2 36 3).toNat) q3.1))))))))) := by
    intro C E
    rfl
  exact key _ _
set_option maxRecDepth 100000 in
theorem e_Acts_readAct_165 (z : zZ) (d : Nat) (μ : Mu) : f_Acts_readAct_165 z d μ = some (0, zup μ 36 3 (zw ((μ 36 3) + 1))) := by
  show mE z d q_Acts_readAct 165 [(2, 36), (9, 0), (9, 0)] [] μ = _
  rw [mE_bk (M := q_Acts_readAct) k_Acts_readAct.1 k_Acts_readAct.2 [23, 49, 118, 165] 400]
  have key : ∀ (C : Nat → List zv → Mu → mR) (E : Nat → List zv → List zv → Mu → mR), mbk C E q_Acts_readAct.1 q_Acts_readAct.2.1 z q_Acts_readAct.2.2.2 [23, 49, 118, 165] 400 (zfind q_Acts_readAct.2.2.2 165) [(2, 36), (9, 0), (9, 0)] [] μ = some (0, zup μ 36 3 (zw ((μ 36 3) + 1))) := by
    intro C E
    rfl
  exact key _ _
def g_Wrd_sizeOf_2 (E : Nat → List zv → List zv → Mu → mR) (v0 : Int) (v1 : Int) (μ : Mu) : mR := E 2 [(0, v0), (0, v1)] [] μ
noncomputable def f_Wrd_sizeOf_2 (z : zZ) (d : Nat) (v0 : Int) (v1 : Int) (μ : Mu) : mR := g_Wrd_sizeOf_2 (fun pc ls st μ => mE z d q_Wrd_sizeOf pc ls st μ) v0 v1 μ
def g_Wrd_sizeOf_23 (E : Nat → List zv → List zv → Mu → mR) (v1 : Int) (μ : Mu) : mR := E 23 [(9, 0), (0, v1)] [] μ
noncomputable def f_Wrd_sizeOf_23 (z : zZ) (d : Nat) (v1 : Int) (μ : Mu) : mR := g_Wrd_sizeOf_23 (fun pc ls st μ => mE z d q_Wrd_sizeOf pc ls st μ) v1 μ
theorem k_Wrd_sizeOf : zprK q_Wrd_sizeOf.2.2.2 = true ∧ zinc q_Wrd_sizeOf.2.2.2 = true := by decide +kernel
set_option maxRecDepth 100000 in
theorem c_Wrd_sizeOf (z : zZ) (d : Nat) (v0 : Int) (μ : Mu) : mC z (d + 1) 68 [(0, v0)] μ = f_Wrd_sizeOf_2 z d v0 0 μ := by
  rw [mC_succ q_Wrd_sizeOf rfl rfl rfl]
  rw [mE_bk (M := q_Wrd_sizeOf) k_Wrd_sizeOf.1 k_Wrd_sizeOf.2 [2, 23] 400]
  have key : ∀ (C : Nat → List zv → Mu → mR) (E : Nat → List zv → List zv → Mu → mR), mbk C E q_Wrd_sizeOf.1 q_Wrd_sizeOf.2.1 z q_Wrd_sizeOf.2.2.2 [2, 23] 400 (zfind q_Wrd_sizeOf.2.2.2 0) (zentry q_Wrd_sizeOf.2.2.1 [(0, v0)]) [] μ = g_Wrd_sizeOf_2 E v0 0 μ := by
    intro C E
    rfl
  exact key _ _
set_option maxRecDepth 100000 in
theorem e_Wrd_sizeOf_2 (z : zZ) (d : Nat) (v0 : Int) (v1 : Int) (μ : Mu) : f_Wrd_sizeOf_2 z d v0 v1 μ = bif decide (8 ≤ v1) then (f_Wrd_sizeOf_23 z d v1 μ) else ((mC z d 41 [(0, v0), (0, v1)] μ).bind fun q1 => (bif decide (q1.1 = (-1)) then (f_Wrd_sizeOf_23 z d v1 q1.2) else (f_Wrd_sizeOf_2 z d v0 (zw (v1 + 1)) q1.2))) := by
  show mE z d q_Wrd_sizeOf 2 [(0, v0), (0, v1)] [] μ = _
  rw [mE_bk (M := q_Wrd_sizeOf) k_Wrd_sizeOf.1 k_Wrd_sizeOf.2 [2, 23] 400]
  have key : ∀ (C : Nat → List zv → Mu → mR) (E : Nat → List zv → List zv → Mu → mR), mbk C E q_Wrd_sizeOf.1 q_Wrd_sizeOf.2.1 z q_Wrd_sizeOf.2.2.2 [2, 23] 400 (zfind q_Wrd_sizeOf.2.2.2 2) [(0, v0), (0, v1)] [] μ = bif decide (8 ≤ v1) then (g_Wrd_sizeOf_23 E v1 μ) else ((C 41 [(0, v0), (0, v1)] μ).bind fun q1 => (bif decide (q1.1 = (-1)) then (g_Wrd_sizeOf_23 E v1 q1.2) else (g_Wrd_sizeOf_2 E v0 (zw (v1 + 1)) q1.2))) := by
    intro C E
    rfl
  exact key _ _
set_option maxRecDepth 100000 in
theorem e_Wrd_sizeOf_23 (z : zZ) (d : Nat) (v1 : Int) (μ : Mu) : f_Wrd_sizeOf_23 z d v1 μ = some (v1, μ) := by
  show mE z d q_Wrd_sizeOf 23 [(9, 0), (0, v1)] [] μ = _
  rw [mE_bk (M := q_Wrd_sizeOf) k_Wrd_sizeOf.1 k_Wrd_sizeOf.2 [2, 23] 400]
  have key : ∀ (C : Nat → List zv → Mu → mR) (E : Nat → List zv → List zv → Mu → mR), mbk C E q_Wrd_sizeOf.1 q_Wrd_sizeOf.2.1 z q_Wrd_sizeOf.2.2.2 [2, 23] 400 (zfind q_Wrd_sizeOf.2.2.2 23) [(9, 0), (0, v1)] [] μ = some (v1, μ) := by
    intro C E
    rfl
  exact key _ _
def g_Acts_takeChange_37 (E : Nat → List zv → List zv → Mu → mR) (μ : Mu) : mR := E 37 [(2, 1), (9, 0), (9, 0)] [] μ
noncomputable def f_Acts_takeChange_37 (z : zZ) (d : Nat) (μ : Mu) : mR := g_Acts_takeChange_37 (fun pc ls st μ => mE z d q_Acts_takeChange pc ls st μ) μ
def g_Acts_takeChange_72 (E : Nat → List zv → List zv → Mu → mR) (μ : Mu) : mR := E 72 [(9, 0), (9, 0), (9, 0)] [] μ
noncomputable def f_Acts_takeChange_72 (z : zZ) (d : Nat) (μ : Mu) : mR := g_Acts_takeChange_72 (fun pc ls st μ => mE z d q_Acts_takeChange pc ls st μ) μ
theorem k_Acts_takeChange : zprK q_Acts_takeChange.2.2.2 = true ∧ zinc q_Acts_takeChange.2.2.2 = true := by decide +kernel
set_option maxRecDepth 100000 in
theorem c_Acts_takeChange (z : zZ) (d : Nat) (v1 : Int) (μ : Mu) : mC z (d + 1) 69 [(2, 1), (0, v1)] μ = (mC z d 22 [(2, 1)] μ).bind fun q1 => ((mC z d 52 [(2, 1)] q1.2).bind fun q2 => (bif !decide (q2.1 = 0) then (bif decide (zw (q1.1 - 48) < 1) then (f_Acts_takeChange_37 z d q2.2) else (bif decide (zw (q1.1 - 48) ≤ v1) then ((mC z d 30 [(2, 1)] (zup q2.2 1 2 (zw ((q2.2 1 2) + 1)))).bind fun q3 => (some (zw ((zw ((zw ((zw (q1.1 - 48)) - 1)) * 16)) + q3.1), q3.2))) else (f_Acts_takeChange_37 z d q2.2))) else ((mC z d 28 [(2, 1), (0, 1), (0, q2.2 1 2)] q2.2).bind fun q4 => (f_Acts_takeChange_72 z d q4.2)))) := by
  rw [mC_succ q_Acts_takeChange rfl rfl rfl]
  rw [mE_bk (M := q_Acts_takeChange) k_Acts_takeChange.1 k_Acts_takeChange.2 [37, 72] 400]
  have key : ∀ (C : Nat → List zv → Mu → mR) (E : Nat → List zv → List zv → Mu → mR), mbk C E q_Acts_takeChange.1 q_Acts_takeChange.2.1 z q_Acts_takeChange.2.2.2 [37, 72] 400 (zfind q_Acts_takeChange.2.2.2 0) (zentry q_Acts_takeChange.2.2.1 [(2, 1), (0, v1)]) [] μ = (C 22 [(2, 1)] μ).bind fun q1 => ((C 52 [(2, 1)] q1.2).bind fun q2 => (bif !decide (q2.1 = 0) then (bif decide (zw (q1.1 - 48) < 1) then (g_Acts_takeChange_37 E q2.2) else (bif decide (zw (q1.1 - 48) ≤ v1) then ((C 30 [(2, 1)] (zup q2.2 1 2 (zw ((q2.2 1 2) + 1)))).bind fun q3 => (some (zw ((zw ((zw ((zw (q1.1 - 48)) - 1)) * 16)) + q3.1), q3.2))) else (g_Acts_takeChange_37 E q2.2))) else ((C 28 [(2, 1), (0, 1), (0, q2.2 1 2)] q2.2).bind fun q4 => (g_Acts_takeChange_72 E q4.2)))) := by
    intro C E
    rfl
  exact key _ _
set_option maxRecDepth 100000 in
theorem e_Acts_takeChange_37 (z : zZ) (d : Nat) (μ : Mu) : f_Acts_takeChange_37 z d μ = (mC z d 28 [(2, 1), (0, 6), (0, μ 1 2)] μ).bind fun q1 => (f_Acts_takeChange_72 z d q1.2) := by
  show mE z d q_Acts_takeChange 37 [(2, 1), (9, 0), (9, 0)] [] μ = _
  rw [mE_bk (M := q_Acts_takeChange) k_Acts_takeChange.1 k_Acts_takeChange.2 [37, 72] 400]
  have key : ∀ (C : Nat → List zv → Mu → mR) (E : Nat → List zv → List zv → Mu → mR), mbk C E q_Acts_takeChange.1 q_Acts_takeChange.2.1 z q_Acts_takeChange.2.2.2 [37, 72] 400 (zfind q_Acts_takeChange.2.2.2 37) [(2, 1), (9, 0), (9, 0)] [] μ = (C 28 [(2, 1), (0, 6), (0, μ 1 2)] μ).bind fun q1 => (g_Acts_takeChange_72 E q1.2) := by
    intro C E
    rfl
  exact key _ _
set_option maxRecDepth 100000 in
theorem e_Acts_takeChange_72 (z : zZ) (d : Nat) (μ : Mu) : f_Acts_takeChange_72 z d μ = some (0, μ) := by
  show mE z d q_Acts_takeChange 72 [(9, 0), (9, 0), (9, 0)] [] μ = _
  rw [mE_bk (M := q_Acts_takeChange) k_Acts_takeChange.1 k_Acts_takeChange.2 [37, 72] 400]
  have key : ∀ (C : Nat → List zv → Mu → mR) (E : Nat → List zv → List zv → Mu → mR), mbk C E q_Acts_takeChange.1 q_Acts_takeChange.2.1 z q_Acts_takeChange.2.2.2 [37, 72] 400 (zfind q_Acts_takeChange.2.2.2 72) [(9, 0), (9, 0), (9, 0)] [] μ = some (0, μ) := by
    intro C E
    rfl
  exact key _ _
