def g_M_atOnce_22 (E : Nat → List zv → List zv → Mu → mR) (v1 : Int) (v2 : Int) (v3 : Int) (v4 : Int) (μ : Mu) : mR := E 22 [(2, 86), (0, v1), (0, v2), (0, v3), (0, v4)] [] μ
noncomputable def f_M_atOnce_22 (z : zZ) (d : Nat) (v1 : Int) (v2 : Int) (v3 : Int) (v4 : Int) (μ : Mu) : mR := g_M_atOnce_22 (fun pc ls st μ => mE z d q_M_atOnce pc ls st μ) v1 v2 v3 v4 μ
def g_M_atOnce_52 (E : Nat → List zv → List zv → Mu → mR) (v1 : Int) (v2 : Int) (v3 : Int) (v4 : Int) (μ : Mu) : mR := E 52 [(2, 86), (0, v1), (0, v2), (0, v3), (0, v4)] [] μ
noncomputable def f_M_atOnce_52 (z : zZ) (d : Nat) (v1 : Int) (v2 : Int) (v3 : Int) (v4 : Int) (μ : Mu) : mR := g_M_atOnce_52 (fun pc ls st μ => mE z d q_M_atOnce pc ls st μ) v1 v2 v3 v4 μ
def g_M_atOnce_63 (E : Nat → List zv → List zv → Mu → mR) (v1 : Int) (v2 : Int) (v4 : Int) (v100 : Int) (μ : Mu) : mR := E 63 [(2, 86), (0, v1), (0, v2), (9, 0), (0, v4)] [(0, v100)] μ
noncomputable def f_M_atOnce_63 (z : zZ) (d : Nat) (v1 : Int) (v2 : Int) (v4 : Int) (v100 : Int) (μ : Mu) : mR := g_M_atOnce_63 (fun pc ls st μ => mE z d q_M_atOnce pc ls st μ) v1 v2 v4 v100 μ
def g_M_atOnce_68 (E : Nat → List zv → List zv → Mu → mR) (v1 : Int) (v2 : Int) (v3 : Int) (v4 : Int) (μ : Mu) : mR := E 68 [(2, 86), (0, v1), (0, v2), (0, v3), (0, v4)] [] μ
noncomputable def f_M_atOnce_68 (z : zZ) (d : Nat) (v1 : Int) (v2 : Int) (v3 : Int) (v4 : Int) (μ : Mu) : mR := g_M_atOnce_68 (fun pc ls st μ => mE z d q_M_atOnce pc ls st μ) v1 v2 v3 v4 μ
def g_M_atOnce_108 (E : Nat → List zv → List zv → Mu → mR) (v100 : Int) (μ : Mu) : mR := E 108 [(9, 0), (9, 0), (9, 0), (9, 0), (9, 0)] [(0, v100)] μ
noncomputable def f_M_atOnce_108 (z : zZ) (d : Nat) (v100 : Int) (μ : Mu) : mR := g_M_atOnce_108 (fun pc ls st μ => mE z d q_M_atOnce pc ls st μ) v100 μ
theorem k_M_atOnce : zprK q_M_atOnce.2.2.2 = true ∧ zinc q_M_atOnce.2.2.2 = true := by decide +kernel
set_option maxRecDepth 100000 in
theorem c_M_atOnce (z : zZ) (d : Nat) (v1 : Int) (μ : Mu) : mC z (d + 1) 267 [(2, 86), (0, v1)] μ = (mC z d 183 [(0, v1), (0, 0), (0, 2)] μ).bind fun q1 => (bif !decide (q1.1 = 0) then ((mC z d 268 [(2, 86)] q1.2).bind fun q2 => (f_M_atOnce_22 z d v1 0 ((-1)) 0 q2.2)) else (some ((-1), q1.2))) := by
  rw [mC_succ q_M_atOnce rfl rfl rfl]
  rw [mE_bk (M := q_M_atOnce) k_M_atOnce.1 k_M_atOnce.2 [22, 52, 63, 68, 108] 400]
  have key : ∀ (C : Nat → List zv → Mu → mR) (E : Nat → List zv → List zv → Mu → mR), mbk C E q_M_atOnce.1 q_M_atOnce.2.1 z q_M_atOnce.2.2.2 [22, 52, 63, 68, 108] 400 (zfind q_M_atOnce.2.2.2 0) (zentry q_M_atOnce.2.2.1 [(2, 86), (0, v1)]) [] μ = (C 183 [(0, v1), (0, 0), (0, 2)] μ).bind fun q1 => (bif !decide (q1.1 = 0) then ((C 268 [(2, 86)] q1.2).bind fun q2 => (g_M_atOnce_22 E v1 0 ((-1)) 0 q2.2)) else (some ((-1), q1.2))) := by
    intro C E
    rfl
  exact key _ _
set_option maxRecDepth 100000 in
theorem e_M_atOnce_22 (z : zZ) (d : Nat) (v1 : Int) (v2 : Int) (v3 : Int) (v4 : Int) (μ : Mu) : f_M_atOnce_22 z d v1 v2 v3 v4 μ = bif decide (144 ≤ v4) then (bif !decide (v1 = 0) then (bif !decide (v3 = (-1)) then (bif !decide (v1 = 1) then (f_M_atOnce_108 z d (z_rem v3 12) μ) else (f_M_atOnce_108 z d (z_div v3 12) μ)) else (f_M_atOnce_108 z d ((-2)) μ)) else (f_M_atOnce_108 z d v2 μ)) else (gI v4 144 (bif decide (μ 125 v4.toNat = 0) then (f_M_atOnce_68 z d v1 v2 v3 v4 μ) else ((mC z d 269 [(2, 86), (0, v4)] μ).bind fun q1 => (bif !decide (q1.1 = 0) then (f_M_atOnce_52 z d v1 v2 v3 v4 q1.2) else (f_M_atOnce_68 z d v1 v2 v3 v4 q1.2))))) := by
  show mE z d q_M_atOnce 22 [(2, 86), (0, v1), (0, v2), (0, v3), (0, v4)] [] μ = _
  rw [mE_bk (M := q_M_atOnce) k_M_atOnce.1 k_M_atOnce.2 [22, 52, 63, 68, 108] 400]
  have key : ∀ (C : Nat → List zv → Mu → mR) (E : Nat → List zv → List zv → Mu → mR), mbk C E q_M_atOnce.1 q_M_atOnce.2.1 z q_M_atOnce.2.2.2 [22, 52, 63, 68, 108] 400 (zfind q_M_atOnce.2.2.2 22) [(2, 86), (0, v1), (0, v2), (0, v3), (0, v4)] [] μ = bif decide (144 ≤ v4) then (bif !decide (v1 = 0) then (bif !decide (v3 = (-1)) then (bif !decide (v1 = 1) then (g_M_atOnce_108 E (z_rem v3 12) μ) else (g_M_atOnce_108 E (z_div v3 12) μ)) else (g_M_atOnce_108 E ((-2)) μ)) else (g_M_atOnce_108 E v2 μ)) else (gI v4 144 (bif decide (μ 125 v4.toNat = 0) then (g_M_atOnce_68 E v1 v2 v3 v4 μ) else ((C 269 [(2, 86), (0, v4)] μ).bind fun q1 => (bif !decide (q1.1 = 0) then (g_M_atOnce_52 E v1 v2 v3 v4 q1.2) else (g_M_atOnce_68 E v1 v2 v3 v4 q1.2))))) := by
    intro C E
    rfl
  exact key _ _
set_option maxRecDepth 100000 in
theorem e_M_atOnce_108 (z : zZ) (d : Nat) (v100 : Int) (μ : Mu) : f_M_atOnce_108 z d v100 μ = some (v100, μ) := by
  show mE z d q_M_atOnce 108 [(9, 0), (9, 0), (9, 0), (9, 0), (9, 0)] [(0, v100)] μ = _
  rw [mE_bk (M := q_M_atOnce) k_M_atOnce.1 k_M_atOnce.2 [22, 52, 63, 68, 108] 400]
  have key : ∀ (C : Nat → List zv → Mu → mR) (E : Nat → List zv → List zv → Mu → mR), mbk C E q_M_atOnce.1 q_M_atOnce.2.1 z q_M_atOnce.2.2.2 [22, 52, 63, 68, 108] 400 (zfind q_M_atOnce.2.2.2 108) [(9, 0), (9, 0), (9, 0), (9, 0), (9, 0)] [(0, v100)] μ = some (v100, μ) := by
    intro C E
    rfl
  exact key _ _
set_option maxRecDepth 100000 in
theorem e_M_atOnce_68 (z : zZ) (d : Nat) (v1 : Int) (v2 : Int) (v3 : Int) (v4 : Int) (μ : Mu) : f_M_atOnce_68 z d v1 v2 v3 v4 μ = f_M_atOnce_22 z d v1 v2 v3 (zw (v4 + 1)) μ := by
  show mE z d q_M_atOnce 68 [(2, 86), (0, v1), (0, v2), (0, v3), (0, v4)] [] μ = _
  rw [mE_bk (M := q_M_atOnce) k_M_atOnce.1 k_M_atOnce.2 [22, 52, 63, 68, 108] 400]
  have key : ∀ (C : Nat → List zv → Mu → mR) (E : Nat → List zv → List zv → Mu → mR), mbk C E q_M_atOnce.1 q_M_atOnce.2.1 z q_M_atOnce.2.2.2 [22, 52, 63, 68, 108] 400 (zfind q_M_atOnce.2.2.2 68) [(2, 86), (0, v1), (0, v2), (0, v3), (0, v4)] [] μ = g_M_atOnce_22 E v1 v2 v3 (zw (v4 + 1)) μ := by
    intro C E
    rfl
  exact key _ _
set_option maxRecDepth 100000 in
theorem e_M_atOnce_52 (z : zZ) (d : Nat) (v1 : Int) (v2 : Int) (v3 : Int) (v4 : Int) (μ : Mu) : f_M_atOnce_52 z d v1 v2 v3 v4 μ = bif !decide (v3 = (-1)) then (f_M_atOnce_63 z d v1 v2 v4 v3 μ) else (f_M_atOnce_63 z d v1 v2 v4 v4 μ) := by
  show mE z d q_M_atOnce 52 [(2, 86), (0, v1), (0, v2), (0, v3), (0, v4)] [] μ = _
  rw [mE_bk (M := q_M_atOnce) k_M_atOnce.1 k_M_atOnce.2 [22, 52, 63, 68, 108] 400]
  have key : ∀ (C : Nat → List zv → Mu → mR) (E : Nat → List zv → List zv → Mu → mR), mbk C E q_M_atOnce.1 q_M_atOnce.2.1 z q_M_atOnce.2.2.2 [22, 52, 63, 68, 108] 400 (zfind q_M_atOnce.2.2.2 52) [(2, 86), (0, v1), (0, v2), (0, v3), (0, v4)] [] μ = bif !decide (v3 = (-1)) then (g_M_atOnce_63 E v1 v2 v4 v3 μ) else (g_M_atOnce_63 E v1 v2 v4 v4 μ) := by
    intro C E
    rfl
  exact key _ _
set_option maxRecDepth 100000 in
theorem e_M_atOnce_63 (z : zZ) (d : Nat) (v1 : Int) (v2 : Int) (v4 : Int) (v100 : Int) (μ : Mu) : f_M_atOnce_63 z d v1 v2 v4 v100 μ = f_M_atOnce_68 z d v1 (zw (v2 + 1)) v100 v4 μ := by
  show mE z d q_M_atOnce 63 [(2, 86), (0, v1), (0, v2), (9, 0), (0, v4)] [(0, v100)] μ = _
  rw [mE_bk (M := q_M_atOnce) k_M_atOnce.1 k_M_atOnce.2 [22, 52, 63, 68, 108] 400]
  have key : ∀ (C : Nat → List zv → Mu → mR) (E : Nat → List zv → List zv → Mu → mR), mbk C E q_M_atOnce.1 q_M_atOnce.2.1 z q_M_atOnce.2.2.2 [22, 52, 63, 68, 108] 400 (zfind q_M_atOnce.2.2.2 63) [(2, 86), (0, v1), (0, v2), (9, 0), (0, v4)] [(0, v100)] μ = g_M_atOnce_68 E v1 (zw (v2 + 1)) v100 v4 μ := by
    intro C E
    rfl
  exact key _ _
def g_M_laysGains_2 (E : Nat → List zv → List zv → Mu → mR) (v1 : Int) (μ : Mu) : mR := E 2 [(2, 86), (0, v1), (9, 0), (9, 0), (9, 0)] [] μ
noncomputable def f_M_laysGains_2 (z : zZ) (d : Nat) (v1 : Int) (μ : Mu) : mR := g_M_laysGains_2 (fun pc ls st μ => mE z d q_M_laysGains pc ls st μ) v1 μ
def g_M_laysGains_64 (E : Nat → List zv → List zv → Mu → mR) (v1 : Int) (v2 : Int) (v3 : Int) (v101 : Int) (μ : Mu) : mR := E 64 [(2, 86), (0, v1), (0, v2), (0, v3), (9, 0)] [(0, v101), (2, 125)] μ
noncomputable def f_M_laysGains_64 (z : zZ) (d : Nat) (v1 : Int) (v2 : Int) (v3 : Int) (v101 : Int) (μ : Mu) : mR := g_M_laysGains_64 (fun pc ls st μ => mE z d q_M_laysGains pc ls st μ) v1 v2 v3 v101 μ
def g_M_laysGains_65 (E : Nat → List zv → List zv → Mu → mR) (v1 : Int) (v2 : Int) (v3 : Int) (v101 : Int) (v102 : Int) (μ : Mu) : mR := E 65 [(2, 86), (0, v1), (0, v2), (0, v3), (9, 0)] [(0, v102), (0, v101), (2, 125)] μ
noncomputable def f_M_laysGains_65 (z : zZ) (d : Nat) (v1 : Int) (v2 : Int) (v3 : Int) (v101 : Int) (v102 : Int) (μ : Mu) : mR := g_M_laysGains_65 (fun pc ls st μ => mE z d q_M_laysGains pc ls st μ) v1 v2 v3 v101 v102 μ
def g_M_laysGains_100 (E : Nat → List zv → List zv → Mu → mR) (v1 : Int) (v2 : Int) (v3 : Int) (v4 : Int) (v101 : Int) (μ : Mu) : mR := E 100 [(2, 86), (0, v1), (0, v2), (0, v3), (0, v4)] [(0, v101), (2, 124)] μ
noncomputable def f_M_laysGains_100 (z : zZ) (d : Nat) (v1 : Int) (v2 : Int) (v3 : Int) (v4 : Int) (v101 : Int) (μ : Mu) : mR := g_M_laysGains_100 (fun pc ls st μ => mE z d q_M_laysGains pc ls st μ) v1 v2 v3 v4 v101 μ
def g_M_laysGains_122 (E : Nat → List zv → List zv → Mu → mR) (v1 : Int) (v101 : Int) (v102 : Int) (μ : Mu) : mR := E 122 [(2, 86), (0, v1), (9, 0), (9, 0), (9, 0)] [(0, v102), (0, v101), (2, 124)] μ
noncomputable def f_M_laysGains_122 (z : zZ) (d : Nat) (v1 : Int) (v101 : Int) (v102 : Int) (μ : Mu) : mR := g_M_laysGains_122 (fun pc ls st μ => mE z d q_M_laysGains pc ls st μ) v1 v101 v102 μ
def g_M_laysGains_123 (E : Nat → List zv → List zv → Mu → mR) (v1 : Int) (μ : Mu) : mR := E 123 [(2, 86), (0, v1), (9, 0), (9, 0), (9, 0)] [] μ
noncomputable def f_M_laysGains_123 (z : zZ) (d : Nat) (v1 : Int) (μ : Mu) : mR := g_M_laysGains_123 (fun pc ls st μ => mE z d q_M_laysGains pc ls st μ) v1 μ
theorem k_M_laysGains : zprK q_M_laysGains.2.2.2 = true ∧ zinc q_M_laysGains.2.2.2 = true := by decide +kernel
set_option maxRecDepth 100000 in
theorem c_M_laysGains (z : zZ) (d : Nat) (μ : Mu) : mC z (d + 1) 268 [(2, 86)] μ = f_M_laysGains_2 z d 0 μ := by
  rw [mC_succ q_M_laysGains rfl rfl rfl]
  rw [mE_bk (M := q_M_laysGains) k_M_laysGains.1 k_M_laysGains.2 [2, 64, 65, 100, 122, 123] 400]
  have key : ∀ (C : Nat → List zv → Mu → mR) (E : Nat → List zv → List zv → Mu → mR), mbk C E q_M_laysGains.1 q_M_laysGains.2.1 z q_M_laysGains.2.2.2 [2, 64, 65, 100, 122, 123] 400 (zfind q_M_laysGains.2.2.2 0) (zentry q_M_laysGains.2.2.1 [(2, 86)]) [] μ = g_M_laysGains_2 E 0 μ := by
    intro C E
    rfl
  exact key _ _
set_option maxRecDepth 100000 in
theorem e_M_laysGains_2 (z : zZ) (d : Nat) (v1 : Int) (μ : Mu) : f_M_laysGains_2 z d v1 μ = bif decide (144 ≤ v1) then (some (0, μ)) else ((mC z d 257 [(2, 86), (0, 0), (0, z_div v1 12)] μ).bind fun q1 => (bif decide (q1.1 = 0) then (f_M_laysGains_64 z d v1 (z_div v1 12) (z_rem v1 12) v1 q1.2) else ((mC z d 257 [(2, 86), (0, 1), (0, z_rem v1 12)] q1.2).bind fun q2 => (bif decide (q2.1 = 0) then (f_M_laysGains_64 z d v1 (z_div v1 12) (z_rem v1 12) v1 q2.2) else ((mC z d 235 [(2, 86), (0, 0), (0, z_div v1 12)] q2.2).bind fun q3 => (bif decide (q3.1 = 0) then (f_M_laysGains_64 z d v1 (z_div v1 12) (z_rem v1 12) v1 q3.2) else ((mC z d 235 [(2, 86), (0, 1), (0, z_rem v1 12)] q3.2).bind fun q4 => (bif decide (q4.1 = 0) then (f_M_laysGains_64 z d v1 (z_div v1 12) (z_rem v1 12) v1 q4.2) else (f_M_laysGains_65 z d v1 (z_div v1 12) (z_rem v1 12) v1 1 q4.2))))))))) := by
  show mE z d q_M_laysGains 2 [(2, 86), (0, v1), (9, 0), (9, 0), (9, 0)] [] μ = _
  rw [mE_bk (M := q_M_laysGains) k_M_laysGains.1 k_M_laysGains.2 [2, 64, 65, 100, 122, 123] 400]
  have key : ∀ (C : Nat → List zv → Mu → mR) (E : Nat → List zv → List zv → Mu → mR), mbk C E q_M_laysGains.1 q_M_laysGains.2.1 z q_M_laysGains.2.2.2 [2, 64, 65, 100, 122, 123] 400 (zfind q_M_laysGains.2.2.2 2) [(2, 86), (0, v1), (9, 0), (9, 0), (9, 0)] [] μ = bif decide (144 ≤ v1) then (some (0, μ)) else ((C 257 [(2, 86), (0, 0), (0, z_div v1 12)] μ).bind fun q1 => (bif decide (q1.1 = 0) then (g_M_laysGains_64 E v1 (z_div v1 12) (z_rem v1 12) v1 q1.2) else ((C 257 [(2, 86), (0, 1), (0, z_rem v1 12)] q1.2).bind fun q2 => (bif decide (q2.1 = 0) then (g_M_laysGains_64 E v1 (z_div v1 12) (z_rem v1 12) v1 q2.2) else ((C 235 [(2, 86), (0, 0), (0, z_div v1 12)] q2.2).bind fun q3 => (bif decide (q3.1 = 0) then (g_M_laysGains_64 E v1 (z_div v1 12) (z_rem v1 12) v1 q3.2) else ((C 235 [(2, 86), (0, 1), (0, z_rem v1 12)] q3.2).bind fun q4 => (bif decide (q4.1 = 0) then (g_M_laysGains_64 E v1 (z_div v1 12) (z_rem v1 12) v1 q4.2) else (g_M_laysGains_65 E v1 (z_div v1 12) (z_rem v1 12) v1 1 q4.2))))))))) := by
    intro C E
    rfl
  exact key _ _
set_option maxRecDepth 100000 in
theorem e_M_laysGains_64 (z : zZ) (d : Nat) (v1 : Int) (v2 : Int) (v3 : Int) (v101 : Int) (μ : Mu) : f_M_laysGains_64 z d v1 v2 v3 v101 μ = f_M_laysGains_65 z d v1 v2 v3 v101 0 μ := by
  show mE z d q_M_laysGains 64 [(2, 86), (0, v1), (0, v2), (0, v3), (9, 0)] [(0, v101), (2, 125)] μ = _
  rw [mE_bk (M := q_M_laysGains) k_M_laysGains.1 k_M_laysGains.2 [2, 64, 65, 100, 122, 123] 400]
  have key : ∀ (C : Nat → List zv → Mu → mR) (E : Nat → List zv → List zv → Mu → mR), mbk C E q_M_laysGains.1 q_M_laysGains.2.1 z q_M_laysGains.2.2.2 [2, 64, 65, 100, 122, 123] 400 (zfind q_M_laysGains.2.2.2 64) [(2, 86), (0, v1), (0, v2), (0, v3), (9, 0)] [(0, v101), (2, 125)] μ = g_M_laysGains_65 E v1 v2 v3 v101 0 μ := by
    intro C E
    rfl
  exact key _ _
set_option maxRecDepth 100000 in
theorem e_M_laysGains_65 (z : zZ) (d : Nat) (v1 : Int) (v2 : Int) (v3 : Int) (v101 : Int) (v102 : Int) (μ : Mu) : f_M_laysGains_65 z d v1 v2 v3 v101 v102 μ = gI v101 144 (gI v1 144 (bif !decide ((zup μ 125 v101.toNat (z_and v102 1)) 125 v1.toNat = 0) then ((mC z d 260 [(2, 86), (0, v2), (0, v3)] (zup μ 125 v101.toNat (z_and v102 1))).bind fun q1 => (bif !decide (q1.1 = 0) then (f_M_laysGains_100 z d v1 v2 v3 q1.1 v1 q1.2) else (f_M_laysGains_122 z d v1 v1 0 q1.2))) else (f_M_laysGains_123 z d v1 (zup μ 125 v101.toNat (z_and v102 1))))) := by
  show mE z d q_M_laysGains 65 [(2, 86), (0, v1), (0, v2), (0, v3), (9, 0)] [(0, v102), (0, v101), (2, 125)] μ = _
  rw [mE_bk (M := q_M_laysGains) k_M_laysGains.1 k_M_laysGains.2 [2, 64, 65, 100, 122, 123] 400]
  have key : ∀ (C : Nat → List zv → Mu → mR) (E : Nat → List zv → List zv → Mu → mR), mbk C E q_M_laysGains.1 q_M_laysGains.2.1 z q_M_laysGains.2.2.2 [2, 64, 65, 100, 122, 123] 400 (zfind q_M_laysGains.2.2.2 65) [(2, 86), (0, v1), (0, v2), (0, v3), (9, 0)] [(0, v102), (0, v101), (2, 125)] μ = gI v101 144 (gI v1 144 (bif !decide ((zup μ 125 v101.toNat (z_and v102 1)) 125 v1.toNat = 0) then ((C 260 [(2, 86), (0, v2), (0, v3)] (zup μ 125 v101.toNat (z_and v102 1))).bind fun q1 => (bif !decide (q1.1 = 0) then (g_M_laysGains_100 E v1 v2 v3 q1.1 v1 q1.2) else (g_M_laysGains_122 E v1 v1 0 q1.2))) else (g_M_laysGains_123 E v1 (zup μ 125 v101.toNat (z_and v102 1))))) := by
    intro C E
    rfl
  exact key _ _
set_option maxRecDepth 100000 in
theorem e_M_laysGains_100 (z : zZ) (d : Nat) (v1 : Int) (v2 : Int) (v3 : Int) (v4 : Int) (v101 : Int) (μ : Mu) : f_M_laysGains_100 z d v1 v2 v3 v4 v101 μ = bif !decide (v4 = 1) then ((mC z d 258 [(2, 86), (0, 0), (0, v2)] μ).bind fun q1 => (f_M_laysGains_122 z d v1 v101 (zw (-q1.1)) q1.2)) else ((mC z d 258 [(2, 86), (0, 1), (0, v3)] μ).bind fun q2 => (f_M_laysGains_122 z d v1 v101 q2.1 q2.2)) := by
  show mE z d q_M_laysGains 100 [(2, 86), (0, v1), (0, v2), (0, v3), (0, v4)] [(0, v101), (2, 124)] μ = _
  rw [mE_bk (M := q_M_laysGains) k_M_laysGains.1 k_M_laysGains.2 [2, 64, 65, 100, 122, 123] 400]
  have key : ∀ (C : Nat → List zv → Mu → mR) (E : Nat → List zv → List zv → Mu → mR), mbk C E q_M_laysGains.1 q_M_laysGains.2.1 z q_M_laysGains.2.2.2 [2, 64, 65, 100, 122, 123] 400 (zfind q_M_laysGains.2.2.2 100) [(2, 86), (0, v1), (0, v2), (0, v3), (0, v4)] [(0, v101), (2, 124)] μ = bif !decide (v4 = 1) then ((C 258 [(2, 86), (0, 0), (0, v2)] μ).bind fun q1 => (g_M_laysGains_122 E v1 v101 (zw (-q1.1)) q1.2)) else ((C 258 [(2, 86), (0, 1), (0, v3)] μ).bind fun q2 => (g_M_laysGains_122 E v1 v101 q2.1 q2.2)) := by
    intro C E
    rfl
  exact key _ _
set_option maxRecDepth 100000 in
theorem e_M_laysGains_122 (z : zZ) (d : Nat) (v1 : Int) (v101 : Int) (v102 : Int) (μ : Mu) : f_M_laysGains_122 z d v1 v101 v102 μ = gI v101 144 (f_M_laysGains_123 z d v1 (zup μ 124 v101.toNat v102)) := by
  show mE z d q_M_laysGains 122 [(2, 86), (0, v1), (9, 0), (9, 0), (9, 0)] [(0, v102), (0, v101), (2, 124)] μ = _
  rw [mE_bk (M := q_M_laysGains) k_M_laysGains.1 k_M_laysGains.2 [2, 64, 65, 100, 122, 123] 400]
  have key : ∀ (C : Nat → List zv → Mu → mR) (E : Nat → List zv → List zv → Mu → mR), mbk C E q_M_laysGains.1 q_M_laysGains.2.1 z q_M_laysGains.2.2.2 [2, 64, 65, 100, 122, 123] 400 (zfind q_M_laysGains.2.2.2 122) [(2, 86), (0, v1), (9, 0), (9, 0), (9, 0)] [(0, v102), (0, v101), (2, 124)] μ = gI v101 144 (g_M_laysGains_123 E v1 (zup μ 124 v101.toNat v102)) := by
    intro C E
    rfl
  exact key _ _
set_option maxRecDepth 100000 in
theorem e_M_laysGains_123 (z : zZ) (d : Nat) (v1 : Int) (μ : Mu) : f_M_laysGains_123 z d v1 μ = f_M_laysGains_2 z d (zw (v1 + 1)) μ := by
  show mE z d q_M_laysGains 123 [(2, 86), (0, v1), (9, 0), (9, 0), (9, 0)] [] μ = _
  rw [mE_bk (M := q_M_laysGains) k_M_laysGains.1 k_M_laysGains.2 [2, 64, 65, 100, 122, 123] 400]
  have key : ∀ (C : Nat → List zv → Mu → mR) (E : Nat → List zv → List zv → Mu → mR), mbk C E q_M_laysGains.1 q_M_laysGains.2.1 z q_M_laysGains.2.2.2 [2, 64, 65, 100, 122, 123] 400 (zfind q_M_laysGains.2.2.2 123) [(2, 86), (0, v1), (9, 0), (9, 0), (9, 0)] [] μ = g_M_laysGains_2 E (zw (v1 + 1)) μ := by
    intro C E
    rfl
  exact key _ _
def g_M_rests_2 (E : Nat → List zv → List zv → Mu → mR) (v1 : Int) (v2 : Int) (μ : Mu) : mR := E 2 [(2, 86), (0, v1), (0, v2), (9, 0)] [] μ
noncomputable def f_M_rests_2 (z : zZ) (d : Nat) (v1 : Int) (v2 : Int) (μ : Mu) : mR := g_M_rests_2 (fun pc ls st μ => mE z d q_M_rests pc ls st μ) v1 v2 μ
def g_M_rests_44 (E : Nat → List zv → List zv → Mu → mR) (v1 : Int) (v2 : Int) (μ : Mu) : mR := E 44 [(2, 86), (0, v1), (0, v2), (9, 0)] [] μ
noncomputable def f_M_rests_44 (z : zZ) (d : Nat) (v1 : Int) (v2 : Int) (μ : Mu) : mR := g_M_rests_44 (fun pc ls st μ => mE z d q_M_rests pc ls st μ) v1 v2 μ
def g_M_rests_80 (E : Nat → List zv → List zv → Mu → mR) (v1 : Int) (v2 : Int) (μ : Mu) : mR := E 80 [(2, 86), (0, v1), (0, v2), (9, 0)] [] μ
noncomputable def f_M_rests_80 (z : zZ) (d : Nat) (v1 : Int) (v2 : Int) (μ : Mu) : mR := g_M_rests_80 (fun pc ls st μ => mE z d q_M_rests pc ls st μ) v1 v2 μ
theorem k_M_rests : zprK q_M_rests.2.2.2 = true ∧ zinc q_M_rests.2.2.2 = true := by decide +kernel
set_option maxRecDepth 100000 in
theorem c_M_rests (z : zZ) (d : Nat) (v1 : Int) (μ : Mu) : mC z (d + 1) 269 [(2, 86), (0, v1)] μ = f_M_rests_2 z d v1 0 μ := by
  rw [mC_succ q_M_rests rfl rfl rfl]
  rw [mE_bk (M := q_M_rests) k_M_rests.1 k_M_rests.2 [2, 44, 80] 400]
  have key : ∀ (C : Nat → List zv → Mu → mR) (E : Nat → List zv → List zv → Mu → mR), mbk C E q_M_rests.1 q_M_rests.2.1 z q_M_rests.2.2.2 [2, 44, 80] 400 (zfind q_M_rests.2.2.2 0) (zentry q_M_rests.2.2.1 [(2, 86), (0, v1)]) [] μ = g_M_rests_2 E v1 0 μ := by
    intro C E
    rfl
  exact key _ _
set_option maxRecDepth 100000 in
theorem e_M_rests_2 (z : zZ) (d : Nat) (v1 : Int) (v2 : Int) (μ : Mu) : f_M_rests_2 z d v1 v2 μ = bif decide (12 ≤ v2) then (some (1, μ)) else (gI (zw ((zw (12 * v2)) + (z_rem v1 12))) 144 (bif decide (μ 125 ((zw ((zw (12 * v2)) + (z_rem v1 12))).toNat) = 0) then (f_M_rests_44 z d v1 v2 μ) else (gI (zw ((zw (12 * v2)) + (z_rem v1 12))) 144 (gI v1 144 (bif decide (μ 124 ((zw ((zw (12 * v2)) + (z_rem v1 12))).toNat) ≤ μ 124 v1.toNat) then (f_M_rests_44 z d v1 v2 μ) else (some (0, μ))))))) := by
  show mE z d q_M_rests 2 [(2, 86), (0, v1), (0, v2), (9, 0)] [] μ = _
  rw [mE_bk (M := q_M_rests) k_M_rests.1 k_M_rests.2 [2, 44, 80] 400]
  have key : ∀ (C : Nat → List zv → Mu → mR) (E : Nat → List zv → List zv → Mu → mR), mbk C E q_M_rests.1 q_M_rests.2.1 z q_M_rests.2.2.2 [2, 44, 80] 400 (zfind q_M_rests.2.2.2 2) [(2, 86), (0, v1), (0, v2), (9, 0)] [] μ = bif decide (12 ≤ v2) then (some (1, μ)) else (gI (zw ((zw (12 * v2)) + (z_rem v1 12))) 144 (bif decide (μ 125 ((zw ((zw (12 * v2)) + (z_rem v1 12))).toNat) = 0) then (g_M_rests_44 E v1 v2 μ) else (gI (zw ((zw (12 * v2)) + (z_rem v1 12))) 144 (gI v1 144 (bif decide (μ 124 ((zw ((zw (12 * v2)) + (z_rem v1 12))).toNat) ≤ μ 124 v1.toNat) then (g_M_rests_44 E v1 v2 μ) else (some (0, μ))))))) := by
    intro C E
    rfl
  exact key _ _
set_option maxRecDepth 100000 in
theorem e_M_rests_44 (z : zZ) (d : Nat) (v1 : Int) (v2 : Int) (μ : Mu) : f_M_rests_44 z d v1 v2 μ = gI (zw ((zw ((z_div v1 12) * 12)) + v2)) 144 (bif decide (μ 125 ((zw ((zw ((z_div v1 12) * 12)) + v2)).toNat) = 0) then (f_M_rests_80 z d v1 v2 μ) else (gI (zw ((zw ((z_div v1 12) * 12)) + v2)) 144 (gI v1 144 (bif decide (μ 124 v1.toNat ≤ μ 124 ((zw ((zw ((z_div v1 12) * 12)) + v2)).toNat)) then (f_M_rests_80 z d v1 v2 μ) else (some (0, μ)))))) := by
  show mE z d q_M_rests 44 [(2, 86), (0, v1), (0, v2), (9, 0)] [] μ = _
  rw [mE_bk (M := q_M_rests) k_M_rests.1 k_M_rests.2 [2, 44, 80] 400]
  have key : ∀ (C : Nat → List zv → Mu → mR) (E : Nat → List zv → List zv → Mu → mR), mbk C E q_M_rests.1 q_M_rests.2.1 z q_M_rests.2.2.2 [2, 44, 80] 400 (zfind q_M_rests.2.2.2 44) [(2, 86), (0, v1), (0, v2), (9, 0)] [] μ = gI (zw ((zw ((z_div v1 12) * 12)) + v2)) 144 (bif decide (μ 125 ((zw ((zw ((z_div v1 12) * 12)) + v2)).toNat) = 0) then (g_M_rests_80 E v1 v2 μ) else (gI (zw ((zw ((z_div v1 12) * 12)) + v2)) 144 (gI v1 144 (bif decide (μ 124 v1.toNat ≤ μ 124 ((zw ((zw ((z_div v1 12) * 12)) + v2)).toNat)) then (g_M_rests_80 E v1 v2 μ) else (some (0, μ)))))) := by
    intro C E
    rfl
  exact key _ _
set_option maxRecDepth 100000 in
theorem e_M_rests_80 (z : zZ) (d : Nat) (v1 : Int) (v2 : Int) (μ : Mu) : f_M_rests_80 z d v1 v2 μ = f_M_rests_2 z d v1 (zw (v2 + 1)) μ := by
  show mE z d q_M_rests 80 [(2, 86), (0, v1), (0, v2), (9, 0)] [] μ = _
  rw [mE_bk (M := q_M_rests) k_M_rests.1 k_M_rests.2 [2, 44, 80] 400]
  have key : ∀ (C : Nat → List zv → Mu → mR) (E : Nat → List zv → List zv → Mu → mR), mbk C E q_M_rests.1 q_M_rests.2.1 z q_M_rests.2.2.2 [2, 44, 80] 400 (zfind q_M_rests.2.2.2 80) [(2, 86), (0, v1), (0, v2), (9, 0)] [] μ = g_M_rests_2 E v1 (zw (v2 + 1)) μ := by
    intro C E
    rfl
  exact key _ _
def g_M_exchange_16 (E : Nat → List zv → List zv → Mu → mR) (μ : Mu) : mR := E 16 [(9, 0), (9, 0), (9, 0), (9, 0), (9, 0), (9, 0), (9, 0), (9, 0), (9, 0), (9, 0), (9, 0), (9, 0), (9, 0)] [] μ
noncomputable def f_M_exchange_16 (z : zZ) (d : Nat) (μ : Mu) : mR := g_M_exchange_16 (fun pc ls st μ => mE z d q_M_exchange pc ls st μ) μ
def g_M_exchange_49 (E : Nat → List zv → List zv → Mu → mR) (v1 : Int) (v2 : Int) (v3 : Int) (v4 : Int) (v5 : Int) (v6 : Int) (v7 : Int) (v8 : Int) (μ : Mu) : mR := E 49 [(2, 86), (0, v1), (0, v2), (0, v3), (0, v4), (0, v5), (0, v6), (0, v7), (0, v8), (9, 0), (9, 0), (9, 0), (9, 0)] [] μ
noncomputable def f_M_exchange_49 (z : zZ) (d : Nat) (v1 : Int) (v2 : Int) (v3 : Int) (v4 : Int) (v5 : Int) (v6 : Int) (v7 : Int) (v8 : Int) (μ : Mu) : mR := g_M_exchange_49 (fun pc ls st μ => mE z d q_M_exchange pc ls st μ) v1 v2 v3 v4 v5 v6 v7 v8 μ
def g_M_exchange_86 (E : Nat → List zv → List zv → Mu → mR) (v1 : Int) (v2 : Int) (v3 : Int) (v4 : Int) (v5 : Int) (v6 : Int) (v7 : Int) (v8 : Int) (v9 : Int) (v10 : Int) (μ : Mu) : mR := E 86 [(2, 86), (0, v1), (0, v2), (0, v3), (0, v4), (0, v5), (0, v6), (0, v7), (0, v8), (0, v9), (0, v10), (9, 0), (9, 0)] [] μ
noncomputable def f_M_exchange_86 (z : zZ) (d : Nat) (v1 : Int) (v2 : Int) (v3 : Int) (v4 : Int) (v5 : Int) (v6 : Int) (v7 : Int) (v8 : Int) (v9 : Int) (v10 : Int) (μ : Mu) : mR := g_M_exchange_86 (fun pc ls st μ => mE z d q_M_exchange pc ls st μ) v1 v2 v3 v4 v5 v6 v7 v8 v9 v10 μ
def g_M_exchange_165 (E : Nat → List zv → List zv → Mu → mR) (v1 : Int) (v2 : Int) (v3 : Int) (v4 : Int) (v5 : Int) (v6 : Int) (v7 : Int) (v8 : Int) (v11 : Int) (v12 : Int) (μ : Mu) : mR := E 165 [(2, 86), (0, v1), (0, v2), (0, v3), (0, v4), (0, v5), (0, v6), (0, v7), (0, v8), (9, 0), (9, 0), (0, v11), (0, v12)] [] μ
noncomputable def f_M_exchange_165 (z : zZ) (d : Nat) (v1 : Int) (v2 : Int) (v3 : Int) (v4 : Int) (v5 : Int) (v6 : Int) (v7 : Int) (v8 : Int) (v11 : Int) (v12 : Int) (μ : Mu) : mR := g_M_exchange_165 (fun pc ls st μ => mE z d q_M_exchange pc ls st μ) v1 v2 v3 v4 v5 v6 v7 v8 v11 v12 μ
def g_M_exchange_190 (E : Nat → List zv → List zv → Mu → mR) (v1 : Int) (v2 : Int) (v3 : Int) (v4 : Int) (v5 : Int) (v8 : Int) (v11 : Int) (v12 : Int) (μ : Mu) : mR := E 190 [(2, 86), (0, v1), (0, v2), (0, v3), (0, v4), (0, v5), (9, 0), (9, 0), (0, v8), (9, 0), (9, 0), (0, v11), (0, v12)] [] μ
noncomputable def f_M_exchange_190 (z : zZ) (d : Nat) (v1 : Int) (v2 : Int) (v3 : Int) (v4 : Int) (v5 : Int) (v8 : Int) (v11 : Int) (v12 : Int) (μ : Mu) : mR := g_M_exchange_190 (fun pc ls st μ => mE z d q_M_exchange pc ls st μ) v1 v2 v3 v4 v5 v8 v11 v12 μ
def g_M_exchange_201 (E : Nat → List zv → List zv → Mu → mR) (v1 : Int) (v2 : Int) (v3 : Int) (v4 : Int) (v5 : Int) (v6 : Int) (v7 : Int) (v8 : Int) (μ : Mu) : mR := E 201 [(2, 86), (0, v1), (0, v2), (0, v3), (0, v4), (0, v5), (0, v6), (0, v7), (0, v8), (9, 0), (9, 0), (9, 0), (9, 0)] [] μ
noncomputable def f_M_exchange_201 (z : zZ) (d : Nat) (v1 : Int) (v2 : Int) (v3 : Int) (v4 : Int) (v5 : Int) (v6 : Int) (v7 : Int) (v8 : Int) (μ : Mu) : mR := g_M_exchange_201 (fun pc ls st μ => mE z d q_M_exchange pc ls st μ) v1 v2 v3 v4 v5 v6 v7 v8 μ
def g_M_exchange_207 (E : Nat → List zv → List zv → Mu → mR) (v2 : Int) (v5 : Int) (v6 : Int) (v7 : Int) (μ : Mu) : mR := E 207 [(9, 0), (9, 0), (0, v2), (9, 0), (9, 0), (0, v5), (0, v6), (0, v7), (9, 0), (9, 0), (9, 0), (9, 0), (9, 0)] [] μ
noncomputable def f_M_exchange_207 (z : zZ) (d : Nat) (v2 : Int) (v5 : Int) (v6 : Int) (v7 : Int) (μ : Mu) : mR := g_M_exchange_207 (fun pc ls st μ => mE z d q_M_exchange pc ls st μ) v2 v5 v6 v7 μ
def g_M_exchange_214 (E : Nat → List zv → List zv → Mu → mR) (v2 : Int) (v6 : Int) (v7 : Int) (μ : Mu) : mR := E 214 [(9, 0), (9, 0), (0, v2), (9, 0), (9, 0), (9, 0), (0, v6), (0, v7), (9, 0), (9, 0), (9, 0), (9, 0), (9, 0)] [] μ
noncomputable def f_M_exchange_214 (z : zZ) (d : Nat) (v2 : Int) (v6 : Int) (v7 : Int) (μ : Mu) : mR := g_M_exchange_214 (fun pc ls st μ => mE z d q_M_exchange pc ls st μ) v2 v6 v7 μ
def g_M_exchange_225 (E : Nat → List zv → List zv → Mu → mR) (v2 : Int) (v6 : Int) (v7 : Int) (μ : Mu) : mR := E 225 [(9, 0), (9, 0), (0, v2), (9, 0), (9, 0), (9, 0), (0, v6), (0, v7), (9, 0), (9, 0), (9, 0), (9, 0), (9, 0)] [] μ
noncomputable def f_M_exchange_225 (z : zZ) (d : Nat) (v2 : Int) (v6 : Int) (v7 : Int) (μ : Mu) : mR := g_M_exchange_225 (fun pc ls st μ => mE z d q_M_exchange pc ls st μ) v2 v6 v7 μ
def g_M_exchange_238 (E : Nat → List zv → List zv → Mu → mR) (v2 : Int) (v6 : Int) (v7 : Int) (μ : Mu) : mR := E 238 [(9, 0), (9, 0), (0, v2), (9, 0), (9, 0), (9, 0), (0, v6), (0, v7), (9, 0), (9, 0), (9, 0), (9, 0), (9, 0)] [] μ
noncomputable def f_M_exchange_238 (z : zZ) (d : Nat) (v2 : Int) (v6 : Int) (v7 : Int) (μ : Mu) : mR := g_M_exchange_238 (fun pc ls st μ => mE z d q_M_exchange pc ls st μ) v2 v6 v7 μ
def g_M_exchange_251 (E : Nat → List zv → List zv → Mu → mR) (v7 : Int) (μ : Mu) : mR := E 251 [(9, 0), (9, 0), (9, 0), (9, 0), (9, 0), (9, 0), (9, 0), (0, v7), (9, 0), (9, 0), (9, 0), (9, 0), (9, 0)] [] μ
noncomputable def f_M_exchange_251 (z : zZ) (d : Nat) (v7 : Int) (μ : Mu) : mR := g_M_exchange_251 (fun pc ls st μ => mE z d q_M_exchange pc ls st μ) v7 μ
def g_M_exchange_253 (E : Nat → List zv → List zv → Mu → mR) (v100 : Int) (μ : Mu) : mR := E 253 [(9, 0), (9, 0), (9, 0), (9, 0), (9, 0), (9, 0), (9, 0), (9, 0), (9, 0), (9, 0), (9, 0), (9, 0), (9, 0)] [(0, v100)] μ
noncomputable def f_M_exchange_253 (z : zZ) (d : Nat) (v100 : Int) (μ : Mu) : mR := g_M_exchange_253 (fun pc ls st μ => mE z d q_M_exchange pc ls st μ) v100 μ
theorem k_M_exchange : zprK q_M_exchange.2.2.2 = true ∧ zinc q_M_exchange.2.2.2 = true := by decide +kernel
set_option maxRecDepth 100000 in
theorem c_M_exchange (z : zZ) (d : Nat) (v1 : Int) (v2 : Int) (μ : Mu) : mC z (d + 1) 270 [(2, 86), (0, v1), (0, v2)] μ = (mC z d 185 [(0, v1)] μ).bind fun q1 => (bif decide (q1.1 = 0) then (f_M_exchange_16 z d q1.2) else ((mC z d 183 [(0, v2), (0, 0), (0, 3)] q1.2).bind fun q2 => (bif !decide (q2.1 = 0) then ((mC z d 263 [(2, 86), (0, v1)] q2.2).bind fun q3 => ((mC z d 263 [(2, 86), (0, zw (1 - v1))] q3.2).bind fun q4 => ((mC z d 252 [(2, 86)] q4.2).bind fun q5 => (f_M_exchange_49 z d v1 v2 q3.1 q4.1 0 ((-1)) 0 0 q5.2)))) else (f_M_exchange_16 z d q2.2)))) := by
  rw [mC_succ q_M_exchange rfl rfl rfl]
  rw [mE_bk (M := q_M_exchange) k_M_exchange.1 k_M_exchange.2 [16, 49, 86, 165, 190, 201, 207, 214, 225, 238, 251, 253] 400]
  have key : ∀ (C : Nat → List zv → Mu → mR) (E : Nat → List zv → List zv → Mu → mR), mbk C E q_M_exchange.1 q_M_exchange.2.1 z q_M_exchange.2.2.2 [16, 49, 86, 165, 190, 201, 207, 214, 225, 238, 251, 253] 400 (zfind q_M_exchange.2.2.2 0) (zentry q_M_exchange.2.2.1 [(2, 86), (0, v1), (0, v2)]) [] μ = (C 185 [(0, v1)] μ).bind fun q1 => (bif decide (q1.1 = 0) then (g_M_exchange_16 E q1.2) else ((C 183 [(0, v2), (0, 0), (0, 3)] q1.2).bind fun q2 => (bif !decide (q2.1 = 0) then ((C 263 [(2, 86), (0, v1)] q2.2).bind fun q3 => ((C 263 [(2, 86), (0, zw (1 - v1))] q3.2).bind fun q4 => ((C 252 [(2, 86)] q4.2).bind fun q5 => (g_M_exchange_49 E v1 v2 q3.1 q4.1 0 ((-1)) 0 0 q5.2)))) else (g_M_exchange_16 E q2.2)))) := by
    intro C E
    rfl
  exact key _ _
set_option maxRecDepth 100000 in
theorem e_M_exchange_16 (z : zZ) (d : Nat) (μ : Mu) : f_M_exchange_16 z d μ = some ((-1), μ) := by
  show mE z d q_M_exchange 16 [(9, 0), (9, 0), (9, 0), (9, 0), (9, 0), (9, 0), (9, 0), (9, 0), (9, 0), (9, 0), (9, 0), (9, 0), (9, 0)] [] μ = _
  rw [mE_bk (M := q_M_exchange) k_M_exchange.1 k_M_exchange.2 [16, 49, 86, 165, 190, 201, 207, 214, 225, 238, 251, 253] 400]
  have key : ∀ (C : Nat → List zv → Mu → mR) (E : Nat → List zv → List zv → Mu → mR), mbk C E q_M_exchange.1 q_M_exchange.2.1 z q_M_exchange.2.2.2 [16, 49, 86, 165, 190, 201, 207, 214, 225, 238, 251, 253] 400 (zfind q_M_exchange.2.2.2 16) [(9, 0), (9, 0), (9, 0), (9, 0), (9, 0), (9, 0), (9, 0), (9, 0), (9, 0), (9, 0), (9, 0), (9, 0), (9, 0)] [] μ = some ((-1), μ) := by
    intro C E
    rfl
  exact key _ _
set_option maxRecDepth 100000 in
theorem e_M_exchange_49 (z : zZ) (d : Nat) (v1 : Int) (v2 : Int) (v3 : Int) (v4 : Int) (v5 : Int) (v6 : Int) (v7 : Int) (v8 : Int) (μ : Mu) : f_M_exchange_49 z d v1 v2 v3 v4 v5 v6 v7 v8 μ = bif decide (144 ≤ v8) then (f_M_exchange_207 z d v2 v5 v6 v7 μ) else ((mC z d 271 [(2, 86), (0, v1), (0, z_div v8 12), (0, z_rem v8 12)] μ).bind fun q1 => (bif !decide (q1.1 = 0) then (f_M_exchange_86 z d v1 v2 v3 v4 v5 v6 v7 v8 (z_div v8 12) (z_rem v8 12) q1.2) else (f_M_exchange_201 z d v1 v2 v3 v4 v5 v6 v7 v8 q1.2))) := by
  show mE z d q_M_exchange 49 [(2, 86), (0, v1), (0, v2), (0, v3), (0, v4), (0, v5), (0, v6), (0, v7), (0, v8), (9, 0), (9, 0), (9, 0), (9, 0)] [] μ = _
  rw [mE_bk (M := q_M_exchange) k_M_exchange.1 k_M_exchange.2 [16, 49, 86, 165, 190, 201, 207, 214, 225, 238, 251, 253] 400]
  have key : ∀ (C : Nat → List zv → Mu → mR) (E : Nat → List zv → List zv → Mu → mR), mbk C E q_M_exchange.1 q_M_exchange.2.1 z q_M_exchange.2.2.2 [16, 49, 86, 165, 190, 201, 207, 214, 225, 238, 251, 253] 400 (zfind q_M_exchange.2.2.2 49) [(2, 86), (0, v1), (0, v2), (0, v3), (0, v4), (0, v5), (0, v6), (0, v7), (0, v8), (9, 0), (9, 0), (9, 0), (9, 0)] [] μ = bif decide (144 ≤ v8) then (g_M_exchange_207 E v2 v5 v6 v7 μ) else ((C 271 [(2, 86), (0, v1), (0, z_div v8 12), (0, z_rem v8 12)] μ).bind fun q1 => (bif !decide (q1.1 = 0) then (g_M_exchange_86 E v1 v2 v3 v4 v5 v6 v7 v8 (z_div v8 12) (z_rem v8 12) q1.2) else (g_M_exchange_201 E v1 v2 v3 v4 v5 v6 v7 v8 q1.2))) := by
    intro C E
    rfl
  exact key _ _
set_option maxRecDepth 100000 in
theorem e_M_exchange_207 (z : zZ) (d : Nat) (v2 : Int) (v5 : Int) (v6 : Int) (v7 : Int) (μ : Mu) : f_M_exchange_207 z d v2 v5 v6 v7 μ = bif !decide (v2 = 0) then (f_M_exchange_214 z d v2 v6 v7 μ) else (some (v5, μ)) := by
  show mE z d q_M_exchange 207 [(9, 0), (9, 0), (0, v2), (9, 0), (9, 0), (0, v5), (0, v6), (0, v7), (9, 0), (9, 0), (9, 0), (9, 0), (9, 0)] [] μ = _
  rw [mE_bk (M := q_M_exchange) k_M_exchange.1 k_M_exchange.2 [16, 49, 86, 165, 190, 201, 207, 214, 225, 238, 251, 253] 400]
  have key : ∀ (C : Nat → List zv → Mu → mR) (E : Nat → List zv → List zv → Mu → mR), mbk C E q_M_exchange.1 q_M_exchange.2.1 z q_M_exchange.2.2.2 [16, 49, 86, 165, 190, 201, 207, 214, 225, 238, 251, 253] 400 (zfind q_M_exchange.2.2.2 207) [(9, 0), (9, 0), (0, v2), (9, 0), (9, 0), (0, v5), (0, v6), (0, v7), (9, 0), (9, 0), (9, 0), (9, 0), (9, 0)] [] μ = bif !decide (v2 = 0) then (g_M_exchange_214 E v2 v6 v7 μ) else (some (v5, μ)) := by
    intro C E
    rfl
  exact key _ _
set_option maxRecDepth 100000 in
theorem e_M_exchange_86 (z : zZ) (d : Nat) (v1 : Int) (v2 : Int) (v3 : Int) (v4 : Int) (v5 : Int) (v6 : Int) (v7 : Int) (v8 : Int) (v9 : Int) (v10 : Int) (μ : Mu) : f_M_exchange_86 z d v1 v2 v3 v4 v5 v6 v7 v8 v9 v10 μ = (mC z d 272 [(2, 86), (0, v1), (0, v9), (0, v10)] μ).bind fun q1 => ((mC z d 263 [(2, 86), (0, v1)] q1.2).bind fun q2 => ((mC z d 263 [(2, 86), (0, zw (1 - v1))] q2.2).bind fun q3 => ((mC z d 254 [(2, 86)] q3.2).bind fun q4 => ((mC z d 246 [(2, 86), (0, v1)] q4.2).bind fun q5 => ((mC z d 248 [(2, 86), (0, 119), (0, 999)] (zup (zup q5.2 110 7 v9) 110 9 v10)).bind fun q6 => (bif decide (zw (q2.1 - v3) ≤ q6.1) then (f_M_exchange_201 z d v1 v2 v3 v4 v5 v6 v7 v8 q6.2) else (bif decide (0 < zw (q3.1 - v4)) then (f_M_exchange_165 z d v1 v2 v3 v4 v5 v6 v7 v8 (zw (q2.1 - v3)) (zw (q3.1 - v4)) q6.2) else (f_M_exchange_201 z d v1 v2 v3 v4 v5 v6 v7 v8 q6.2)))))))) := by
  show mE z d q_M_exchange 86 [(2, 86), (0, v1), (0, v2), (0, v3), (0, v4), (0, v5), (0, v6), (0, v7), (0, v8), (0, v9), (0, v10), (9, 0), (9, 0)] [] μ = _
  rw [mE_bk (M := q_M_exchange) k_M_exchange.1 k_M_exchange.2 [16, 49, 86, 165, 190, 201, 207, 214, 225, 238, 251, 253] 400]
  have key : ∀ (C : Nat → List zv → Mu → mR) (E : Nat → List zv → List zv → Mu → mR), mbk C E q_M_exchange.1 q_M_exchange.2.1 z q_M_exchange.2.2.2 [16, 49, 86, 165, 190, 201, 207, 214, 225, 238, 251, 253] 400 (zfind q_M_exchange.2.2.2 86) [(2, 86), (0, v1), (0, v2), (0, v3), (0, v4), (0, v5), (0, v6), (0, v7), (0, v8), (0, v9), (0, v10), (9, 0), (9, 0)] [] μ = (C 272 [(2, 86), (0, v1), (0, v9), (0, v10)] μ).bind fun q1 => ((C 263 [(2, 86), (0, v1)] q1.2).bind fun q2 => ((C 263 [(2, 86), (0, zw (1 - v1))] q2.2).bind fun q3 => ((C 254 [(2, 86)] q3.2).bind fun q4 => ((C 246 [(2, 86), (0, v1)] q4.2).bind fun q5 => ((C 248 [(2, 86), (0, 119), (0, 999)] (zup (zup q5.2 110 7 v9) 110 9 v10)).bind fun q6 => (bif decide (zw (q2.1 - v3) ≤ q6.1) then (g_M_exchange_201 E v1 v2 v3 v4 v5 v6 v7 v8 q6.2) else (bif decide (0 < zw (q3.1 - v4)) then (g_M_exchange_165 E v1 v2 v3 v4 v5 v6 v7 v8 (zw (q2.1 - v3)) (zw (q3.1 - v4)) q6.2) else (g_M_exchange_201 E v1 v2 v3 v4 v5 v6 v7 v8 q6.2)))))))) := by
    intro C E
    rfl
  exact key _ _
set_option maxRecDepth 100000 in
theorem e_M_exchange_201 (z : zZ) (d : Nat) (v1 : Int) (v2 : Int) (v3 : Int) (v4 : Int) (v5 : Int) (v6 : Int) (v7 : Int) (v8 : Int) (μ : Mu) : f_M_exchange_201 z d v1 v2 v3 v4 v5 v6 v7 v8 μ = f_M_exchange_49 z d v1 v2 v3 v4 v5 v6 v7 (zw (v8 + 1)) μ := by
  show mE z d q_M_exchange 201 [(2, 86), (0, v1), (0, v2), (0, v3), (0, v4), (0, v5), (0, v6), (0, v7), (0, v8), (9, 0), (9, 0), (9, 0), (9, 0)] [] μ = _
  rw [mE_bk (M := q_M_exchange) k_M_exchange.1 k_M_exchange.2 [16, 49, 86, 165, 190, 201, 207, 214, 225, 238, 251, 253] 400]
  have key : ∀ (C : Nat → List zv → Mu → mR) (E : Nat → List zv → List zv → Mu → mR), mbk C E q_M_exchange.1 q_M_exchange.2.1 z q_M_exchange.2.2.2 [16, 49, 86, 165, 190, 201, 207, 214, 225, 238, 251, 253] 400 (zfind q_M_exchange.2.2.2 201) [(2, 86), (0, v1), (0, v2), (0, v3), (0, v4), (0, v5), (0, v6), (0, v7), (0, v8), (9, 0), (9, 0), (9, 0), (9, 0)] [] μ = g_M_exchange_49 E v1 v2 v3 v4 v5 v6 v7 (zw (v8 + 1)) μ := by
    intro C E
    rfl
  exact key _ _
set_option maxRecDepth 100000 in
theorem e_M_exchange_214 (z : zZ) (d : Nat) (v2 : Int) (v6 : Int) (v7 : Int) (μ : Mu) : f_M_exchange_214 z d v2 v6 v7 μ = bif !decide (v6 = (-1)) then (f_M_exchange_225 z d v2 v6 v7 μ) else (f_M_exchange_253 z d ((-2)) μ) := by
  show mE z d q_M_exchange 214 [(9, 0), (9, 0), (0, v2), (9, 0), (9, 0), (9, 0), (0, v6), (0, v7), (9, 0), (9, 0), (9, 0), (9, 0), (9, 0)] [] μ = _
  rw [mE_bk (M := q_M_exchange) k_M_exchange.1 k_M_exchange.2 [16, 49, 86, 165, 190, 201, 207, 214, 225, 238, 251, 253] 400]
  have key : ∀ (C : Nat → List zv → Mu → mR) (E : Nat → List zv → List zv → Mu → mR), mbk C E q_M_exchange.1 q_M_exchange.2.1 z q_M_exchange.2.2.2 [16, 49, 86, 165, 190, 201, 207, 214, 225, 238, 251, 253] 400 (zfind q_M_exchange.2.2.2 214) [(9, 0), (9, 0), (0, v2), (9, 0), (9, 0), (9, 0), (0, v6), (0, v7), (9, 0), (9, 0), (9, 0), (9, 0), (9, 0)] [] μ = bif !decide (v6 = (-1)) then (g_M_exchange_225 E v2 v6 v7 μ) else (g_M_exchange_253 E ((-2)) μ) := by
    intro C E
    rfl
  exact key _ _
set_option maxRecDepth 100000 in
theorem e_M_exchange_165 (z : zZ) (d : Nat) (v1 : Int) (v2 : Int) (v3 : Int) (v4 : Int) (v5 : Int) (v6 : Int) (v7 : Int) (v8 : Int) (v11 : Int) (v12 : Int) (μ : Mu) : f_M_exchange_165 z d v1 v2 v3 v4 v5 v6 v7 v8 v11 v12 μ = bif decide (v6 = (-1)) then (f_M_exchange_190 z d v1 v2 v3 v4 (zw (v5 + 1)) v8 v11 v12 μ) else (bif decide (v7 < zw (v11 + v12)) then (f_M_exchange_190 z d v1 v2 v3 v4 (zw (v5 + 1)) v8 v11 v12 μ) else (f_M_exchange_201 z d v1 v2 v3 v4 (zw (v5 + 1)) v6 v7 v8 μ)) := by
  show mE z d q_M_exchange 165 [(2, 86), (0, v1), (0, v2), (0, v3), (0, v4), (0, v5), (0, v6), (0, v7), (0, v8), (9, 0), (9, 0), (0, v11), (0, v12)] [] μ = _
  rw [mE_bk (M := q_M_exchange) k_M_exchange.1 k_M_exchange.2 [16, 49, 86, 165, 190, 201, 207, 214, 225, 238, 251, 253] 400]
  have key : ∀ (C : Nat → List zv → Mu → mR) (E : Nat → List zv → List zv → Mu → mR), mbk C E q_M_exchange.1 q_M_exchange.2.1 z q_M_exchange.2.2.2 [16, 49, 86, 165, 190, 201, 207, 214, 225, 238, 251, 253] 400 (zfind q_M_exchange.2.2.2 165) [(2, 86), (0, v1), (0, v2), (0, v3), (0, v4), (0, v5), (0, v6), (0, v7), (0, v8), (9, 0), (9, 0), (0, v11), (0, v12)] [] μ = bif decide (v6 = (-1)) then (g_M_exchange_190 E v1 v2 v3 v4 (zw (v5 + 1)) v8 v11 v12 μ) else (bif decide (v7 < zw (v11 + v12)) then (g_M_exchange_190 E v1 v2 v3 v4 (zw (v5 + 1)) v8 v11 v12 μ) else (g_M_exchange_201 E v1 v2 v3 v4 (zw (v5 + 1)) v6 v7 v8 μ)) := by
    intro C E
    rfl
  exact key _ _
set_option maxRecDepth 100000 in
theorem e_M_exchange_225 (z : zZ) (d : Nat) (v2 : Int) (v6 : Int) (v7 : Int) (μ : Mu) : f_M_exchange_225 z d v2 v6 v7 μ = bif !decide (v2 = 1) then (f_M_exchange_238 z d v2 v6 v7 μ) else (f_M_exchange_253 z d (z_div v6 12) μ) := by
  show mE z d q_M_exchange 225 [(9, 0), (9, 0), (0, v2), (9, 0), (9, 0), (9, 0), (0, v6), (0, v7), (9, 0), (9, 0), (9, 0), (9, 0), (9, 0)] [] μ = _
  rw [mE_bk (M := q_M_exchange) k_M_exchange.1 k_M_exchange.2 [16, 49, 86, 165, 190, 201, 207, 214, 225, 238, 251, 253] 400]
  have key : ∀ (C : Nat → List zv → Mu → mR) (E : Nat → List zv → List zv → Mu → mR), mbk C E q_M_exchange.1 q_M_exchange.2.1 z q_M_exchange.2.2.2 [16, 49, 86, 165, 190, 201, 207, 214, 225, 238, 251, 253] 400 (zfind q_M_exchange.2.2.2 225) [(9, 0), (9, 0), (0, v2), (9, 0), (9, 0), (9, 0), (0, v6), (0, v7), (9, 0), (9, 0), (9, 0), (9, 0), (9, 0)] [] μ = bif !decide (v2 = 1) then (g_M_exchange_238 E v2 v6 v7 μ) else (g_M_exchange_253 E (z_div v6 12) μ) := by
    intro C E
    rfl
  exact key _ _
set_option maxRecDepth 100000 in
theorem e_M_exchange_253 (z : zZ) (d : Nat) (v100 : Int) (μ : Mu) : f_M_exchange_253 z d v100 μ = some (v100, μ) := by
  show mE z d q_M_exchange 253 [(9, 0), (9, 0), (9, 0), (9, 0), (9, 0), (9, 0), (9, 0), (9, 0), (9, 0), (9, 0), (9, 0), (9, 0), (9, 0)] [(0, v100)] μ = _
  rw [mE_bk (M := q_M_exchange) k_M_exchange.1 k_M_exchange.2 [16, 49, 86, 165, 190, 201, 207, 214, 225, 238, 251, 253] 400]
  have key : ∀ (C : Nat → List zv → Mu → mR) (E : Nat → List zv → List zv → Mu → mR), mbk C E q_M_exchange.1 q_M_exchange.2.1 z q_M_exchange.2.2.2 [16, 49, 86, 165, 190, 201, 207, 214, 225, 238, 251, 253] 400 (zfind q_M_exchange.2.2.2 253) [(9, 0), (9, 0), (9, 0), (9, 0), (9, 0), (9, 0), (9, 0), (9, 0), (9, 0), (9, 0), (9, 0), (9, 0), (9, 0)] [(0, v100)] μ = some (v100, μ) := by
    intro C E
    rfl
  exact key _ _
set_option maxRecDepth 100000 in
theorem e_M_exchange_190 (z : zZ) (d : Nat) (v1 : Int) (v2 : Int) (v3 : Int) (v4 : Int) (v5 : Int) (v8 : Int) (v11 : Int) (v12 : Int) (μ : Mu) : f_M_exchange_190 z d v1 v2 v3 v4 v5 v8 v11 v12 μ = f_M_exchange_201 z d v1 v2 v3 v4 v5 v8 (zw (v11 + v12)) v8 μ := by
  show mE z d q_M_exchange 190 [(2, 86), (0, v1), (0, v2), (0, v3), (0, v4), (0, v5), (9, 0), (9, 0), (0, v8), (9, 0), (9, 0), (0, v11), (0, v12)] [] μ = _
  rw [mE_bk (M := q_M_exchange) k_M_exchange.1 k_M_exchange.2 [16, 49, 86, 165, 190, 201, 207, 214, 225, 238, 251, 253] 400]
  have key : ∀ (C : Nat → List zv → Mu → mR) (E : Nat → List zv → List zv → Mu → mR), mbk C E q_M_exchange.1 q_M_exchange.2.1 z q_M_exchange.2.2.2 [16, 49, 86, 165, 190, 201, 207, 214, 225, 238, 251, 253] 400 (zfind q_M_exchange.2.2.2 190) [(2, 86), (0, v1), (0, v2), (0, v3), (0, v4), (0, v5), (9, 0), (9, 0), (0, v8), (9, 0), (9, 0), (0, v11), (0, v12)] [] μ = g_M_exchange_201 E v1 v2 v3 v4 v5 v8 (zw (v11 + v12)) v8 μ := by
    intro C E
    rfl
  exact key _ _
set_option maxRecDepth 100000 in
theorem e_M_exchange_238 (z : zZ) (d : Nat) (v2 : Int) (v6 : Int) (v7 : Int) (μ : Mu) : f_M_exchange_238 z d v2 v6 v7 μ = bif !decide (v2 = 2) then (f_M_exchange_251 z d v7 μ) else (f_M_exchange_253 z d (z_rem v6 12) μ) := by
  show mE z d q_M_exchange 238 [(9, 0), (9, 0), (0, v2), (9, 0), (9, 0), (9, 0), (0, v6), (0, v7), (9, 0), (9, 0), (9, 0), (9, 0), (9, 0)] [] μ = _
  rw [mE_bk (M := q_M_exchange) k_M_exchange.1 k_M_exchange.2 [16, 49, 86, 165, 190, 201, 207, 214, 225, 238, 251, 253] 400]
  have key : ∀ (C : Nat → List zv → Mu → mR) (E : Nat → List zv → List zv → Mu → mR), mbk C E q_M_exchange.1 q_M_exchange.2.1 z q_M_exchange.2.2.2 [16, 49, 86, 165, 190, 201, 207, 214, 225, 238, 251, 253] 400 (zfind q_M_exchange.2.2.2 238) [(9, 0), (9, 0), (0, v2), (9, 0), (9, 0), (9, 0), (0, v6), (0, v7), (9, 0), (9, 0), (9, 0), (9, 0), (9, 0)] [] μ = bif !decide (v2 = 2) then (g_M_exchange_251 E v7 μ) else (g_M_exchange_253 E (z_rem v6 12) μ) := by
    intro C E
    rfl
  exact key _ _
set_option maxRecDepth 100000 in
theorem e_M_exchange_251 (z : zZ) (d : Nat) (v7 : Int) (μ : Mu) : f_M_exchange_251 z d v7 μ = f_M_exchange_253 z d v7 μ := by
  show mE z d q_M_exchange 251 [(9, 0), (9, 0), (9, 0), (9, 0), (9, 0), (9, 0), (9, 0), (0, v7), (9, 0), (9, 0), (9, 0), (9, 0), (9, 0)] [] μ = _
  rw [mE_bk (M := q_M_exchange) k_M_exchange.1 k_M_exchange.2 [16, 49, 86, 165, 190, 201, 207, 214, 225, 238, 251, 253] 400]
  have key : ∀ (C : Nat → List zv → Mu → mR) (E : Nat → List zv → List zv → Mu → mR), mbk C E q_M_exchange.1 q_M_exchange.2.1 z q_M_exchange.2.2.2 [16, 49, 86, 165, 190, 201, 207, 214, 225, 238, 251, 253] 400 (zfind q_M_exchange.2.2.2 251) [(9, 0), (9, 0), (9, 0), (9, 0), (9, 0), (9, 0), (9, 0), (0, v7), (9, 0), (9, 0), (9, 0), (9, 0), (9, 0)] [] μ = g_M_exchange_253 E v7 μ := by
    intro C E
    rfl
  exact key _ _
