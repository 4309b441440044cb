theorem k_M_readsFirst : zprK q_M_readsFirst.2.2.2 = true ∧ zinc q_M_readsFirst.2.2.2 = true := by decide +kernel
set_option maxRecDepth 100000 in
theorem c_M_readsFirst (z : zZ) (d : Nat) (μ : Mu) : mC z (d + 1) 231 [(2, 86)] μ = (mC z d 195 [(2, 86), (2, 112), (0, zw (8 * (μ 86 48)))] μ).bind fun q1 => (gI (q1.2 86 48) 12 (g01 q1.1 (some (q1.1, zup q1.2 113 ((q1.2 86 48).toNat) (q1.2 86 13))))) := by
  rw [mC_succ q_M_readsFirst rfl rfl rfl]
  rw [mE_bk (M := q_M_readsFirst) k_M_readsFirst.1 k_M_readsFirst.2 [] 400]
  have key : ∀ (C : Nat → List zv → Mu → mR) (E : Nat → List zv → List zv → Mu → mR), mbk C E q_M_readsFirst.1 q_M_readsFirst.2.1 z q_M_readsFirst.2.2.2 [] 400 (zfind q_M_readsFirst.2.2.2 0) (zentry q_M_readsFirst.2.2.1 [(2, 86)]) [] μ = (C 195 [(2, 86), (2, 112), (0, zw (8 * (μ 86 48)))] μ).bind fun q1 => (gI (q1.2 86 48) 12 (g01 q1.1 (some (q1.1, zup q1.2 113 ((q1.2 86 48).toNat) (q1.2 86 13))))) := by
    intro C E
    rfl
  exact key _ _
def g_M_readsSpy_16 (E : Nat → List zv → List zv → Mu → mR) (μ : Mu) : mR := E 16 [(9, 0), (9, 0)] [] μ
noncomputable def f_M_readsSpy_16 (z : zZ) (d : Nat) (μ : Mu) : mR := g_M_readsSpy_16 (fun pc ls st μ => mE z d q_M_readsSpy pc ls st μ) μ
def g_M_readsSpy_34 (E : Nat → List zv → List zv → Mu → mR) (v100 : Int) (μ : Mu) : mR := E 34 [(2, 86), (9, 0)] [(0, v100)] μ
noncomputable def f_M_readsSpy_34 (z : zZ) (d : Nat) (v100 : Int) (μ : Mu) : mR := g_M_readsSpy_34 (fun pc ls st μ => mE z d q_M_readsSpy pc ls st μ) v100 μ
def g_M_readsSpy_61 (E : Nat → List zv → List zv → Mu → mR) (μ : Mu) : mR := E 61 [(2, 86), (9, 0)] [] μ
noncomputable def f_M_readsSpy_61 (z : zZ) (d : Nat) (μ : Mu) : mR := g_M_readsSpy_61 (fun pc ls st μ => mE z d q_M_readsSpy pc ls st μ) μ
def g_M_readsSpy_98 (E : Nat → List zv → List zv → Mu → mR) (v1 : Int) (v100 : Int) (μ : Mu) : mR := E 98 [(2, 86), (0, v1)] [(0, v100)] μ
noncomputable def f_M_readsSpy_98 (z : zZ) (d : Nat) (v1 : Int) (v100 : Int) (μ : Mu) : mR := g_M_readsSpy_98 (fun pc ls st μ => mE z d q_M_readsSpy pc ls st μ) v1 v100 μ
theorem k_M_readsSpy : zprK q_M_readsSpy.2.2.2 = true ∧ zinc q_M_readsSpy.2.2.2 = true := by decide +kernel
set_option maxRecDepth 100000 in
theorem c_M_readsSpy (z : zZ) (d : Nat) (μ : Mu) : mC z (d + 1) 232 [(2, 86)] μ = (mC z d 231 [(2, 86)] μ).bind fun q1 => (bif decide (q1.1 = 0) then (f_M_readsSpy_16 z d q1.2) else ((mC z d 197 [(2, 86), (0, 46)] q1.2).bind fun q2 => (bif !decide (q2.1 = 0) then ((mC z d 214 [(2, 86)] q2.2).bind fun q3 => (bif !decide (q3.1 = 0) then ((mC z d 193 [(2, 86)] q3.2).bind fun q4 => (bif decide (zw (q4.1 - 48) < 1) then (f_M_readsSpy_61 z d q4.2) else (gI (q4.2 86 48) 12 (bif decide (zw (q4.1 - 48) ≤ q4.2 113 ((q4.2 86 48).toNat)) then (gI (q4.2 86 48) 12 ((mC z d 192 [(2, 86)] (zup (zup q4.2 116 ((q4.2 86 48).toNat) (zw ((zw (q4.1 - 48)) - 1))) 86 10 (zw ((q4.2 86 10) + 1)))).bind fun q5 => (f_M_readsSpy_98 z d (zw (q4.1 - 48)) q5.1 q5.2))) else (f_M_readsSpy_61 z d q4.2))))) else ((mC z d 194 [(2, 86), (0, 1), (0, q3.2 86 10)] q3.2).bind fun q6 => (f_M_readsSpy_34 z d q6.1 q6.2)))) else (f_M_readsSpy_16 z d q2.2)))) := by
  rw [mC_succ q_M_readsSpy rfl rfl rfl]
  rw [mE_bk (M := q_M_readsSpy) k_M_readsSpy.1 k_M_readsSpy.2 [16, 34, 61, 98] 400]
  have key : ∀ (C : Nat → List zv → Mu → mR) (E : Nat → List zv → List zv → Mu → mR), mbk C E q_M_readsSpy.1 q_M_readsSpy.2.1 z q_M_readsSpy.2.2.2 [16, 34, 61, 98] 400 (zfind q_M_readsSpy.2.2.2 0) (zentry q_M_readsSpy.2.2.1 [(2, 86)]) [] μ = (C 231 [(2, 86)] μ).bind fun q1 => (bif decide (q1.1 = 0) then (g_M_readsSpy_16 E q1.2) else ((C 197 [(2, 86), (0, 46)] q1.2).bind fun q2 => (bif !decide (q2.1 = 0) then ((C 214 [(2, 86)] q2.2).bind fun q3 => (bif !decide (q3.1 = 0) then ((C 193 [(2, 86)] q3.2).bind fun q4 => (bif decide (zw (q4.1 - 48) < 1) then (g_M_readsSpy_61 E q4.2) else (gI (q4.2 86 48) 12 (bif decide (zw (q4.1 - 48) ≤ q4.2 113 ((q4.2 86 48).toNat)) then (gI (q4.2 86 48) 12 ((C 192 [(2, 86)] (zup (zup q4.2 116 ((q4.2 86 48).toNat) (zw ((zw (q4.1 - 48)) - 1))) 86 10 (zw ((q4.2 86 10) + 1)))).bind fun q5 => (g_M_readsSpy_98 E (zw (q4.1 - 48)) q5.1 q5.2))) else (g_M_readsSpy_61 E q4.2))))) else ((C 194 [(2, 86), (0, 1), (0, q3.2 86 10)] q3.2).bind fun q6 => (g_M_readsSpy_34 E q6.1 q6.2)))) else (g_M_readsSpy_16 E q2.2)))) := by
    intro C E
    rfl
  exact key _ _
set_option maxRecDepth 100000 in
theorem e_M_readsSpy_16 (z : zZ) (d : Nat) (μ : Mu) : f_M_readsSpy_16 z d μ = some (0, μ) := by
  show mE z d q_M_readsSpy 16 [(9, 0), (9, 0)] [] μ = _
  rw [mE_bk (M := q_M_readsSpy) k_M_readsSpy.1 k_M_readsSpy.2 [16, 34, 61, 98] 400]
  have key : ∀ (C : Nat → List zv → Mu → mR) (E : Nat → List zv → List zv → Mu → mR), mbk C E q_M_readsSpy.1 q_M_readsSpy.2.1 z q_M_readsSpy.2.2.2 [16, 34, 61, 98] 400 (zfind q_M_readsSpy.2.2.2 16) [(9, 0), (9, 0)] [] μ = some (0, μ) := by
    intro C E
    rfl
  exact key _ _
set_option maxRecDepth 100000 in
theorem e_M_readsSpy_61 (z : zZ) (d : Nat) (μ : Mu) : f_M_readsSpy_61 z d μ = (mC z d 194 [(2, 86), (0, 6), (0, μ 86 10)] μ).bind fun q1 => (g01 q1.1 (some (q1.1, q1.2))) := by
  show mE z d q_M_readsSpy 61 [(2, 86), (9, 0)] [] μ = _
  rw [mE_bk (M := q_M_readsSpy) k_M_readsSpy.1 k_M_readsSpy.2 [16, 34, 61, 98] 400]
  have key : ∀ (C : Nat → List zv → Mu → mR) (E : Nat → List zv → List zv → Mu → mR), mbk C E q_M_readsSpy.1 q_M_readsSpy.2.1 z q_M_readsSpy.2.2.2 [16, 34, 61, 98] 400 (zfind q_M_readsSpy.2.2.2 61) [(2, 86), (9, 0)] [] μ = (C 194 [(2, 86), (0, 6), (0, μ 86 10)] μ).bind fun q1 => (g01 q1.1 (some (q1.1, q1.2))) := by
    intro C E
    rfl
  exact key _ _
set_option maxRecDepth 100000 in
theorem e_M_readsSpy_98 (z : zZ) (d : Nat) (v1 : Int) (v100 : Int) (μ : Mu) : f_M_readsSpy_98 z d v1 v100 μ = bif !decide (v100 = 0) then ((mC z d 193 [(2, 86)] μ).bind fun q1 => (gI (μ 86 48) 12 (some (1, zup (zup q1.2 117 ((μ 86 48).toNat) (zw (q1.1 - 97))) 86 10 (zw ((q1.2 86 10) + 1)))))) else ((mC z d 194 [(2, 86), (0, 1), (0, μ 86 10)] μ).bind fun q2 => (g01 q2.1 (some (q2.1, q2.2)))) := by
  show mE z d q_M_readsSpy 98 [(2, 86), (0, v1)] [(0, v100)] μ = _
  rw [mE_bk (M := q_M_readsSpy) k_M_readsSpy.1 k_M_readsSpy.2 [16, 34, 61, 98] 400]
  have key : ∀ (C : Nat → List zv → Mu → mR) (E : Nat → List zv → List zv → Mu → mR), mbk C E q_M_readsSpy.1 q_M_readsSpy.2.1 z q_M_readsSpy.2.2.2 [16, 34, 61, 98] 400 (zfind q_M_readsSpy.2.2.2 98) [(2, 86), (0, v1)] [(0, v100)] μ = bif !decide (v100 = 0) then ((C 193 [(2, 86)] μ).bind fun q1 => (gI (μ 86 48) 12 (some (1, zup (zup q1.2 117 ((μ 86 48).toNat) (zw (q1.1 - 97))) 86 10 (zw ((q1.2 86 10) + 1)))))) else ((C 194 [(2, 86), (0, 1), (0, μ 86 10)] μ).bind fun q2 => (g01 q2.1 (some (q2.1, q2.2)))) := by
    intro C E
    rfl
  exact key _ _
set_option maxRecDepth 100000 in
theorem e_M_readsSpy_34 (z : zZ) (d : Nat) (v100 : Int) (μ : Mu) : f_M_readsSpy_34 z d v100 μ = g01 v100 (some (v100, μ)) := by
  show mE z d q_M_readsSpy 34 [(2, 86), (9, 0)] [(0, v100)] μ = _
  rw [mE_bk (M := q_M_readsSpy) k_M_readsSpy.1 k_M_readsSpy.2 [16, 34, 61, 98] 400]
  have key : ∀ (C : Nat → List zv → Mu → mR) (E : Nat → List zv → List zv → Mu → mR), mbk C E q_M_readsSpy.1 q_M_readsSpy.2.1 z q_M_readsSpy.2.2.2 [16, 34, 61, 98] 400 (zfind q_M_readsSpy.2.2.2 34) [(2, 86), (9, 0)] [(0, v100)] μ = g01 v100 (some (v100, μ)) := by
    intro C E
    rfl
  exact key _ _
def g_M_does_19 (E : Nat → List zv → List zv → Mu → mR) (v1 : Int) (v2 : Int) (v3 : Int) (v100 : Int) (μ : Mu) : mR := E 19 [(2, 86), (0, v1), (0, v2), (0, v3), (9, 0), (9, 0), (9, 0)] [(0, v100)] μ
noncomputable def f_M_does_19 (z : zZ) (d : Nat) (v1 : Int) (v2 : Int) (v3 : Int) (v100 : Int) (μ : Mu) : mR := g_M_does_19 (fun pc ls st μ => mE z d q_M_does pc ls st μ) v1 v2 v3 v100 μ
def g_M_does_62 (E : Nat → List zv → List zv → Mu → mR) (v1 : Int) (v2 : Int) (v3 : Int) (v4 : Int) (v5 : Int) (v100 : Int) (μ : Mu) : mR := E 62 [(2, 86), (0, v1), (0, v2), (0, v3), (0, v4), (0, v5), (9, 0)] [(0, v100)] μ
noncomputable def f_M_does_62 (z : zZ) (d : Nat) (v1 : Int) (v2 : Int) (v3 : Int) (v4 : Int) (v5 : Int) (v100 : Int) (μ : Mu) : mR := g_M_does_62 (fun pc ls st μ => mE z d q_M_does pc ls st μ) v1 v2 v3 v4 v5 v100 μ
def g_M_does_91 (E : Nat → List zv → List zv → Mu → mR) (v1 : Int) (v2 : Int) (v3 : Int) (v5 : Int) (v100 : Int) (μ : Mu) : mR := E 91 [(2, 86), (0, v1), (0, v2), (0, v3), (9, 0), (0, v5), (9, 0)] [(0, v100)] μ
noncomputable def f_M_does_91 (z : zZ) (d : Nat) (v1 : Int) (v2 : Int) (v3 : Int) (v5 : Int) (v100 : Int) (μ : Mu) : mR := g_M_does_91 (fun pc ls st μ => mE z d q_M_does pc ls st μ) v1 v2 v3 v5 v100 μ
def g_M_does_116 (E : Nat → List zv → List zv → Mu → mR) (v1 : Int) (v2 : Int) (v3 : Int) (v5 : Int) (v100 : Int) (μ : Mu) : mR := E 116 [(2, 86), (0, v1), (0, v2), (0, v3), (9, 0), (0, v5), (9, 0)] [(0, v100)] μ
noncomputable def f_M_does_116 (z : zZ) (d : Nat) (v1 : Int) (v2 : Int) (v3 : Int) (v5 : Int) (v100 : Int) (μ : Mu) : mR := g_M_does_116 (fun pc ls st μ => mE z d q_M_does pc ls st μ) v1 v2 v3 v5 v100 μ
def g_M_does_117 (E : Nat → List zv → List zv → Mu → mR) (v1 : Int) (v2 : Int) (v3 : Int) (v5 : Int) (μ : Mu) : mR := E 117 [(2, 86), (0, v1), (0, v2), (0, v3), (9, 0), (0, v5), (9, 0)] [] μ
noncomputable def f_M_does_117 (z : zZ) (d : Nat) (v1 : Int) (v2 : Int) (v3 : Int) (v5 : Int) (μ : Mu) : mR := g_M_does_117 (fun pc ls st μ => mE z d q_M_does pc ls st μ) v1 v2 v3 v5 μ
def g_M_does_142 (E : Nat → List zv → List zv → Mu → mR) (v1 : Int) (v2 : Int) (v3 : Int) (v5 : Int) (v101 : Int) (v103 : Int) (μ : Mu) : mR := E 142 [(2, 86), (0, v1), (0, v2), (0, v3), (9, 0), (0, v5), (9, 0)] [(0, v103), (2, 94), (0, v101), (2, 86)] μ
noncomputable def f_M_does_142 (z : zZ) (d : Nat) (v1 : Int) (v2 : Int) (v3 : Int) (v5 : Int) (v101 : Int) (v103 : Int) (μ : Mu) : mR := g_M_does_142 (fun pc ls st μ => mE z d q_M_does pc ls st μ) v1 v2 v3 v5 v101 v103 μ
def g_M_does_198 (E : Nat → List zv → List zv → Mu → mR) (μ : Mu) : mR := E 198 [(9, 0), (9, 0), (9, 0), (9, 0), (9, 0), (9, 0), (9, 0)] [] μ
noncomputable def f_M_does_198 (z : zZ) (d : Nat) (μ : Mu) : mR := g_M_does_198 (fun pc ls st μ => mE z d q_M_does pc ls st μ) μ
def g_M_does_200 (E : Nat → List zv → List zv → Mu → mR) (v1 : Int) (v5 : Int) (v6 : Int) (μ : Mu) : mR := E 200 [(2, 86), (0, v1), (9, 0), (9, 0), (9, 0), (0, v5), (0, v6)] [] μ
noncomputable def f_M_does_200 (z : zZ) (d : Nat) (v1 : Int) (v5 : Int) (v6 : Int) (μ : Mu) : mR := g_M_does_200 (fun pc ls st μ => mE z d q_M_does pc ls st μ) v1 v5 v6 μ
def g_M_does_235 (E : Nat → List zv → List zv → Mu → mR) (μ : Mu) : mR := E 235 [(9, 0), (9, 0), (9, 0), (9, 0), (9, 0), (9, 0), (9, 0)] [] μ
noncomputable def f_M_does_235 (z : zZ) (d : Nat) (μ : Mu) : mR := g_M_does_235 (fun pc ls st μ => mE z d q_M_does pc ls st μ) μ
theorem k_M_does : zprK q_M_does.2.2.2 = true ∧ zinc q_M_does.2.2.2 = true := by decide +kernel
set_option maxRecDepth 100000 in
theorem c_M_does (z : zZ) (d : Nat) (v1 : Int) (v2 : Int) (μ : Mu) : mC z (d + 1) 233 [(2, 86), (0, v1), (0, v2)] μ = gI v2 12 (bif !decide (μ 111 v2.toNat = 4) then (f_M_does_19 z d v1 v2 (μ 111 v2.toNat) v1 μ) else (f_M_does_19 z d v1 v2 (μ 111 v2.toNat) (zw (1 - v1)) μ)) := by
  rw [mC_succ q_M_does rfl rfl rfl]
  rw [mE_bk (M := q_M_does) k_M_does.1 k_M_does.2 [19, 62, 91, 116, 117, 142, 198, 200, 235] 400]
  have key : ∀ (C : Nat → List zv → Mu → mR) (E : Nat → List zv → List zv → Mu → mR), mbk C E q_M_does.1 q_M_does.2.1 z q_M_does.2.2.2 [19, 62, 91, 116, 117, 142, 198, 200, 235] 400 (zfind q_M_does.2.2.2 0) (zentry q_M_does.2.2.1 [(2, 86), (0, v1), (0, v2)]) [] μ = gI v2 12 (bif !decide (μ 111 v2.toNat = 4) then (g_M_does_19 E v1 v2 (μ 111 v2.toNat) v1 μ) else (g_M_does_19 E v1 v2 (μ 111 v2.toNat) (zw (1 - v1)) μ)) := by
    intro C E
    rfl
  exact key _ _
set_option maxRecDepth 100000 in
theorem e_M_does_19 (z : zZ) (d : Nat) (v1 : Int) (v2 : Int) (v3 : Int) (v100 : Int) (μ : Mu) : f_M_does_19 z d v1 v2 v3 v100 μ = gI v2 12 ((mC z d 206 [(2, 86), (0, v100), (2, 112), (0, zw (8 * v2)), (0, μ 113 v2.toNat)] μ).bind fun q1 => (bif !decide (q1.1 = (-1)) then (bif !decide (v3 = 0) then ((mC z d 199 [(2, 86), (0, v100)] q1.2).bind fun q2 => ((mC z d 189 [(0, q2.1), (0, q1.1)] q2.2).bind fun q3 => (bif !decide (q3.1 = 0) then (bif !decide (v3 = 2) then (bif !decide (v3 = 4) then (f_M_does_117 z d v1 v2 v3 q1.1 q3.2) else (gI v2 12 (gI v2 12 ((mC z d 240 [(2, 86), (0, v1), (0, q1.1), (0, q3.2 116 v2.toNat), (0, q3.2 117 v2.toNat)] q3.2).bind fun q4 => (f_M_does_116 z d v1 v2 v3 q1.1 q4.1 q4.2))))) else ((mC z d 239 [(2, 86), (0, v1), (0, q1.1)] q3.2).bind fun q5 => (f_M_does_91 z d v1 v2 v3 q1.1 q5.1 q5.2))) else (some (0, q3.2))))) else ((mC z d 234 [(2, 86), (0, v1), (0, q1.1)] q1.2).bind fun q6 => (f_M_does_62 z d v1 v2 v3 v100 q1.1 q6.1 q6.2))) else (some (0, q1.2)))) := by
  show mE z d q_M_does 19 [(2, 86), (0, v1), (0, v2), (0, v3), (9, 0), (9, 0), (9, 0)] [(0, v100)] μ = _
  rw [mE_bk (M := q_M_does) k_M_does.1 k_M_does.2 [19, 62, 91, 116, 117, 142, 198, 200, 235] 400]
  have key : ∀ (C : Nat → List zv → Mu → mR) (E : Nat → List zv → List zv → Mu → mR), mbk C E q_M_does.1 q_M_does.2.1 z q_M_does.2.2.2 [19, 62, 91, 116, 117, 142, 198, 200, 235] 400 (zfind q_M_does.2.2.2 19) [(2, 86), (0, v1), (0, v2), (0, v3), (9, 0), (9, 0), (9, 0)] [(0, v100)] μ = gI v2 12 ((C 206 [(2, 86), (0, v100), (2, 112), (0, zw (8 * v2)), (0, μ 113 v2.toNat)] μ).bind fun q1 => (bif !decide (q1.1 = (-1)) then (bif !decide (v3 = 0) then ((C 199 [(2, 86), (0, v100)] q1.2).bind fun q2 => ((C 189 [(0, q2.1), (0, q1.1)] q2.2).bind fun q3 => (bif !decide (q3.1 = 0) then (bif !decide (v3 = 2) then (bif !decide (v3 = 4) then (g_M_does_117 E v1 v2 v3 q1.1 q3.2) else (gI v2 12 (gI v2 12 ((C 240 [(2, 86), (0, v1), (0, q1.1), (0, q3.2 116 v2.toNat), (0, q3.2 117 v2.toNat)] q3.2).bind fun q4 => (g_M_does_116 E v1 v2 v3 q1.1 q4.1 q4.2))))) else ((C 239 [(2, 86), (0, v1), (0, q1.1)] q3.2).bind fun q5 => (g_M_does_91 E v1 v2 v3 q1.1 q5.1 q5.2))) else (some (0, q3.2))))) else ((C 234 [(2, 86), (0, v1), (0, q1.1)] q1.2).bind fun q6 => (g_M_does_62 E v1 v2 v3 v100 q1.1 q6.1 q6.2))) else (some (0, q1.2)))) := by
    intro C E
    rfl
  exact key _ _
set_option maxRecDepth 100000 in
theorem e_M_does_117 (z : zZ) (d : Nat) (v1 : Int) (v2 : Int) (v3 : Int) (v5 : Int) (μ : Mu) : f_M_does_117 z d v1 v2 v3 v5 μ = bif !decide (v3 = 1) then (gI v2 12 ((mC z d 206 [(2, 86), (0, zw (1 - v1)), (2, 114), (0, zw (8 * v2)), (0, μ 115 v2.toNat)] μ).bind fun q1 => (bif decide (q1.1 = (-1)) then (f_M_does_198 z d q1.2) else ((mC z d 199 [(2, 86), (0, zw (1 - v1))] q1.2).bind fun q2 => ((mC z d 189 [(0, q2.1), (0, q1.1)] q2.2).bind fun q3 => (bif !decide (q3.1 = 0) then (f_M_does_200 z d v1 v5 q1.1 q3.2) else (f_M_does_198 z d q3.2))))))) else ((mC z d 238 [(2, 86), (0, v1), (0, v5), (0, 0)] μ).bind fun q4 => ((mC z d 201 [(0, v1), (0, v5)] q4.2).bind fun q5 => (f_M_does_142 z d v1 v2 v3 v5 v1 q5.1 q5.2))) := by
  show mE z d q_M_does 117 [(2, 86), (0, v1), (0, v2), (0, v3), (9, 0), (0, v5), (9, 0)] [] μ = _
  rw [mE_bk (M := q_M_does) k_M_does.1 k_M_does.2 [19, 62, 91, 116, 117, 142, 198, 200, 235] 400]
  have key : ∀ (C : Nat → List zv → Mu → mR) (E : Nat → List zv → List zv → Mu → mR), mbk C E q_M_does.1 q_M_does.2.1 z q_M_does.2.2.2 [19, 62, 91, 116, 117, 142, 198, 200, 235] 400 (zfind q_M_does.2.2.2 117) [(2, 86), (0, v1), (0, v2), (0, v3), (9, 0), (0, v5), (9, 0)] [] μ = bif !decide (v3 = 1) then (gI v2 12 ((C 206 [(2, 86), (0, zw (1 - v1)), (2, 114), (0, zw (8 * v2)), (0, μ 115 v2.toNat)] μ).bind fun q1 => (bif decide (q1.1 = (-1)) then (g_M_does_198 E q1.2) else ((C 199 [(2, 86), (0, zw (1 - v1))] q1.2).bind fun q2 => ((C 189 [(0, q2.1), (0, q1.1)] q2.2).bind fun q3 => (bif !decide (q3.1 = 0) then (g_M_does_200 E v1 v5 q1.1 q3.2) else (g_M_does_198 E q3.2))))))) else ((C 238 [(2, 86), (0, v1), (0, v5), (0, 0)] μ).bind fun q4 => ((C 201 [(0, v1), (0, v5)] q4.2).bind fun q5 => (g_M_does_142 E v1 v2 v3 v5 v1 q5.1 q5.2))) := by
    intro C E
    rfl
  exact key _ _
set_option maxRecDepth 100000 in
theorem e_M_does_116 (z : zZ) (d : Nat) (v1 : Int) (v2 : Int) (v3 : Int) (v5 : Int) (v100 : Int) (μ : Mu) : f_M_does_116 z d v1 v2 v3 v5 v100 μ = g01 v100 (some (v100, μ)) := by
  show mE z d q_M_does 116 [(2, 86), (0, v1), (0, v2), (0, v3), (9, 0), (0, v5), (9, 0)] [(0, v100)] μ = _
  rw [mE_bk (M := q_M_does) k_M_does.1 k_M_does.2 [19, 62, 91, 116, 117, 142, 198, 200, 235] 400]
  have key : ∀ (C : Nat → List zv → Mu → mR) (E : Nat → List zv → List zv → Mu → mR), mbk C E q_M_does.1 q_M_does.2.1 z q_M_does.2.2.2 [19, 62, 91, 116, 117, 142, 198, 200, 235] 400 (zfind q_M_does.2.2.2 116) [(2, 86), (0, v1), (0, v2), (0, v3), (9, 0), (0, v5), (9, 0)] [(0, v100)] μ = g01 v100 (some (v100, μ)) := by
    intro C E
    rfl
  exact key _ _
set_option maxRecDepth 100000 in
theorem e_M_does_91 (z : zZ) (d : Nat) (v1 : Int) (v2 : Int) (v3 : Int) (v5 : Int) (v100 : Int) (μ : Mu) : f_M_does_91 z d v1 v2 v3 v5 v100 μ = g01 v100 (some (v100, μ)) := by
  show mE z d q_M_does 91 [(2, 86), (0, v1), (0, v2), (0, v3), (9, 0), (0, v5), (9, 0)] [(0, v100)] μ = _
  rw [mE_bk (M := q_M_does) k_M_does.1 k_M_does.2 [19, 62, 91, 116, 117, 142, 198, 200, 235] 400]
  have key : ∀ (C : Nat → List zv → Mu → mR) (E : Nat → List zv → List zv → Mu → mR), mbk C E q_M_does.1 q_M_does.2.1 z q_M_does.2.2.2 [19, 62, 91, 116, 117, 142, 198, 200, 235] 400 (zfind q_M_does.2.2.2 91) [(2, 86), (0, v1), (0, v2), (0, v3), (9, 0), (0, v5), (9, 0)] [(0, v100)] μ = g01 v100 (some (v100, μ)) := by
    intro C E
    rfl
  exact key _ _
set_option maxRecDepth 100000 in
theorem e_M_does_62 (z : zZ) (d : Nat) (v1 : Int) (v2 : Int) (v3 : Int) (v4 : Int) (v5 : Int) (v100 : Int) (μ : Mu) : f_M_does_62 z d v1 v2 v3 v4 v5 v100 μ = g01 v100 (some (v100, μ)) := by
  show mE z d q_M_does 62 [(2, 86), (0, v1), (0, v2), (0, v3), (0, v4), (0, v5), (9, 0)] [(0, v100)] μ = _
  rw [mE_bk (M := q_M_does) k_M_does.1 k_M_does.2 [19, 62, 91, 116, 117, 142, 198, 200, 235] 400]
  have key : ∀ (C : Nat → List zv → Mu → mR) (E : Nat → List zv → List zv → Mu → mR), mbk C E q_M_does.1 q_M_does.2.1 z q_M_does.2.2.2 [19, 62, 91, 116, 117, 142, 198, 200, 235] 400 (zfind q_M_does.2.2.2 62) [(2, 86), (0, v1), (0, v2), (0, v3), (0, v4), (0, v5), (9, 0)] [(0, v100)] μ = g01 v100 (some (v100, μ)) := by
    intro C E
    rfl
  exact key _ _
set_option maxRecDepth 100000 in
theorem e_M_does_198 (z : zZ) (d : Nat) (μ : Mu) : f_M_does_198 z d μ = some (0, μ) := by
  show mE z d q_M_does 198 [(9, 0), (9, 0), (9, 0), (9, 0), (9, 0), (9, 0), (9, 0)] [] μ = _
  rw [mE_bk (M := q_M_does) k_M_does.1 k_M_does.2 [19, 62, 91, 116, 117, 142, 198, 200, 235] 400]
  have key : ∀ (C : Nat → List zv → Mu → mR) (E : Nat → List zv → List zv → Mu → mR), mbk C E q_M_does.1 q_M_does.2.1 z q_M_does.2.2.2 [19, 62, 91, 116, 117, 142, 198, 200, 235] 400 (zfind q_M_does.2.2.2 198) [(9, 0), (9, 0), (9, 0), (9, 0), (9, 0), (9, 0), (9, 0)] [] μ = some (0, μ) := by
    intro C E
    rfl
  exact key _ _
set_option maxRecDepth 100000 in
theorem e_M_does_200 (z : zZ) (d : Nat) (v1 : Int) (v5 : Int) (v6 : Int) (μ : Mu) : f_M_does_200 z d v1 v5 v6 μ = (mC z d 241 [(2, 86), (0, v1), (0, v5), (0, v6)] μ).bind fun q1 => (bif decide (q1.1 = 0) then ((mC z d 243 [(2, 86), (0, v1), (0, v5), (0, v6)] q1.2).bind fun q2 => (f_M_does_235 z d q2.2)) else ((mC z d 243 [(2, 86), (0, zw (1 - v1)), (0, v6), (0, v5)] q1.2).bind fun q3 => (f_M_does_235 z d q3.2))) := by
  show mE z d q_M_does 200 [(2, 86), (0, v1), (9, 0), (9, 0), (9, 0), (0, v5), (0, v6)] [] μ = _
  rw [mE_bk (M := q_M_does) k_M_does.1 k_M_does.2 [19, 62, 91, 116, 117, 142, 198, 200, 235] 400]
  have key : ∀ (C : Nat → List zv → Mu → mR) (E : Nat → List zv → List zv → Mu → mR), mbk C E q_M_does.1 q_M_does.2.1 z q_M_does.2.2.2 [19, 62, 91, 116, 117, 142, 198, 200, 235] 400 (zfind q_M_does.2.2.2 200) [(2, 86), (0, v1), (9, 0), (9, 0), (9, 0), (0, v5), (0, v6)] [] μ = (C 241 [(2, 86), (0, v1), (0, v5), (0, v6)] μ).bind fun q1 => (bif decide (q1.1 = 0) then ((C 243 [(2, 86), (0, v1), (0, v5), (0, v6)] q1.2).bind fun q2 => (g_M_does_235 E q2.2)) else ((C 243 [(2, 86), (0, zw (1 - v1)), (0, v6), (0, v5)] q1.2).bind fun q3 => (g_M_does_235 E q3.2))) := by
    intro C E
    rfl
  exact key _ _
set_option maxRecDepth 100000 in
theorem e_M_does_142 (z : zZ) (d : Nat) (v1 : Int) (v2 : Int) (v3 : Int) (v5 : Int) (v101 : Int) (v103 : Int) (μ : Mu) : f_M_does_142 z d v1 v2 v3 v5 v101 v103 μ = (mC z d 202 [(2, 86), (0, v1), (0, v5)] μ).bind fun q1 => ((mC z d 203 [(2, 86), (0, v101), (2, 94), (0, v103), (0, q1.1)] q1.2).bind fun q2 => (some (1, q2.2))) := by
  show mE z d q_M_does 142 [(2, 86), (0, v1), (0, v2), (0, v3), (9, 0), (0, v5), (9, 0)] [(0, v103), (2, 94), (0, v101), (2, 86)] μ = _
  rw [mE_bk (M := q_M_does) k_M_does.1 k_M_does.2 [19, 62, 91, 116, 117, 142, 198, 200, 235] 400]
  have key : ∀ (C : Nat → List zv → Mu → mR) (E : Nat → List zv → List zv → Mu → mR), mbk C E q_M_does.1 q_M_does.2.1 z q_M_does.2.2.2 [19, 62, 91, 116, 117, 142, 198, 200, 235] 400 (zfind q_M_does.2.2.2 142) [(2, 86), (0, v1), (0, v2), (0, v3), (9, 0), (0, v5), (9, 0)] [(0, v103), (2, 94), (0, v101), (2, 86)] μ = (C 202 [(2, 86), (0, v1), (0, v5)] μ).bind fun q1 => ((C 203 [(2, 86), (0, v101), (2, 94), (0, v103), (0, q1.1)] q1.2).bind fun q2 => (some (1, q2.2))) := by
    intro C E
    rfl
  exact key _ _
set_option maxRecDepth 100000 in
theorem e_M_does_235 (z : zZ) (d : Nat) (μ : Mu) : f_M_does_235 z d μ = some (1, μ) := by
  show mE z d q_M_does 235 [(9, 0), (9, 0), (9, 0), (9, 0), (9, 0), (9, 0), (9, 0)] [] μ = _
  rw [mE_bk (M := q_M_does) k_M_does.1 k_M_does.2 [19, 62, 91, 116, 117, 142, 198, 200, 235] 400]
  have key : ∀ (C : Nat → List zv → Mu → mR) (E : Nat → List zv → List zv → Mu → mR), mbk C E q_M_does.1 q_M_does.2.1 z q_M_does.2.2.2 [19, 62, 91, 116, 117, 142, 198, 200, 235] 400 (zfind q_M_does.2.2.2 235) [(9, 0), (9, 0), (9, 0), (9, 0), (9, 0), (9, 0), (9, 0)] [] μ = some (1, μ) := by
    intro C E
    rfl
  exact key _ _
def g_M_forms_13 (E : Nat → List zv → List zv → Mu → mR) (v1 : Int) (v2 : Int) (v3 : Int) (μ : Mu) : mR := E 13 [(2, 86), (0, v1), (0, v2), (0, v3), (9, 0)] [] μ
noncomputable def f_M_forms_13 (z : zZ) (d : Nat) (v1 : Int) (v2 : Int) (v3 : Int) (μ : Mu) : mR := g_M_forms_13 (fun pc ls st μ => mE z d q_M_forms pc ls st μ) v1 v2 v3 μ
theorem k_M_forms : zprK q_M_forms.2.2.2 = true ∧ zinc q_M_forms.2.2.2 = true := by decide +kernel
set_option maxRecDepth 100000 in
theorem c_M_forms (z : zZ) (d : Nat) (v1 : Int) (v2 : Int) (μ : Mu) : mC z (d + 1) 234 [(2, 86), (0, v1), (0, v2)] μ = (mC z d 235 [(2, 86), (0, v1), (0, v2)] μ).bind fun q1 => (bif !decide (q1.1 = 0) then (f_M_forms_13 z d v1 v2 0 q1.2) else (some (0, q1.2))) := by
  rw [mC_succ q_M_forms rfl rfl rfl]
  rw [mE_bk (M := q_M_forms) k_M_forms.1 k_M_forms.2 [13] 400]
  have key : ∀ (C : Nat → List zv → Mu → mR) (E : Nat → List zv → List zv → Mu → mR), mbk C E q_M_forms.1 q_M_forms.2.1 z q_M_forms.2.2.2 [13] 400 (zfind q_M_forms.2.2.2 0) (zentry q_M_forms.2.2.1 [(2, 86), (0, v1), (0, v2)]) [] μ = (C 235 [(2, 86), (0, v1), (0, v2)] μ).bind fun q1 => (bif !decide (q1.1 = 0) then (g_M_forms_13 E v1 v2 0 q1.2) else (some (0, q1.2))) := by
    intro C E
    rfl
  exact key _ _
set_option maxRecDepth 100000 in
theorem e_M_forms_13 (z : zZ) (d : Nat) (v1 : Int) (v2 : Int) (v3 : Int) (μ : Mu) : f_M_forms_13 z d v1 v2 v3 μ = (mC z d 202 [(2, 86), (0, v1), (0, v2)] μ).bind fun q1 => (bif decide (q1.1 ≤ v3) then ((mC z d 238 [(2, 86), (0, v1), (0, v2), (0, 1)] q1.2).bind fun q2 => (some (1, q2.2))) else ((mC z d 201 [(0, v1), (0, v2)] q1.2).bind fun q3 => (gI (zw (q3.1 + v3)) 192 (gI (zw ((zw (12 * v1)) + (q3.2 94 ((zw (q3.1 + v3)).toNat)))) 24 (gI (zw ((zw (12 * v1)) + (q3.2 94 ((zw (q3.1 + v3)).toNat)))) 24 (f_M_forms_13 z d v1 v2 (zw (v3 + 1)) (zup q3.2 90 ((zw ((zw (12 * v1)) + (q3.2 94 ((zw (q3.1 + v3)).toNat)))).toNat) (zw ((q3.2 90 ((zw ((zw (12 * v1)) + (q3.2 94 ((zw (q3.1 + v3)).toNat)))).toNat)) - 1))))))))) := by
  show mE z d q_M_forms 13 [(2, 86), (0, v1), (0, v2), (0, v3), (9, 0)] [] μ = _
  rw [mE_bk (M := q_M_forms) k_M_forms.1 k_M_forms.2 [13] 400]
  have key : ∀ (C : Nat → List zv → Mu → mR) (E : Nat → List zv → List zv → Mu → mR), mbk C E q_M_forms.1 q_M_forms.2.1 z q_M_forms.2.2.2 [13] 400 (zfind q_M_forms.2.2.2 13) [(2, 86), (0, v1), (0, v2), (0, v3), (9, 0)] [] μ = (C 202 [(2, 86), (0, v1), (0, v2)] μ).bind fun q1 => (bif decide (q1.1 ≤ v3) then ((C 238 [(2, 86), (0, v1), (0, v2), (0, 1)] q1.2).bind fun q2 => (some (1, q2.2))) else ((C 201 [(0, v1), (0, v2)] q1.2).bind fun q3 => (gI (zw (q3.1 + v3)) 192 (gI (zw ((zw (12 * v1)) + (q3.2 94 ((zw (q3.1 + v3)).toNat)))) 24 (gI (zw ((zw (12 * v1)) + (q3.2 94 ((zw (q3.1 + v3)).toNat)))) 24 (g_M_forms_13 E v1 v2 (zw (v3 + 1)) (zup q3.2 90 ((zw ((zw (12 * v1)) + (q3.2 94 ((zw (q3.1 + v3)).toNat)))).toNat) (zw ((q3.2 90 ((zw ((zw (12 * v1)) + (q3.2 94 ((zw (q3.1 + v3)).toNat)))).toNat)) - 1))))))))) := by
    intro C E
    rfl
  exact key _ _
def g_M_canForm_52 (E : Nat → List zv → List zv → Mu → mR) (μ : Mu) : mR := E 52 [(9, 0), (9, 0), (9, 0)] [] μ
noncomputable def f_M_canForm_52 (z : zZ) (d : Nat) (μ : Mu) : mR := g_M_canForm_52 (fun pc ls st μ => mE z d q_M_canForm pc ls st μ) μ
def g_M_canForm_53 (E : Nat → List zv → List zv → Mu → mR) (v100 : Int) (μ : Mu) : mR := E 53 [(9, 0), (9, 0), (9, 0)] [(0, v100)] μ
noncomputable def f_M_canForm_53 (z : zZ) (d : Nat) (v100 : Int) (μ : Mu) : mR := g_M_canForm_53 (fun pc ls st μ => mE z d q_M_canForm pc ls st μ) v100 μ
theorem k_M_canForm : zprK q_M_canForm.2.2.2 = true ∧ zinc q_M_canForm.2.2.2 = true := by decide +kernel
set_option maxRecDepth 100000 in
theorem c_M_canForm (z : zZ) (d : Nat) (v1 : Int) (v2 : Int) (μ : Mu) : mC z (d + 1) 235 [(2, 86), (0, v1), (0, v2)] μ = (mC z d 199 [(2, 86), (0, v1)] μ).bind fun q1 => ((mC z d 189 [(0, q1.1), (0, v2)] q1.2).bind fun q2 => (bif !decide (q2.1 = 0) then (f_M_canForm_52 z d q2.2) else ((mC z d 199 [(2, 86), (0, v1)] q2.2).bind fun q3 => ((mC z d 236 [(0, q3.1)] q3.2).bind fun q4 => (bif decide (6 ≤ q4.1) then (f_M_canForm_52 z d q4.2) else ((mC z d 201 [(0, v1), (0, v2)] q4.2).bind fun q5 => ((mC z d 202 [(2, 86), (0, v1), (0, v2)] q5.2).bind fun q6 => ((mC z d 237 [(2, 86), (0, v1), (2, 94), (0, q5.1), (0, q6.1)] q6.2).bind fun q7 => (bif decide (q7.1 = 0) then (f_M_canForm_52 z d q7.2) else (f_M_canForm_53 z d 1 q7.2)))))))))) := by
  rw [mC_succ q_M_canForm rfl rfl rfl]
  rw [mE_bk (M := q_M_canForm) k_M_canForm.1 k_M_canForm.2 [52, 53] 400]
  have key : ∀ (C : Nat → List zv → Mu → mR) (E : Nat → List zv → List zv → Mu → mR), mbk C E q_M_canForm.1 q_M_canForm.2.1 z q_M_canForm.2.2.2 [52, 53] 400 (zfind q_M_canForm.2.2.2 0) (zentry q_M_canForm.2.2.1 [(2, 86), (0, v1), (0, v2)]) [] μ = (C 199 [(2, 86), (0, v1)] μ).bind fun q1 => ((C 189 [(0, q1.1), (0, v2)] q1.2).bind fun q2 => (bif !decide (q2.1 = 0) then (g_M_canForm_52 E q2.2) else ((C 199 [(2, 86), (0, v1)] q2.2).bind fun q3 => ((C 236 [(0, q3.1)] q3.2).bind fun q4 => (bif decide (6 ≤ q4.1) then (g_M_canForm_52 E q4.2) else ((C 201 [(0, v1), (0, v2)] q4.2).bind fun q5 => ((C 202 [(2, 86), (0, v1), (0, v2)] q5.2).bind fun q6 => ((C 237 [(2, 86), (0, v1), (2, 94), (0, q5.1), (0, q6.1)] q6.2).bind fun q7 => (bif decide (q7.1 = 0) then (g_M_canForm_52 E q7.2) else (g_M_canForm_53 E 1 q7.2)))))))))) := by
    intro C E
    rfl
  exact key _ _
set_option maxRecDepth 100000 in
theorem e_M_canForm_52 (z : zZ) (d : Nat) (μ : Mu) : f_M_canForm_52 z d μ = f_M_canForm_53 z d 0 μ := by
  show mE z d q_M_canForm 52 [(9, 0), (9, 0), (9, 0)] [] μ = _
  rw [mE_bk (M := q_M_canForm) k_M_canForm.1 k_M_canForm.2 [52, 53] 400]
  have key : ∀ (C : Nat → List zv → Mu → mR) (E : Nat → List zv → List zv → Mu → mR), mbk C E q_M_canForm.1 q_M_canForm.2.1 z q_M_canForm.2.2.2 [52, 53] 400 (zfind q_M_canForm.2.2.2 52) [(9, 0), (9, 0), (9, 0)] [] μ = g_M_canForm_53 E 0 μ := by
    intro C E
    rfl
  exact key _ _
set_option maxRecDepth 100000 in
theorem e_M_canForm_53 (z : zZ) (d : Nat) (v100 : Int) (μ : Mu) : f_M_canForm_53 z d v100 μ = g01 v100 (some (v100, μ)) := by
  show mE z d q_M_canForm 53 [(9, 0), (9, 0), (9, 0)] [(0, v100)] μ = _
  rw [mE_bk (M := q_M_canForm) k_M_canForm.1 k_M_canForm.2 [52, 53] 400]
  have key : ∀ (C : Nat → List zv → Mu → mR) (E : Nat → List zv → List zv → Mu → mR), mbk C E q_M_canForm.1 q_M_canForm.2.1 z q_M_canForm.2.2.2 [52, 53] 400 (zfind q_M_canForm.2.2.2 53) [(9, 0), (9, 0), (9, 0)] [(0, v100)] μ = g01 v100 (some (v100, μ)) := by
    intro C E
    rfl
  exact key _ _
def g_M_bits_4 (E : Nat → List zv → List zv → Mu → mR) (v0 : Int) (v1 : Int) (v2 : Int) (μ : Mu) : mR := E 4 [(0, v0), (0, v1), (0, v2)] [] μ
noncomputable def f_M_bits_4 (z : zZ) (d : Nat) (v0 : Int) (v1 : Int) (v2 : Int) (μ : Mu) : mR := g_M_bits_4 (fun pc ls st μ => mE z d q_M_bits pc ls st μ) v0 v1 v2 μ
theorem k_M_bits : zprK q_M_bits.2.2.2 = true ∧ zinc q_M_bits.2.2.2 = true := by decide +kernel
set_option maxRecDepth 100000 in
theorem c_M_bits (z : zZ) (d : Nat) (v0 : Int) (μ : Mu) : mC z (d + 1) 236 [(0, v0)] μ = f_M_bits_4 z d v0 0 0 μ := by
  rw [mC_succ q_M_bits rfl rfl rfl]
  rw [mE_bk (M := q_M_bits) k_M_bits.1 k_M_bits.2 [4] 400]
  have key : ∀ (C : Nat → List zv → Mu → mR) (E : Nat → List zv → List zv → Mu → mR), mbk C E q_M_bits.1 q_M_bits.2.1 z q_M_bits.2.2.2 [4] 400 (zfind q_M_bits.2.2.2 0) (zentry q_M_bits.2.2.1 [(0, v0)]) [] μ = g_M_bits_4 E v0 0 0 μ := by
    intro C E
    rfl
  exact key _ _
set_option maxRecDepth 100000 in
theorem e_M_bits_4 (z : zZ) (d : Nat) (v0 : Int) (v1 : Int) (v2 : Int) (μ : Mu) : f_M_bits_4 z d v0 v1 v2 μ = bif decide (12 ≤ v2) then (some (v1, μ)) else (f_M_bits_4 z d v0 (zw (v1 + (z_and (z_shr v0 v2) 1))) (zw (v2 + 1)) μ) := by
  show mE z d q_M_bits 4 [(0, v0), (0, v1), (0, v2)] [] μ = _
  rw [mE_bk (M := q_M_bits) k_M_bits.1 k_M_bits.2 [4] 400]
  have key : ∀ (C : Nat → List zv → Mu → mR) (E : Nat → List zv → List zv → Mu → mR), mbk C E q_M_bits.1 q_M_bits.2.1 z q_M_bits.2.2.2 [4] 400 (zfind q_M_bits.2.2.2 4) [(0, v0), (0, v1), (0, v2)] [] μ = bif decide (12 ≤ v2) then (some (v1, μ)) else (g_M_bits_4 E v0 (zw (v1 + (z_and (z_shr v0 v2) 1))) (zw (v2 + 1)) μ) := by
    intro C E
    rfl
  exact key _ _
def g_M_isThere_3 (E : Nat → List zv → List zv → Mu → mR) (v1 : Int) (v2 : Int) (v3 : Int) (v4 : Int) (v5 : Int) (μ : Mu) : mR := E 3 [(2, 86), (0, v1), (2, v2), (0, v3), (0, v4), (0, v5), (9, 0), (9, 0)] [] μ
noncomputable def f_M_isThere_3 (z : zZ) (d : Nat) (v1 : Int) (v2 : Int) (v3 : Int) (v4 : Int) (v5 : Int) (μ : Mu) : mR := g_M_isThere_3 (fun pc ls st μ => mE z d q_M_isThere pc ls st μ) v1 v2 v3 v4 v5 μ
def g_M_isThere_16 (E : Nat → List zv → List zv → Mu → mR) (v1 : Int) (v2 : Int) (v3 : Int) (v4 : Int) (v5 : Int) (v6 : Int) (v7 : Int) (μ : Mu) : mR := E 16 [(2, 86), (0, v1), (2, v2), (0, v3), (0, v4), (0, v5), (0, v6), (0, v7)] [] μ
noncomputable def f_M_isThere_16 (z : zZ) (d : Nat) (v1 : Int) (v2 : Int) (v3 : Int) (v4 : Int) (v5 : Int) (v6 : Int) (v7 : Int) (μ : Mu) : mR := g_M_isThere_16 (fun pc ls st μ => mE z d q_M_isThere pc ls st μ) v1 v2 v3 v4 v5 v6 v7 μ
def g_M_isThere_44 (E : Nat → List zv → List zv → Mu → mR) (v1 : Int) (v2 : Int) (v3 : Int) (v4 : Int) (v5 : Int) (v7 : Int) (v100 : Int) (μ : Mu) : mR := E 44 [(2, 86), (0, v1), (2, v2), (0, v3), (0, v4), (0, v5), (9, 0), (0, v7)] [(0, v100)] μ
noncomputable def f_M_isThere_44 (z : zZ) (d : Nat) (v1 : Int) (v2 : Int) (v3 : Int) (v4 : Int) (v5 : Int) (v7 : Int) (v100 : Int) (μ : Mu) : mR := g_M_isThere_44 (fun pc ls st μ => mE z d q_M_isThere pc ls st μ) v1 v2 v3 v4 v5 v7 v100 μ
def g_M_isThere_45 (E : Nat → List zv → List zv → Mu → mR) (v1 : Int) (v2 : Int) (v3 : Int) (v4 : Int) (v5 : Int) (v7 : Int) (v100 : Int) (v101 : Int) (μ : Mu) : mR := E 45 [(2, 86), (0, v1), (2, v2), (0, v3), (0, v4), (0, v5), (9, 0), (0, v7)] [(0, v101), (0, v100)] μ
noncomputable def f_M_isThere_45 (z : zZ) (d : Nat) (v1 : Int) (v2 : Int) (v3 : Int) (v4 : Int) (v5 : Int) (v7 : Int) (v100 : Int) (v101 : Int) (μ : Mu) : mR := g_M_isThere_45 (fun pc ls st μ => mE z d q_M_isThere pc ls st μ) v1 v2 v3 v4 v5 v7 v100 v101 μ
theorem k_M_isThere : zprK q_M_isThere.2.2.2 = true ∧ zinc q_M_isThere.2.2.2 = true := by decide +kernel
set_option maxRecDepth 100000 in
theorem c_M_isThere (z : zZ) (d : Nat) (v1 : Int) (v2 : Int) (v3 : Int) (v4 : Int) (μ : Mu) : mC z (d + 1) 237 [(2, 86), (0, v1), (2, v2), (0, v3), (0, v4)] μ = f_M_isThere_3 z d v1 v2 v3 v4 0 μ := by
  rw [mC_succ q_M_isThere rfl rfl rfl]
  rw [mE_bk (M := q_M_isThere) k_M_isThere.1 k_M_isThere.2 [3, 16, 44, 45] 400]
  have key : ∀ (C : Nat → List zv → Mu → mR) (E : Nat → List zv → List zv → Mu → mR), mbk C E q_M_isThere.1 q_M_isThere.2.1 z q_M_isThere.2.2.2 [3, 16, 44, 45] 400 (zfind q_M_isThere.2.2.2 0) (zentry q_M_isThere.2.2.1 [(2, 86), (0, v1), (2, v2), (0, v3), (0, v4)]) [] μ = g_M_isThere_3 E v1 v2 v3 v4 0 μ := by
    intro C E
    rfl
  exact key _ _
set_option maxRecDepth 100000 in
theorem e_M_isThere_3 (z : zZ) (d : Nat) (v1 : Int) (v2 : Int) (v3 : Int) (v4 : Int) (v5 : Int) (μ : Mu) : f_M_isThere_3 z d v1 v2 v3 v4 v5 μ = bif decide (v4 ≤ v5) then (some (1, μ)) else (f_M_isThere_16 z d v1 v2 v3 v4 v5 0 0 μ) := by
  show mE z d q_M_isThere 3 [(2, 86), (0, v1), (2, v2), (0, v3), (0, v4), (0, v5), (9, 0), (9, 0)] [] μ = _
  rw [mE_bk (M := q_M_isThere) k_M_isThere.1 k_M_isThere.2 [3, 16, 44, 45] 400]
  have key : ∀ (C : Nat → List zv → Mu → mR) (E : Nat → List zv → List zv → Mu → mR), mbk C E q_M_isThere.1 q_M_isThere.2.1 z q_M_isThere.2.2.2 [3, 16, 44, 45] 400 (zfind q_M_isThere.2.2.2 3) [(2, 86), (0, v1), (2, v2), (0, v3), (0, v4), (0, v5), (9, 0), (9, 0)] [] μ = bif decide (v4 ≤ v5) then (some (1, μ)) else (g_M_isThere_16 E v1 v2 v3 v4 v5 0 0 μ) := by
    intro C E
    rfl
  exact key _ _
set_option maxRecDepth 100000 in
theorem e_M_isThere_16 (z : zZ) (d : Nat) (v1 : Int) (v2 : Int) (v3 : Int) (v4 : Int) (v5 : Int) (v6 : Int) (v7 : Int) (μ : Mu) : f_M_isThere_16 z d v1 v2 v3 v4 v5 v6 v7 μ = bif decide (v4 ≤ v7) then (gA v2 (zw (v3 + v5)) (gI (zw ((zw (12 * v1)) + (μ v2.toNat ((zw (v3 + v5)).toNat)))) 24 (bif decide (v6 ≤ μ 90 ((zw ((zw (12 * v1)) + (μ v2.toNat ((zw (v3 + v5)).toNat)))).toNat)) then (f_M_isThere_3 z d v1 v2 v3 v4 (zw (v5 + 1)) μ) else (some (0, μ))))) else (gA v2 (zw (v3 + v7)) (gA v2 (zw (v3 + v5)) (bif !decide (μ v2.toNat ((zw (v3 + v7)).toNat) = μ v2.toNat ((zw (v3 + v5)).toNat)) then (f_M_isThere_44 z d v1 v2 v3 v4 v5 v7 v6 μ) else (f_M_isThere_45 z d v1 v2 v3 v4 v5 v7 v6 1 μ)))) := by
  show mE z d q_M_isThere 16 [(2, 86), (0, v1), (2, v2), (0, v3), (0, v4), (0, v5), (0, v6), (0, v7)] [] μ = _
  rw [mE_bk (M := q_M_isThere) k_M_isThere.1 k_M_isThere.2 [3, 16, 44, 45] 400]
  have key : ∀ (C : Nat → List zv → Mu → mR) (E : Nat → List zv → List zv → Mu → mR), mbk C E q_M_isThere.1 q_M_isThere.2.1 z q_M_isThere.2.2.2 [3, 16, 44, 45] 400 (zfind q_M_isThere.2.2.2 16) [(2, 86), (0, v1), (2, v2), (0, v3), (0, v4), (0, v5), (0, v6), (0, v7)] [] μ = bif decide (v4 ≤ v7) then (gA v2 (zw (v3 + v5)) (gI (zw ((zw (12 * v1)) + (μ v2.toNat ((zw (v3 + v5)).toNat)))) 24 (bif decide (v6 ≤ μ 90 ((zw ((zw (12 * v1)) + (μ v2.toNat ((zw (v3 + v5)).toNat)))).toNat)) then (g_M_isThere_3 E v1 v2 v3 v4 (zw (v5 + 1)) μ) else (some (0, μ))))) else (gA v2 (zw (v3 + v7)) (gA v2 (zw (v3 + v5)) (bif !decide (μ v2.toNat ((zw (v3 + v7)).toNat) = μ v2.toNat ((zw (v3 + v5)).toNat)) then (g_M_isThere_44 E v1 v2 v3 v4 v5 v7 v6 μ) else (g_M_isThere_45 E v1 v2 v3 v4 v5 v7 v6 1 μ)))) := by
    intro C E
    rfl
  exact key _ _
set_option maxRecDepth 100000 in
theorem e_M_isThere_44 (z : zZ) (d : Nat) (v1 : Int) (v2 : Int) (v3 : Int) (v4 : Int) (v5 : Int) (v7 : Int) (v100 : Int) (μ : Mu) : f_M_isThere_44 z d v1 v2 v3 v4 v5 v7 v100 μ = f_M_isThere_45 z d v1 v2 v3 v4 v5 v7 v100 0 μ := by
  show mE z d q_M_isThere 44 [(2, 86), (0, v1), (2, v2), (0, v3), (0, v4), (0, v5), (9, 0), (0, v7)] [(0, v100)] μ = _
  rw [mE_bk (M := q_M_isThere) k_M_isThere.1 k_M_isThere.2 [3, 16, 44, 45] 400]
  have key : ∀ (C : Nat → List zv → Mu → mR) (E : Nat → List zv → List zv → Mu → mR), mbk C E q_M_isThere.1 q_M_isThere.2.1 z q_M_isThere.2.2.2 [3, 16, 44, 45] 400 (zfind q_M_isThere.2.2.2 44) [(2, 86), (0, v1), (2, v2), (0, v3), (0, v4), (0, v5), (9, 0), (0, v7)] [(0, v100)] μ = g_M_isThere_45 E v1 v2 v3 v4 v5 v7 v100 0 μ := by
    intro C E
    rfl
  exact key _ _
set_option maxRecDepth 100000 in
theorem e_M_isThere_45 (z : zZ) (d : Nat) (v1 : Int) (v2 : Int) (v3 : Int) (v4 : Int) (v5 : Int) (v7 : Int) (v100 : Int) (v101 : Int) (μ : Mu) : f_M_isThere_45 z d v1 v2 v3 v4 v5 v7 v100 v101 μ = f_M_isThere_16 z d v1 v2 v3 v4 v5 (zw (v100 + v101)) (zw (v7 + 1)) μ := by
  show mE z d q_M_isThere 45 [(2, 86), (0, v1), (2, v2), (0, v3), (0, v4), (0, v5), (9, 0), (0, v7)] [(0, v101), (0, v100)] μ = _
  rw [mE_bk (M := q_M_isThere) k_M_isThere.1 k_M_isThere.2 [3, 16, 44, 45] 400]
  have key : ∀ (C : Nat → List zv → Mu → mR) (E : Nat → List zv → List zv → Mu → mR), mbk C E q_M_isThere.1 q_M_isThere.2.1 z q_M_isThere.2.2.2 [3, 16, 44, 45] 400 (zfind q_M_isThere.2.2.2 45) [(2, 86), (0, v1), (2, v2), (0, v3), (0, v4), (0, v5), (9, 0), (0, v7)] [(0, v101), (0, v100)] μ = g_M_isThere_16 E v1 v2 v3 v4 v5 (zw (v100 + v101)) (zw (v7 + 1)) μ := by
    intro C E
    rfl
  exact key _ _
def g_M_stands_29 (E : Nat → List zv → List zv → Mu → mR) (v101 : Int) (v102 : Int) (μ : Mu) : mR := E 29 [(9, 0), (9, 0), (9, 0), (9, 0)] [(0, v102), (0, v101), (2, 86)] μ
noncomputable def f_M_stands_29 (z : zZ) (d : Nat) (v101 : Int) (v102 : Int) (μ : Mu) : mR := g_M_stands_29 (fun pc ls st μ => mE z d q_M_stands pc ls st μ) v101 v102 μ
theorem k_M_stands : zprK q_M_stands.2.2.2 = true ∧ zinc q_M_stands.2.2.2 = true := by decide +kernel
set_option maxRecDepth 100000 in
theorem c_M_stands (z : zZ) (d : Nat) (v1 : Int) (v2 : Int) (v3 : Int) (μ : Mu) : mC z (d + 1) 238 [(2, 86), (0, v1), (0, v2), (0, v3)] μ = bif decide (v3 = 0) then ((mC z d 199 [(2, 86), (0, v1)] μ).bind fun q1 => (f_M_stands_29 z d v1 (z_and q1.1 (z_xor (z_shl 1 v2) ((-1)))) q1.2)) else ((mC z d 199 [(2, 86), (0, v1)] μ).bind fun q2 => (f_M_stands_29 z d v1 (z_or q2.1 (z_shl 1 v2)) q2.2)) := by
  rw [mC_succ q_M_stands rfl rfl rfl]
  rw [mE_bk (M := q_M_stands) k_M_stands.1 k_M_stands.2 [29] 400]
  have key : ∀ (C : Nat → List zv → Mu → mR) (E : Nat → List zv → List zv → Mu → mR), mbk C E q_M_stands.1 q_M_stands.2.1 z q_M_stands.2.2.2 [29] 400 (zfind q_M_stands.2.2.2 0) (zentry q_M_stands.2.2.1 [(2, 86), (0, v1), (0, v2), (0, v3)]) [] μ = bif decide (v3 = 0) then ((C 199 [(2, 86), (0, v1)] μ).bind fun q1 => (g_M_stands_29 E v1 (z_and q1.1 (z_xor (z_shl 1 v2) ((-1)))) q1.2)) else ((C 199 [(2, 86), (0, v1)] μ).bind fun q2 => (g_M_stands_29 E v1 (z_or q2.1 (z_shl 1 v2)) q2.2)) := by
    intro C E
    rfl
  exact key _ _
set_option maxRecDepth 100000 in
theorem e_M_stands_29 (z : zZ) (d : Nat) (v101 : Int) (v102 : Int) (μ : Mu) : f_M_stands_29 z d v101 v102 μ = (mC z d 207 [(2, 86), (0, v101), (0, v102)] μ).bind fun q1 => (some (0, q1.2)) := by
  show mE z d q_M_stands 29 [(9, 0), (9, 0), (9, 0), (9, 0)] [(0, v102), (0, v101), (2, 86)] μ = _
  rw [mE_bk (M := q_M_stands) k_M_stands.1 k_M_stands.2 [29] 400]
  have key : ∀ (C : Nat → List zv → Mu → mR) (E : Nat → List zv → List zv → Mu → mR), mbk C E q_M_stands.1 q_M_stands.2.1 z q_M_stands.2.2.2 [29] 400 (zfind q_M_stands.2.2.2 29) [(9, 0), (9, 0), (9, 0), (9, 0)] [(0, v102), (0, v101), (2, 86)] μ = (C 207 [(2, 86), (0, v101), (0, v102)] μ).bind fun q1 => (some (0, q1.2)) := by
    intro C E
    rfl
  exact key _ _
