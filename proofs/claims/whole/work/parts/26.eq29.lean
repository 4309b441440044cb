def g_W_best_16 (E : Nat → List zv → List zv → Mu → mR) (μ : Mu) : mR := E 16 [(9, 0), (9, 0), (9, 0)] [] μ
noncomputable def f_W_best_16 (z : zZ) (d : Nat) (μ : Mu) : mR := g_W_best_16 (fun pc ls st μ => mE z d q_W_best pc ls st μ) μ
def g_W_best_36 (E : Nat → List zv → List zv → Mu → mR) (v1 : Int) (v2 : Int) (μ : Mu) : mR := E 36 [(2, 0), (0, v1), (0, v2)] [] μ
noncomputable def f_W_best_36 (z : zZ) (d : Nat) (v1 : Int) (v2 : Int) (μ : Mu) : mR := g_W_best_36 (fun pc ls st μ => mE z d q_W_best pc ls st μ) v1 v2 μ
def g_W_best_48 (E : Nat → List zv → List zv → Mu → mR) (v1 : Int) (μ : Mu) : mR := E 48 [(2, 0), (0, v1), (9, 0)] [] μ
noncomputable def f_W_best_48 (z : zZ) (d : Nat) (v1 : Int) (μ : Mu) : mR := g_W_best_48 (fun pc ls st μ => mE z d q_W_best pc ls st μ) v1 μ
def g_W_best_57 (E : Nat → List zv → List zv → Mu → mR) (v100 : Int) (μ : Mu) : mR := E 57 [(9, 0), (9, 0), (9, 0)] [(0, v100)] μ
noncomputable def f_W_best_57 (z : zZ) (d : Nat) (v100 : Int) (μ : Mu) : mR := g_W_best_57 (fun pc ls st μ => mE z d q_W_best pc ls st μ) v100 μ
theorem k_W_best : zprK q_W_best.2.2.2 = true ∧ zinc q_W_best.2.2.2 = true := by decide +kernel
set_option maxRecDepth 100000 in
theorem c_W_best (z : zZ) (d : Nat) (v1 : Int) (v2 : Int) (μ : Mu) : mC z (d + 1) 104 [(2, 0), (0, v1), (0, v2)] μ = (mC z d 15 [(0, v1)] μ).bind fun q1 => (bif decide (q1.1 = 0) then (f_W_best_16 z d q1.2) else (bif decide (v2 < 0) then (f_W_best_16 z d q1.2) else (bif decide (v2 ≤ 1) then ((mC z d 105 [(2, 0), (0, v1)] q1.2).bind fun q2 => ((mC z d 109 [(2, 0), (0, v1), (0, (-1)), (0, (-1)), (0, (-1))] q2.2).bind fun q3 => (bif !decide (v2 = 0) then (f_W_best_48 z d v1 q3.2) else (f_W_best_36 z d v1 v2 q3.2)))) else (f_W_best_16 z d q1.2)))) := by
  rw [mC_succ q_W_best rfl rfl rfl]
  rw [mE_bk (M := q_W_best) k_W_best.1 k_W_best.2 [16, 36, 48, 57] 400]
  have key : ∀ (C : Nat → List zv → Mu → mR) (E : Nat → List zv → List zv → Mu → mR), mbk C E q_W_best.1 q_W_best.2.1 z q_W_best.2.2.2 [16, 36, 48, 57] 400 (zfind q_W_best.2.2.2 0) (zentry q_W_best.2.2.1 [(2, 0), (0, v1), (0, v2)]) [] μ = (C 15 [(0, v1)] μ).bind fun q1 => (bif decide (q1.1 = 0) then (g_W_best_16 E q1.2) else (bif decide (v2 < 0) then (g_W_best_16 E q1.2) else (bif decide (v2 ≤ 1) then ((C 105 [(2, 0), (0, v1)] q1.2).bind fun q2 => ((C 109 [(2, 0), (0, v1), (0, (-1)), (0, (-1)), (0, (-1))] q2.2).bind fun q3 => (bif !decide (v2 = 0) then (g_W_best_48 E v1 q3.2) else (g_W_best_36 E v1 v2 q3.2)))) else (g_W_best_16 E q1.2)))) := by
    intro C E
    rfl
  exact key _ _
set_option maxRecDepth 100000 in
theorem e_W_best_16 (z : zZ) (d : Nat) (μ : Mu) : f_W_best_16 z d μ = some ((-1), μ) := by
  show mE z d q_W_best 16 [(9, 0), (9, 0), (9, 0)] [] μ = _
  rw [mE_bk (M := q_W_best) k_W_best.1 k_W_best.2 [16, 36, 48, 57] 400]
  have key : ∀ (C : Nat → List zv → Mu → mR) (E : Nat → List zv → List zv → Mu → mR), mbk C E q_W_best.1 q_W_best.2.1 z q_W_best.2.2.2 [16, 36, 48, 57] 400 (zfind q_W_best.2.2.2 16) [(9, 0), (9, 0), (9, 0)] [] μ = some ((-1), μ) := by
    intro C E
    rfl
  exact key _ _
set_option maxRecDepth 100000 in
theorem e_W_best_48 (z : zZ) (d : Nat) (v1 : Int) (μ : Mu) (hv1 : v1 = 0 ∨ v1 = 1) : f_W_best_48 z d v1 μ = f_W_best_57 z d (μ (23 + 6 * v1.toNat) 8) μ := by
  show mE z d q_W_best 48 [(2, 0), (0, v1), (9, 0)] [] μ = _
  rw [mE_bk (M := q_W_best) k_W_best.1 k_W_best.2 [16, 36, 48, 57] 400]
  have key : ∀ (C : Nat → List zv → Mu → mR) (E : Nat → List zv → List zv → Mu → mR), mbk C E q_W_best.1 q_W_best.2.1 z q_W_best.2.2.2 [16, 36, 48, 57] 400 (zfind q_W_best.2.2.2 48) [(2, 0), (0, v1), (9, 0)] [] μ = g_W_best_57 E (μ (23 + 6 * v1.toNat) 8) μ := by
    intro C E
    rcases hv1 with rfl | rfl <;> (rfl)
  exact key _ _
set_option maxRecDepth 100000 in
theorem e_W_best_36 (z : zZ) (d : Nat) (v1 : Int) (v2 : Int) (μ : Mu) (hv1 : v1 = 0 ∨ v1 = 1) : f_W_best_36 z d v1 v2 μ = f_W_best_57 z d (μ (23 + 6 * v1.toNat) 7) μ := by
  show mE z d q_W_best 36 [(2, 0), (0, v1), (0, v2)] [] μ = _
  rw [mE_bk (M := q_W_best) k_W_best.1 k_W_best.2 [16, 36, 48, 57] 400]
  have key : ∀ (C : Nat → List zv → Mu → mR) (E : Nat → List zv → List zv → Mu → mR), mbk C E q_W_best.1 q_W_best.2.1 z q_W_best.2.2.2 [16, 36, 48, 57] 400 (zfind q_W_best.2.2.2 36) [(2, 0), (0, v1), (0, v2)] [] μ = g_W_best_57 E (μ (23 + 6 * v1.toNat) 7) μ := by
    intro C E
    rcases hv1 with rfl | rfl <;> (rfl)
  exact key _ _
set_option maxRecDepth 100000 in
theorem e_W_best_57 (z : zZ) (d : Nat) (v100 : Int) (μ : Mu) : f_W_best_57 z d v100 μ = some (v100, μ) := by
  show mE z d q_W_best 57 [(9, 0), (9, 0), (9, 0)] [(0, v100)] μ = _
  rw [mE_bk (M := q_W_best) k_W_best.1 k_W_best.2 [16, 36, 48, 57] 400]
  have key : ∀ (C : Nat → List zv → Mu → mR) (E : Nat → List zv → List zv → Mu → mR), mbk C E q_W_best.1 q_W_best.2.1 z q_W_best.2.2.2 [16, 36, 48, 57] 400 (zfind q_W_best.2.2.2 57) [(9, 0), (9, 0), (9, 0)] [(0, v100)] μ = some (v100, μ) := by
    intro C E
    rfl
  exact key _ _
def g_W_prepareChooser_21 (E : Nat → List zv → List zv → Mu → mR) (v1 : Int) (o2 : Nat) (o3 : Nat) (v4 : Int) (μ : Mu) : mR := E 21 [(2, 0), (0, v1), (2, ((o2 : Nat) : Int)), (2, ((o3 : Nat) : Int)), (0, v4), (9, 0)] [] μ
noncomputable def f_W_prepareChooser_21 (z : zZ) (d : Nat) (v1 : Int) (o2 : Nat) (o3 : Nat) (v4 : Int) (μ : Mu) : mR := g_W_prepareChooser_21 (fun pc ls st μ => mE z d q_W_prepareChooser pc ls st μ) v1 o2 o3 v4 μ
def g_W_prepareChooser_63 (E : Nat → List zv → List zv → Mu → mR) (v1 : Int) (o2 : Nat) (o3 : Nat) (v4 : Int) (μ : Mu) : mR := E 63 [(2, 0), (0, v1), (2, ((o2 : Nat) : Int)), (2, ((o3 : Nat) : Int)), (0, v4), (9, 0)] [] μ
noncomputable def f_W_prepareChooser_63 (z : zZ) (d : Nat) (v1 : Int) (o2 : Nat) (o3 : Nat) (v4 : Int) (μ : Mu) : mR := g_W_prepareChooser_63 (fun pc ls st μ => mE z d q_W_prepareChooser pc ls st μ) v1 o2 o3 v4 μ
theorem k_W_prepareChooser : zprK q_W_prepareChooser.2.2.2 = true ∧ zinc q_W_prepareChooser.2.2.2 = true := by decide +kernel
set_option maxRecDepth 100000 in
theorem c_W_prepareChooser (z : zZ) (d : Nat) (v1 : Int) (μ : Mu) (hv1 : v1 = 0 ∨ v1 = 1) : mC z (d + 1) 105 [(2, 0), (0, v1)] μ = (mC z d 106 [(2, (((23 + 6 * v1.toNat) : Nat) : Int))] μ).bind fun q1 => (f_W_prepareChooser_21 z d v1 (4 + 9 * v1.toNat) (23 + 6 * v1.toNat) 0 q1.2) := by
  rw [mC_succ q_W_prepareChooser rfl rfl rfl]
  rw [mE_bk (M := q_W_prepareChooser) k_W_prepareChooser.1 k_W_prepareChooser.2 [21, 63] 400]
  have key : ∀ (C : Nat → List zv → Mu → mR) (E : Nat → List zv → List zv → Mu → mR), mbk C E q_W_prepareChooser.1 q_W_prepareChooser.2.1 z q_W_prepareChooser.2.2.2 [21, 63] 400 (zfind q_W_prepareChooser.2.2.2 0) (zentry q_W_prepareChooser.2.2.1 [(2, 0), (0, v1)]) [] μ = (C 106 [(2, (((23 + 6 * v1.toNat) : Nat) : Int))] μ).bind fun q1 => (g_W_prepareChooser_21 E v1 (4 + 9 * v1.toNat) (23 + 6 * v1.toNat) 0 q1.2) := by
    intro C E
    rcases hv1 with rfl | rfl <;> (rfl)
  exact key _ _
set_option maxRecDepth 100000 in
theorem e_W_prepareChooser_21 (z : zZ) (d : Nat) (v1 : Int) (o2 : Nat) (o3 : Nat) (v4 : Int) (μ : Mu) (ho2 : o2 = 4 ∨ o2 = 13) (ho3 : o3 = 23 ∨ o3 = 29) : f_W_prepareChooser_21 z d v1 o2 o3 v4 μ = bif decide (μ o2 6 ≤ v4) then (some (0, μ)) else ((mC z d 36 [(2, ((o2 : Nat) : Int)), (0, v4)] μ).bind fun q1 => (bif !decide (q1.1 = 0) then (f_W_prepareChooser_63 z d v1 o2 o3 v4 q1.2) else (gI v4 12 ((mC z d 100 [(2, 0), (0, v1), (0, q1.2 (o2 + 4) v4.toNat)] q1.2).bind fun q2 => ((mC z d 107 [(2, ((o3 : Nat) : Int)), (0, v4), (0, q2.1), (0, q1.2 (o2 + 4) v4.toNat)] q2.2).bind fun q3 => (f_W_prepareChooser_63 z d v1 o2 o3 v4 q3.2)))))) := by
  show mE z d q_W_prepareChooser 21 [(2, 0), (0, v1), (2, ((o2 : Nat) : Int)), (2, ((o3 : Nat) : Int)), (0, v4), (9, 0)] [] μ = _
  rw [mE_bk (M := q_W_prepareChooser) k_W_prepareChooser.1 k_W_prepareChooser.2 [21, 63] 400]
  have key : ∀ (C : Nat → List zv → Mu → mR) (E : Nat → List zv → List zv → Mu → mR), mbk C E q_W_prepareChooser.1 q_W_prepareChooser.2.1 z q_W_prepareChooser.2.2.2 [21, 63] 400 (zfind q_W_prepareChooser.2.2.2 21) [(2, 0), (0, v1), (2, ((o2 : Nat) : Int)), (2, ((o3 : Nat) : Int)), (0, v4), (9, 0)] [] μ = bif decide (μ o2 6 ≤ v4) then (some (0, μ)) else ((C 36 [(2, ((o2 : Nat) : Int)), (0, v4)] μ).bind fun q1 => (bif !decide (q1.1 = 0) then (g_W_prepareChooser_63 E v1 o2 o3 v4 q1.2) else (gI v4 12 ((C 100 [(2, 0), (0, v1), (0, q1.2 (o2 + 4) v4.toNat)] q1.2).bind fun q2 => ((C 107 [(2, ((o3 : Nat) : Int)), (0, v4), (0, q2.1), (0, q1.2 (o2 + 4) v4.toNat)] q2.2).bind fun q3 => (g_W_prepareChooser_63 E v1 o2 o3 v4 q3.2)))))) := by
    intro C E
    rcases ho2 with rfl | rfl <;> rcases ho3 with rfl | rfl <;> (rfl)
  exact key _ _
set_option maxRecDepth 100000 in
theorem e_W_prepareChooser_63 (z : zZ) (d : Nat) (v1 : Int) (o2 : Nat) (o3 : Nat) (v4 : Int) (μ : Mu) (ho2 : o2 = 4 ∨ o2 = 13) (ho3 : o3 = 23 ∨ o3 = 29) : f_W_prepareChooser_63 z d v1 o2 o3 v4 μ = f_W_prepareChooser_21 z d v1 o2 o3 (zw (v4 + 1)) μ := by
  show mE z d q_W_prepareChooser 63 [(2, 0), (0, v1), (2, ((o2 : Nat) : Int)), (2, ((o3 : Nat) : Int)), (0, v4), (9, 0)] [] μ = _
  rw [mE_bk (M := q_W_prepareChooser) k_W_prepareChooser.1 k_W_prepareChooser.2 [21, 63] 400]
  have key : ∀ (C : Nat → List zv → Mu → mR) (E : Nat → List zv → List zv → Mu → mR), mbk C E q_W_prepareChooser.1 q_W_prepareChooser.2.1 z q_W_prepareChooser.2.2.2 [21, 63] 400 (zfind q_W_prepareChooser.2.2.2 63) [(2, 0), (0, v1), (2, ((o2 : Nat) : Int)), (2, ((o3 : Nat) : Int)), (0, v4), (9, 0)] [] μ = g_W_prepareChooser_21 E v1 o2 o3 (zw (v4 + 1)) μ := by
    intro C E
    rcases ho2 with rfl | rfl <;> rcases ho3 with rfl | rfl <;> (rfl)
  exact key _ _
theorem k_Cho_clear : zprK q_Cho_clear.2.2.2 = true ∧ zinc q_Cho_clear.2.2.2 = true := by decide +kernel
set_option maxRecDepth 100000 in
theorem c_Cho_clear (z : zZ) (d : Nat) (o0 : Nat) (μ : Mu) (ho0 : o0 = 23 ∨ o0 = 29) : mC z (d + 1) 106 [(2, ((o0 : Nat) : Int))] μ = (mC z d 5 [(2, (((o0 + 2) : Nat) : Int)), (0, 0)] (zup μ o0 5 0)).bind fun q1 => (some (0, q1.2)) := by
  rw [mC_succ q_Cho_clear rfl rfl rfl]
  rw [mE_bk (M := q_Cho_clear) k_Cho_clear.1 k_Cho_clear.2 [] 400]
  have key : ∀ (C : Nat → List zv → Mu → mR) (E : Nat → List zv → List zv → Mu → mR), mbk C E q_Cho_clear.1 q_Cho_clear.2.1 z q_Cho_clear.2.2.2 [] 400 (zfind q_Cho_clear.2.2.2 0) (zentry q_Cho_clear.2.2.1 [(2, ((o0 : Nat) : Int))]) [] μ = (C 5 [(2, (((o0 + 2) : Nat) : Int)), (0, 0)] (zup μ o0 5 0)).bind fun q1 => (some (0, q1.2)) := by
    intro C E
    rcases ho0 with rfl | rfl <;> (rfl)
  exact key _ _
def g_Cho_offer_52 (E : Nat → List zv → List zv → Mu → mR) (μ : Mu) : mR := E 52 [(9, 0), (9, 0), (9, 0), (9, 0)] [] μ
noncomputable def f_Cho_offer_52 (z : zZ) (d : Nat) (μ : Mu) : mR := g_Cho_offer_52 (fun pc ls st μ => mE z d q_Cho_offer pc ls st μ) μ
theorem k_Cho_offer : zprK q_Cho_offer.2.2.2 = true ∧ zinc q_Cho_offer.2.2.2 = true := by decide +kernel
set_option maxRecDepth 100000 in
theorem c_Cho_offer (z : zZ) (d : Nat) (o0 : Nat) (v1 : Int) (v2 : Int) (v3 : Int) (μ : Mu) (ho0 : o0 = 23 ∨ o0 = 29) : mC z (d + 1) 107 [(2, ((o0 : Nat) : Int)), (0, v1), (0, v2), (0, v3)] μ = bif decide (v1 < 0) then (f_Cho_offer_52 z d μ) else (bif decide (12 ≤ v1) then (f_Cho_offer_52 z d μ) else (gI v1 12 ((mC z d 108 [(0, v3), (0, 0)] (zup (zup μ o0 5 (z_or (μ o0 5) (z_shl 1 v1))) (o0 + 1) v1.toNat v2)).bind fun q1 => (gI v1 12 ((mC z d 108 [(0, v3), (0, 6)] (zup q1.2 (o0 + 3) v1.toNat q1.1)).bind fun q2 => (gI v1 12 (f_Cho_offer_52 z d (zup q2.2 (o0 + 4) v1.toNat q2.1)))))))) := by
  rw [mC_succ q_Cho_offer rfl rfl rfl]
  rw [mE_bk (M := q_Cho_offer) k_Cho_offer.1 k_Cho_offer.2 [52] 400]
  have key : ∀ (C : Nat → List zv → Mu → mR) (E : Nat → List zv → List zv → Mu → mR), mbk C E q_Cho_offer.1 q_Cho_offer.2.1 z q_Cho_offer.2.2.2 [52] 400 (zfind q_Cho_offer.2.2.2 0) (zentry q_Cho_offer.2.2.1 [(2, ((o0 : Nat) : Int)), (0, v1), (0, v2), (0, v3)]) [] μ = bif decide (v1 < 0) then (g_Cho_offer_52 E μ) else (bif decide (12 ≤ v1) then (g_Cho_offer_52 E μ) else (gI v1 12 ((C 108 [(0, v3), (0, 0)] (zup (zup μ o0 5 (z_or (μ o0 5) (z_shl 1 v1))) (o0 + 1) v1.toNat v2)).bind fun q1 => (gI v1 12 ((C 108 [(0, v3), (0, 6)] (zup q1.2 (o0 + 3) v1.toNat q1.1)).bind fun q2 => (gI v1 12 (g_Cho_offer_52 E (zup q2.2 (o0 + 4) v1.toNat q2.1)))))))) := by
    intro C E
    rcases ho0 with rfl | rfl <;> (rfl)
  exact key _ _
set_option maxRecDepth 100000 in
theorem e_Cho_offer_52 (z : zZ) (d : Nat) (μ : Mu) : f_Cho_offer_52 z d μ = some (0, μ) := by
  show mE z d q_Cho_offer 52 [(9, 0), (9, 0), (9, 0), (9, 0)] [] μ = _
  rw [mE_bk (M := q_Cho_offer) k_Cho_offer.1 k_Cho_offer.2 [52] 400]
  have key : ∀ (C : Nat → List zv → Mu → mR) (E : Nat → List zv → List zv → Mu → mR), mbk C E q_Cho_offer.1 q_Cho_offer.2.1 z q_Cho_offer.2.2.2 [52] 400 (zfind q_Cho_offer.2.2.2 52) [(9, 0), (9, 0), (9, 0), (9, 0)] [] μ = some (0, μ) := by
    intro C E
    rfl
  exact key _ _
def g_Wrd_needs_5 (E : Nat → List zv → List zv → Mu → mR) (v0 : Int) (v1 : Int) (v2 : Int) (v4 : Int) (μ : Mu) : mR := E 5 [(0, v0), (0, v1), (1, v2), (9, 0), (0, v4), (9, 0)] [] μ
noncomputable def f_Wrd_needs_5 (z : zZ) (d : Nat) (v0 : Int) (v1 : Int) (v2 : Int) (v4 : Int) (μ : Mu) : mR := g_Wrd_needs_5 (fun pc ls st μ => mE z d q_Wrd_needs pc ls st μ) v0 v1 v2 v4 μ
def g_Wrd_needs_44 (E : Nat → List zv → List zv → Mu → mR) (v0 : Int) (v1 : Int) (v2 : Int) (v4 : Int) (μ : Mu) : mR := E 44 [(0, v0), (0, v1), (1, v2), (9, 0), (0, v4), (9, 0)] [] μ
noncomputable def f_Wrd_needs_44 (z : zZ) (d : Nat) (v0 : Int) (v1 : Int) (v2 : Int) (v4 : Int) (μ : Mu) : mR := g_Wrd_needs_44 (fun pc ls st μ => mE z d q_Wrd_needs pc ls st μ) v0 v1 v2 v4 μ
theorem k_Wrd_needs : zprK q_Wrd_needs.2.2.2 = true ∧ zinc q_Wrd_needs.2.2.2 = true := by decide +kernel
set_option maxRecDepth 100000 in
theorem c_Wrd_needs (z : zZ) (d : Nat) (v0 : Int) (v1 : Int) (μ : Mu) : mC z (d + 1) 108 [(0, v0), (0, v1)] μ = f_Wrd_needs_5 z d v0 v1 0 0 μ := by
  rw [mC_succ q_Wrd_needs rfl rfl rfl]
  rw [mE_bk (M := q_Wrd_needs) k_Wrd_needs.1 k_Wrd_needs.2 [5, 44] 400]
  have key : ∀ (C : Nat → List zv → Mu → mR) (E : Nat → List zv → List zv → Mu → mR), mbk C E q_Wrd_needs.1 q_Wrd_needs.2.1 z q_Wrd_needs.2.2.2 [5, 44] 400 (zfind q_Wrd_needs.2.2.2 0) (zentry q_Wrd_needs.2.2.1 [(0, v0), (0, v1)]) [] μ = g_Wrd_needs_5 E v0 v1 0 0 μ := by
    intro C E
    rfl
  exact key _ _
set_option maxRecDepth 100000 in
theorem e_Wrd_needs_5 (z : zZ) (d : Nat) (v0 : Int) (v1 : Int) (v2 : Int) (v4 : Int) (μ : Mu) : f_Wrd_needs_5 z d v0 v1 v2 v4 μ = bif decide (8 ≤ v4) then (some (v2, μ)) else ((mC z d 41 [(0, v0), (0, v4)] μ).bind fun q1 => (bif decide (zw (q1.1 - v1) < 0) then (f_Wrd_needs_44 z d v0 v1 v2 v4 q1.2) else (bif decide (6 ≤ zw (q1.1 - v1)) then (f_Wrd_needs_44 z d v0 v1 v2 v4 q1.2) else (f_Wrd_needs_44 z d v0 v1 (zwl (v2 + (z_lshl 1 (zw (8 * (zw (q1.1 - v1))))))) v4 q1.2)))) := by
  show mE z d q_Wrd_needs 5 [(0, v0), (0, v1), (1, v2), (9, 0), (0, v4), (9, 0)] [] μ = _
  rw [mE_bk (M := q_Wrd_needs) k_Wrd_needs.1 k_Wrd_needs.2 [5, 44] 400]
  have key : ∀ (C : Nat → List zv → Mu → mR) (E : Nat → List zv → List zv → Mu → mR), mbk C E q_Wrd_needs.1 q_Wrd_needs.2.1 z q_Wrd_needs.2.2.2 [5, 44] 400 (zfind q_Wrd_needs.2.2.2 5) [(0, v0), (0, v1), (1, v2), (9, 0), (0, v4), (9, 0)] [] μ = bif decide (8 ≤ v4) then (some (v2, μ)) else ((C 41 [(0, v0), (0, v4)] μ).bind fun q1 => (bif decide (zw (q1.1 - v1) < 0) then (g_Wrd_needs_44 E v0 v1 v2 v4 q1.2) else (bif decide (6 ≤ zw (q1.1 - v1)) then (g_Wrd_needs_44 E v0 v1 v2 v4 q1.2) else (g_Wrd_needs_44 E v0 v1 (zwl (v2 + (z_lshl 1 (zw (8 * (zw (q1.1 - v1))))))) v4 q1.2)))) := by
    intro C E
    rfl
  exact key _ _
set_option maxRecDepth 100000 in
theorem e_Wrd_needs_44 (z : zZ) (d : Nat) (v0 : Int) (v1 : Int) (v2 : Int) (v4 : Int) (μ : Mu) : f_Wrd_needs_44 z d v0 v1 v2 v4 μ = f_Wrd_needs_5 z d v0 v1 v2 (zw (v4 + 1)) μ := by
  show mE z d q_Wrd_needs 44 [(0, v0), (0, v1), (1, v2), (9, 0), (0, v4), (9, 0)] [] μ = _
  rw [mE_bk (M := q_Wrd_needs) k_Wrd_needs.1 k_Wrd_needs.2 [5, 44] 400]
  have key : ∀ (C : Nat → List zv → Mu → mR) (E : Nat → List zv → List zv → Mu → mR), mbk C E q_Wrd_needs.1 q_Wrd_needs.2.1 z q_Wrd_needs.2.2.2 [5, 44] 400 (zfind q_Wrd_needs.2.2.2 44) [(0, v0), (0, v1), (1, v2), (9, 0), (0, v4), (9, 0)] [] μ = g_Wrd_needs_5 E v0 v1 v2 (zw (v4 + 1)) μ := by
    intro C E
    rfl
  exact key _ _
theorem k_W_searchBest : zprK q_W_searchBest.2.2.2 = true ∧ zinc q_W_searchBest.2.2.2 = true := by decide +kernel
set_option maxRecDepth 100000 in
theorem c_W_searchBest (z : zZ) (d : Nat) (v1 : Int) (v2 : Int) (v3 : Int) (v4 : Int) (μ : Mu) (hv1 : v1 = 0 ∨ v1 = 1) : mC z (d + 1) 109 [(2, 0), (0, v1), (0, v2), (0, v3), (0, v4)] μ = (mC z d 110 [(2, ((((4 + 9 * v1.toNat) + 3) : Nat) : Int)), (0, 0), (0, v2), (0, v3)] μ).bind fun q1 => ((mC z d 110 [(2, ((((4 + 9 * v1.toNat) + 3) : Nat) : Int)), (0, 6), (0, v2), (0, v3)] q1.2).bind fun q2 => ((mC z d 73 [(2, (((4 + 9 * v1.toNat) : Nat) : Int))] q2.2).bind fun q3 => ((mC z d 111 [(2, (((23 + 6 * v1.toNat) : Nat) : Int)), (1, q1.1), (1, q2.1), (0, q3.1), (0, v4)] q3.2).bind fun q4 => (some (q4.1, q4.2))))) := by
  rw [mC_succ q_W_searchBest rfl rfl rfl]
  rw [mE_bk (M := q_W_searchBest) k_W_searchBest.1 k_W_searchBest.2 [] 400]
  have key : ∀ (C : Nat → List zv → Mu → mR) (E : Nat → List zv → List zv → Mu → mR), mbk C E q_W_searchBest.1 q_W_searchBest.2.1 z q_W_searchBest.2.2.2 [] 400 (zfind q_W_searchBest.2.2.2 0) (zentry q_W_searchBest.2.2.1 [(2, 0), (0, v1), (0, v2), (0, v3), (0, v4)]) [] μ = (C 110 [(2, ((((4 + 9 * v1.toNat) + 3) : Nat) : Int)), (0, 0), (0, v2), (0, v3)] μ).bind fun q1 => ((C 110 [(2, ((((4 + 9 * v1.toNat) + 3) : Nat) : Int)), (0, 6), (0, v2), (0, v3)] q1.2).bind fun q2 => ((C 73 [(2, (((4 + 9 * v1.toNat) : Nat) : Int))] q2.2).bind fun q3 => ((C 111 [(2, (((23 + 6 * v1.toNat) : Nat) : Int)), (1, q1.1), (1, q2.1), (0, q3.1), (0, v4)] q3.2).bind fun q4 => (some (q4.1, q4.2))))) := by
    intro C E
    rcases hv1 with rfl | rfl <;> (rfl)
  exact key _ _
def g_Wrd_packed_8 (E : Nat → List zv → List zv → Mu → mR) (v0 : Int) (v1 : Int) (v2 : Int) (v3 : Int) (v4 : Int) (v6 : Int) (μ : Mu) : mR := E 8 [(2, v0), (0, v1), (0, v2), (0, v3), (1, v4), (9, 0), (0, v6), (9, 0), (9, 0)] [] μ
noncomputable def f_Wrd_packed_8 (z : zZ) (d : Nat) (v0 : Int) (v1 : Int) (v2 : Int) (v3 : Int) (v4 : Int) (v6 : Int) (μ : Mu) : mR := g_Wrd_packed_8 (fun pc ls st μ => mE z d q_Wrd_packed pc ls st μ) v0 v1 v2 v3 v4 v6 μ
def g_Wrd_packed_39 (E : Nat → List zv → List zv → Mu → mR) (v0 : Int) (v1 : Int) (v2 : Int) (v3 : Int) (v4 : Int) (v6 : Int) (v7 : Int) (v100 : Int) (μ : Mu) : mR := E 39 [(2, v0), (0, v1), (0, v2), (0, v3), (1, v4), (9, 0), (0, v6), (0, v7), (9, 0)] [(0, v100)] μ
noncomputable def f_Wrd_packed_39 (z : zZ) (d : Nat) (v0 : Int) (v1 : Int) (v2 : Int) (v3 : Int) (v4 : Int) (v6 : Int) (v7 : Int) (v100 : Int) (μ : Mu) : mR := g_Wrd_packed_39 (fun pc ls st μ => mE z d q_Wrd_packed pc ls st μ) v0 v1 v2 v3 v4 v6 v7 v100 μ
def g_Wrd_packed_50 (E : Nat → List zv → List zv → Mu → mR) (v0 : Int) (v1 : Int) (v2 : Int) (v3 : Int) (v4 : Int) (v6 : Int) (v7 : Int) (v8 : Int) (μ : Mu) : mR := E 50 [(2, v0), (0, v1), (0, v2), (0, v3), (1, v4), (9, 0), (0, v6), (0, v7), (0, v8)] [] μ
noncomputable def f_Wrd_packed_50 (z : zZ) (d : Nat) (v0 : Int) (v1 : Int) (v2 : Int) (v3 : Int) (v4 : Int) (v6 : Int) (v7 : Int) (v8 : Int) (μ : Mu) : mR := g_Wrd_packed_50 (fun pc ls st μ => mE z d q_Wrd_packed pc ls st μ) v0 v1 v2 v3 v4 v6 v7 v8 μ
def g_Wrd_packed_59 (E : Nat → List zv → List zv → Mu → mR) (v0 : Int) (v1 : Int) (v2 : Int) (v3 : Int) (v4 : Int) (v6 : Int) (v8 : Int) (μ : Mu) : mR := E 59 [(2, v0), (0, v1), (0, v2), (0, v3), (1, v4), (9, 0), (0, v6), (9, 0), (0, v8)] [] μ
noncomputable def f_Wrd_packed_59 (z : zZ) (d : Nat) (v0 : Int) (v1 : Int) (v2 : Int) (v3 : Int) (v4 : Int) (v6 : Int) (v8 : Int) (μ : Mu) : mR := g_Wrd_packed_59 (fun pc ls st μ => mE z d q_Wrd_packed pc ls st μ) v0 v1 v2 v3 v4 v6 v8 μ
theorem k_Wrd_packed : zprK q_Wrd_packed.2.2.2 = true ∧ zinc q_Wrd_packed.2.2.2 = true := by decide +kernel
set_option maxRecDepth 100000 in
theorem c_Wrd_packed (z : zZ) (d : Nat) (v0 : Int) (v1 : Int) (v2 : Int) (v3 : Int) (μ : Mu) : mC z (d + 1) 110 [(2, v0), (0, v1), (0, v2), (0, v3)] μ = f_Wrd_packed_8 z d v0 v1 v2 v3 141289400074368 0 μ := by
  rw [mC_succ q_Wrd_packed rfl rfl rfl]
  rw [mE_bk (M := q_Wrd_packed) k_Wrd_packed.1 k_Wrd_packed.2 [8, 39, 50, 59] 400]
  have key : ∀ (C : Nat → List zv → Mu → mR) (E : Nat → List zv → List zv → Mu → mR), mbk C E q_Wrd_packed.1 q_Wrd_packed.2.1 z q_Wrd_packed.2.2.2 [8, 39, 50, 59] 400 (zfind q_Wrd_packed.2.2.2 0) (zentry q_Wrd_packed.2.2.1 [(2, v0), (0, v1), (0, v2), (0, v3)]) [] μ = g_Wrd_packed_8 E v0 v1 v2 v3 141289400074368 0 μ := by
    intro C E
    rfl
  exact key _ _
set_option maxRecDepth 100000 in
theorem e_Wrd_packed_8 (z : zZ) (d : Nat) (v0 : Int) (v1 : Int) (v2 : Int) (v3 : Int) (v4 : Int) (v6 : Int) (μ : Mu) : f_Wrd_packed_8 z d v0 v1 v2 v3 v4 v6 μ = bif decide (6 ≤ v6) then (some (v4, μ)) else ((mC z d 13 [(0, zw (v1 + v6))] μ).bind fun q1 => (bif decide (q1.1 = 0) then (f_Wrd_packed_39 z d v0 v1 v2 v3 v4 v6 (zw (v1 + v6)) 0 q1.2) else (gA v0 (zw (0 + (zw (v1 + v6)))) (f_Wrd_packed_39 z d v0 v1 v2 v3 v4 v6 (zw (v1 + v6)) (q1.2 v0.toNat ((zw (0 + (zw (v1 + v6)))).toNat)) q1.2)))) := by
  show mE z d q_Wrd_packed 8 [(2, v0), (0, v1), (0, v2), (0, v3), (1, v4), (9, 0), (0, v6), (9, 0), (9, 0)] [] μ = _
  rw [mE_bk (M := q_Wrd_packed) k_Wrd_packed.1 k_Wrd_packed.2 [8, 39, 50, 59] 400]
  have key : ∀ (C : Nat → List zv → Mu → mR) (E : Nat → List zv → List zv → Mu → mR), mbk C E q_Wrd_packed.1 q_Wrd_packed.2.1 z q_Wrd_packed.2.2.2 [8, 39, 50, 59] 400 (zfind q_Wrd_packed.2.2.2 8) [(2, v0), (0, v1), (0, v2), (0, v3), (1, v4), (9, 0), (0, v6), (9, 0), (9, 0)] [] μ = bif decide (6 ≤ v6) then (some (v4, μ)) else ((C 13 [(0, zw (v1 + v6))] μ).bind fun q1 => (bif decide (q1.1 = 0) then (g_Wrd_packed_39 E v0 v1 v2 v3 v4 v6 (zw (v1 + v6)) 0 q1.2) else (gA v0 (zw (0 + (zw (v1 + v6)))) (g_Wrd_packed_39 E v0 v1 v2 v3 v4 v6 (zw (v1 + v6)) (q1.2 v0.toNat ((zw (0 + (zw (v1 + v6)))).toNat)) q1.2)))) := by
    intro C E
    rfl
  exact key _ _
set_option maxRecDepth 100000 in
theorem e_Wrd_packed_39 (z : zZ) (d : Nat) (v0 : Int) (v1 : Int) (v2 : Int) (v3 : Int) (v4 : Int) (v6 : Int) (v7 : Int) (v100 : Int) (μ : Mu) : f_Wrd_packed_39 z d v0 v1 v2 v3 v4 v6 v7 v100 μ = bif !decide (v7 = v2) then (f_Wrd_packed_50 z d v0 v1 v2 v3 v4 v6 v7 v100 μ) else (f_Wrd_packed_50 z d v0 v1 v2 v3 v4 v6 v7 (zw (v100 + 1)) μ) := by
  show mE z d q_Wrd_packed 39 [(2, v0), (0, v1), (0, v2), (0, v3), (1, v4), (9, 0), (0, v6), (0, v7), (9, 0)] [(0, v100)] μ = _
  rw [mE_bk (M := q_Wrd_packed) k_Wrd_packed.1 k_Wrd_packed.2 [8, 39, 50, 59] 400]
  have key : ∀ (C : Nat → List zv → Mu → mR) (E : Nat → List zv → List zv → Mu → mR), mbk C E q_Wrd_packed.1 q_Wrd_packed.2.1 z q_Wrd_packed.2.2.2 [8, 39, 50, 59] 400 (zfind q_Wrd_packed.2.2.2 39) [(2, v0), (0, v1), (0, v2), (0, v3), (1, v4), (9, 0), (0, v6), (0, v7), (9, 0)] [(0, v100)] μ = bif !decide (v7 = v2) then (g_Wrd_packed_50 E v0 v1 v2 v3 v4 v6 v7 v100 μ) else (g_Wrd_packed_50 E v0 v1 v2 v3 v4 v6 v7 (zw (v100 + 1)) μ) := by
    intro C E
    rfl
  exact key _ _
set_option maxRecDepth 100000 in
theorem e_Wrd_packed_50 (z : zZ) (d : Nat) (v0 : Int) (v1 : Int) (v2 : Int) (v3 : Int) (v4 : Int) (v6 : Int) (v7 : Int) (v8 : Int) (μ : Mu) : f_Wrd_packed_50 z d v0 v1 v2 v3 v4 v6 v7 v8 μ = bif !decide (v7 = v3) then (f_Wrd_packed_59 z d v0 v1 v2 v3 v4 v6 v8 μ) else (f_Wrd_packed_59 z d v0 v1 v2 v3 v4 v6 (zw (v8 + (-1))) μ) := by
  show mE z d q_Wrd_packed 50 [(2, v0), (0, v1), (0, v2), (0, v3), (1, v4), (9, 0), (0, v6), (0, v7), (0, v8)] [] μ = _
  rw [mE_bk (M := q_Wrd_packed) k_Wrd_packed.1 k_Wrd_packed.2 [8, 39, 50, 59] 400]
  have key : ∀ (C : Nat → List zv → Mu → mR) (E : Nat → List zv → List zv → Mu → mR), mbk C E q_Wrd_packed.1 q_Wrd_packed.2.1 z q_Wrd_packed.2.2.2 [8, 39, 50, 59] 400 (zfind q_Wrd_packed.2.2.2 50) [(2, v0), (0, v1), (0, v2), (0, v3), (1, v4), (9, 0), (0, v6), (0, v7), (0, v8)] [] μ = bif !decide (v7 = v3) then (g_Wrd_packed_59 E v0 v1 v2 v3 v4 v6 v8 μ) else (g_Wrd_packed_59 E v0 v1 v2 v3 v4 v6 (zw (v8 + (-1))) μ) := by
    intro C E
    rfl
  exact key _ _
set_option maxRecDepth 100000 in
theorem e_Wrd_packed_59 (z : zZ) (d : Nat) (v0 : Int) (v1 : Int) (v2 : Int) (v3 : Int) (v4 : Int) (v6 : Int) (v8 : Int) (μ : Mu) : f_Wrd_packed_59 z d v0 v1 v2 v3 v4 v6 v8 μ = f_Wrd_packed_8 z d v0 v1 v2 v3 (zwl (v4 + (z_lshl (if 0 < if 100 < v8 then 100 else v8 then if 100 < v8 then 100 else v8 else 0) (zw (8 * v6))))) (zw (v6 + 1)) μ := by
  show mE z d q_Wrd_packed 59 [(2, v0), (0, v1), (0, v2), (0, v3), (1, v4), (9, 0), (0, v6), (9, 0), (0, v8)] [] μ = _
  rw [mE_bk (M := q_Wrd_packed) k_Wrd_packed.1 k_Wrd_packed.2 [8, 39, 50, 59] 400]
  have key : ∀ (C : Nat → List zv → Mu → mR) (E : Nat → List zv → List zv → Mu → mR), mbk C E q_Wrd_packed.1 q_Wrd_packed.2.1 z q_Wrd_packed.2.2.2 [8, 39, 50, 59] 400 (zfind q_Wrd_packed.2.2.2 59) [(2, v0), (0, v1), (0, v2), (0, v3), (1, v4), (9, 0), (0, v6), (9, 0), (0, v8)] [] μ = g_Wrd_packed_8 E v0 v1 v2 v3 (zwl (v4 + (z_lshl (if 0 < if 100 < v8 then 100 else v8 then if 100 < v8 then 100 else v8 else 0) (zw (8 * v6))))) (zw (v6 + 1)) μ := by
    intro C E
    rfl
  exact key _ _
def g_Cho_search_8 (E : Nat → List zv → List zv → Mu → mR) (o0 : Nat) (v1 : Int) (v3 : Int) (v5 : Int) (v6 : Int) (v7 : Int) (μ : Mu) : mR := E 8 [(2, ((o0 : Nat) : Int)), (1, v1), (9, 0), (1, v3), (9, 0), (0, v5), (0, v6), (0, v7)] [] μ
noncomputable def f_Cho_search_8 (z : zZ) (d : Nat) (o0 : Nat) (v1 : Int) (v3 : Int) (v5 : Int) (v6 : Int) (v7 : Int) (μ : Mu) : mR := g_Cho_search_8 (fun pc ls st μ => mE z d q_Cho_search pc ls st μ) o0 v1 v3 v5 v6 v7 μ
def g_Cho_search_48 (E : Nat → List zv → List zv → Mu → mR) (o0 : Nat) (v1 : Int) (v3 : Int) (v5 : Int) (v6 : Int) (v7 : Int) (v100 : Int) (μ : Mu) : mR := E 48 [(2, ((o0 : Nat) : Int)), (1, v1), (9, 0), (1, v3), (9, 0), (0, v5), (0, v6), (0, v7)] [(0, v100)] μ
noncomputable def f_Cho_search_48 (z : zZ) (d : Nat) (o0 : Nat) (v1 : Int) (v3 : Int) (v5 : Int) (v6 : Int) (v7 : Int) (v100 : Int) (μ : Mu) : mR := g_Cho_search_48 (fun pc ls st μ => mE z d q_Cho_search pc ls st μ) o0 v1 v3 v5 v6 v7 v100 μ
def g_Cho_search_64 (E : Nat → List zv → List zv → Mu → mR) (o0 : Nat) (v1 : Int) (v3 : Int) (v5 : Int) (v6 : Int) (v7 : Int) (μ : Mu) : mR := E 64 [(2, ((o0 : Nat) : Int)), (1, v1), (9, 0), (1, v3), (9, 0), (0, v5), (0, v6), (0, v7)] [] μ
noncomputable def f_Cho_search_64 (z : zZ) (d : Nat) (o0 : Nat) (v1 : Int) (v3 : Int) (v5 : Int) (v6 : Int) (v7 : Int) (μ : Mu) : mR := g_Cho_search_64 (fun pc ls st μ => mE z d q_Cho_search pc ls st μ) o0 v1 v3 v5 v6 v7 μ
theorem k_Cho_search : zprK q_Cho_search.2.2.2 = true ∧ zinc q_Cho_search.2.2.2 = true := by decide +kernel
set_option maxRecDepth 100000 in
theorem c_Cho_search (z : zZ) (d : Nat) (o0 : Nat) (v1 : Int) (v3 : Int) (v5 : Int) (v6 : Int) (μ : Mu) (ho0 : o0 = 23 ∨ o0 = 29) : mC z (d + 1) 111 [(2, ((o0 : Nat) : Int)), (1, v1), (1, v3), (0, v5), (0, v6)] μ = f_Cho_search_8 z d o0 v1 v3 v5 v6 0 (zup μ o0 6 0) := by
  rw [mC_succ q_Cho_search rfl rfl rfl]
  rw [mE_bk (M := q_Cho_search) k_Cho_search.1 k_Cho_search.2 [8, 48, 64] 400]
  have key : ∀ (C : Nat → List zv → Mu → mR) (E : Nat → List zv → List zv → Mu → mR), mbk C E q_Cho_search.1 q_Cho_search.2.1 z q_Cho_search.2.2.2 [8, 48, 64] 400 (zfind q_Cho_search.2.2.2 0) (zentry q_Cho_search.2.2.1 [(2, ((o0 : Nat) : Int)), (1, v1), (1, v3), (0, v5), (0, v6)]) [] μ = g_Cho_search_8 E o0 v1 v3 v5 v6 0 (zup μ o0 6 0) := by
    intro C E
    rcases ho0 with rfl | rfl <;> (rfl)
  exact key _ _
set_option maxRecDepth 100000 in
theorem e_Cho_search_8 (z : zZ) (d : Nat) (o0 : Nat) (v1 : Int) (v3 : Int) (v5 : Int) (v6 : Int) (v7 : Int) (μ : Mu) (ho0 : o0 = 23 ∨ o0 = 29) : f_Cho_search_8 z d o0 v1 v3 v5 v6 v7 μ = bif decide (12 ≤ v7) then ((mC z d 113 [(2, ((o0 : Nat) : Int)), (0, if 0 < if 12 < v5 then 12 else v5 then if 12 < v5 then 12 else v5 else 0)] μ).bind fun q1 => ((mC z d 114 [(2, ((o0 : Nat) : Int)), (0, 11), (0, if 0 < if 12 < v5 then 12 else v5 then if 12 < v5 then 12 else v5 else 0), (1, v1), (1, v3), (0, 0), (0, 0)] (zup (zup q1.2 o0 7 v6) o0 8 0)).bind fun q2 => (some (q2.2 o0 7, q2.2)))) else ((mC z d 23 [(0, μ o0 5), (0, v7)] μ).bind fun q3 => (bif decide (q3.1 = 0) then (f_Cho_search_64 z d o0 v1 v3 v5 v6 v7 q3.2) else (gI v7 12 (gI v7 12 ((mC z d 112 [(1, zwl (v1 - (q3.2 (o0 + 3) v7.toNat))), (1, zwl (v3 - (q3.2 (o0 + 4) v7.toNat)))] q3.2).bind fun q4 => (f_Cho_search_48 z d o0 v1 v3 v5 v6 v7 q4.1 q4.2)))))) := by
  show mE z d q_Cho_search 8 [(2, ((o0 : Nat) : Int)), (1, v1), (9, 0), (1, v3), (9, 0), (0, v5), (0, v6), (0, v7)] [] μ = _
  rw [mE_bk (M := q_Cho_search) k_Cho_search.1 k_Cho_search.2 [8, 48, 64] 400]
  have key : ∀ (C : Nat → List zv → Mu → mR) (E : Nat → List zv → List zv → Mu → mR), mbk C E q_Cho_search.1 q_Cho_search.2.1 z q_Cho_search.2.2.2 [8, 48, 64] 400 (zfind q_Cho_search.2.2.2 8) [(2, ((o0 : Nat) : Int)), (1, v1), (9, 0), (1, v3), (9, 0), (0, v5), (0, v6), (0, v7)] [] μ = bif decide (12 ≤ v7) then ((C 113 [(2, ((o0 : Nat) : Int)), (0, if 0 < if 12 < v5 then 12 else v5 then if 12 < v5 then 12 else v5 else 0)] μ).bind fun q1 => ((C 114 [(2, ((o0 : Nat) : Int)), (0, 11), (0, if 0 < if 12 < v5 then 12 else v5 then if 12 < v5 then 12 else v5 else 0), (1, v1), (1, v3), (0, 0), (0, 0)] (zup (zup q1.2 o0 7 v6) o0 8 0)).bind fun q2 => (some (q2.2 o0 7, q2.2)))) else ((C 23 [(0, μ o0 5), (0, v7)] μ).bind fun q3 => (bif decide (q3.1 = 0) then (g_Cho_search_64 E o0 v1 v3 v5 v6 v7 q3.2) else (gI v7 12 (gI v7 12 ((C 112 [(1, zwl (v1 - (q3.2 (o0 + 3) v7.toNat))), (1, zwl (v3 - (q3.2 (o0 + 4) v7.toNat)))] q3.2).bind fun q4 => (g_Cho_search_48 E o0 v1 v3 v5 v6 v7 q4.1 q4.2)))))) := by
    intro C E
    rcases ho0 with rfl | rfl <;> (rfl)
  exact key _ _
set_option maxRecDepth 100000 in
theorem e_Cho_search_64 (z : zZ) (d : Nat) (o0 : Nat) (v1 : Int) (v3 : Int) (v5 : Int) (v6 : Int) (v7 : Int) (μ : Mu) (ho0 : o0 = 23 ∨ o0 = 29) : f_Cho_search_64 z d o0 v1 v3 v5 v6 v7 μ = f_Cho_search_8 z d o0 v1 v3 v5 v6 (zw (v7 + 1)) μ := by
  show mE z d q_Cho_search 64 [(2, ((o0 : Nat) : Int)), (1, v1), (9, 0), (1, v3), (9, 0), (0, v5), (0, v6), (0, v7)] [] μ = _
  rw [mE_bk (M := q_Cho_search) k_Cho_search.1 k_Cho_search.2 [8, 48, 64] 400]
  have key : ∀ (C : Nat → List zv → Mu → mR) (E : Nat → List zv → List zv → Mu → mR), mbk C E q_Cho_search.1 q_Cho_search.2.1 z q_Cho_search.2.2.2 [8, 48, 64] 400 (zfind q_Cho_search.2.2.2 64) [(2, ((o0 : Nat) : Int)), (1, v1), (9, 0), (1, v3), (9, 0), (0, v5), (0, v6), (0, v7)] [] μ = g_Cho_search_8 E o0 v1 v3 v5 v6 (zw (v7 + 1)) μ := by
    intro C E
    rcases ho0 with rfl | rfl <;> (rfl)
  exact key _ _
set_option maxRecDepth 100000 in
theorem e_Cho_search_48 (z : zZ) (d : Nat) (o0 : Nat) (v1 : Int) (v3 : Int) (v5 : Int) (v6 : Int) (v7 : Int) (v100 : Int) (μ : Mu) (ho0 : o0 = 23 ∨ o0 = 29) : f_Cho_search_48 z d o0 v1 v3 v5 v6 v7 v100 μ = bif decide (v100 = 0) then (f_Cho_search_64 z d o0 v1 v3 v5 v6 v7 μ) else (f_Cho_search_64 z d o0 v1 v3 v5 v6 v7 (zup μ o0 6 (z_or (μ o0 6) (z_shl 1 v7)))) := by
  show mE z d q_Cho_search 48 [(2, ((o0 : Nat) : Int)), (1, v1), (9, 0), (1, v3), (9, 0), (0, v5), (0, v6), (0, v7)] [(0, v100)] μ = _
  rw [mE_bk (M := q_Cho_search) k_Cho_search.1 k_Cho_search.2 [8, 48, 64] 400]
  have key : ∀ (C : Nat → List zv → Mu → mR) (E : Nat → List zv → List zv → Mu → mR), mbk C E q_Cho_search.1 q_Cho_search.2.1 z q_Cho_search.2.2.2 [8, 48, 64] 400 (zfind q_Cho_search.2.2.2 48) [(2, ((o0 : Nat) : Int)), (1, v1), (9, 0), (1, v3), (9, 0), (0, v5), (0, v6), (0, v7)] [(0, v100)] μ = bif decide (v100 = 0) then (g_Cho_search_64 E o0 v1 v3 v5 v6 v7 μ) else (g_Cho_search_64 E o0 v1 v3 v5 v6 v7 (zup μ o0 6 (z_or (μ o0 6) (z_shl 1 v7)))) := by
    intro C E
    rcases ho0 with rfl | rfl <;> (rfl)
  exact key _ _
def g_Cho_fits_19 (E : Nat → List zv → List zv → Mu → mR) (v100 : Int) (μ : Mu) : mR := E 19 [(9, 0), (9, 0), (9, 0), (9, 0)] [(0, v100)] μ
noncomputable def f_Cho_fits_19 (z : zZ) (d : Nat) (v100 : Int) (μ : Mu) : mR := g_Cho_fits_19 (fun pc ls st μ => mE z d q_Cho_fits pc ls st μ) v100 μ
theorem k_Cho_fits : zprK q_Cho_fits.2.2.2 = true ∧ zinc q_Cho_fits.2.2.2 = true := by decide +kernel
set_option maxRecDepth 100000 in
theorem c_Cho_fits (z : zZ) (d : Nat) (v0 : Int) (v2 : Int) (μ : Mu) : mC z (d + 1) 112 [(1, v0), (1, v2)] μ = bif !decide (z_lcmp (z_land (z_land v0 v2) 141289400074368) 141289400074368 = 0) then (f_Cho_fits_19 z d 0 μ) else (f_Cho_fits_19 z d 1 μ) := by
  rw [mC_succ q_Cho_fits rfl rfl rfl]
  rw [mE_bk (M := q_Cho_fits) k_Cho_fits.1 k_Cho_fits.2 [19] 400]
  have key : ∀ (C : Nat → List zv → Mu → mR) (E : Nat → List zv → List zv → Mu → mR), mbk C E q_Cho_fits.1 q_Cho_fits.2.1 z q_Cho_fits.2.2.2 [19] 400 (zfind q_Cho_fits.2.2.2 0) (zentry q_Cho_fits.2.2.1 [(1, v0), (1, v2)]) [] μ = bif !decide (z_lcmp (z_land (z_land v0 v2) 141289400074368) 141289400074368 = 0) then (g_Cho_fits_19 E 0 μ) else (g_Cho_fits_19 E 1 μ) := by
    intro C E
    rfl
  exact key _ _
set_option maxRecDepth 100000 in
theorem e_Cho_fits_19 (z : zZ) (d : Nat) (v100 : Int) (μ : Mu) : f_Cho_fits_19 z d v100 μ = g01 v100 (some (v100, μ)) := by
  show mE z d q_Cho_fits 19 [(9, 0), (9, 0), (9, 0), (9, 0)] [(0, v100)] μ = _
  rw [mE_bk (M := q_Cho_fits) k_Cho_fits.1 k_Cho_fits.2 [19] 400]
  have key : ∀ (C : Nat → List zv → Mu → mR) (E : Nat → List zv → List zv → Mu → mR), mbk C E q_Cho_fits.1 q_Cho_fits.2.1 z q_Cho_fits.2.2.2 [19] 400 (zfind q_Cho_fits.2.2.2 19) [(9, 0), (9, 0), (9, 0), (9, 0)] [(0, v100)] μ = g01 v100 (some (v100, μ)) := by
    intro C E
    rfl
  exact key _ _
