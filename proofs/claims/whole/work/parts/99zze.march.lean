/-! hours, and who can be there: the class -/
def abv (v : Int) : Int := if 0 ≤ v then v else -v
theorem abv_rg {v : Int} (h1 : -15 ≤ v) (h2 : v ≤ 15) : 0 ≤ abv v ∧ abv v ≤ 15 := by unfold abv; split <;> omega
def hvv (b c dd : Row) (x y : Int) (k i : Nat) : Int := z_div (abv (b i - (x + (k : Int))) + abv (c i - y) + dd i - 1) (dd i)
def edg (a b c dd : Row) (w x y : Int) (h : Nat) (k i : Nat) : Bool := decide (a i = (nib w k : Int) - 1) && decide (hvv b c dd x y k i ≤ (h : Int))
theorem zk24 {k i : Nat} (hk : k < 20) (hi : i < 30) : zw (zw ((k : Int) * 24) + (i : Int)) = ((24 * k + i : Nat) : Int) := by
  rw [zw_id (x := (k : Int) * 24) (by omega) (by omega), zw_id (by omega) (by omega)]
  omega
theorem s_hoursTo {z : zZ} {d i k : Nat} {a b c dd : Row} {l x y : Int} {μ : Mu} (hd : 1 ≤ d) (hS : SOr (μ 67) a b c dd) (hi : i < 24) (hl : 0 ≤ l) (hx0 : 0 ≤ x) (hx1 : x + (k : Int) ≤ 15) (hy : 0 ≤ y ∧ y ≤ 15) : mC z d 159 [(2, 65), (0, (i : Int)), (0, l), (0, x + (k : Int)), (0, y)] μ = some (if a i = l then hvv b c dd x y k i else 31, μ) := by
  obtain ⟨e, rfl, he⟩ := pred_of hd
  have z4 : Unit → zw (4 * (i : Int)) = ((4 * i : Nat) : Int) := fun _ => by rw [zw_id (by omega) (by omega)]; omega
  have z41 : Unit → zw (((4 * i : Nat) : Int) + 1) = ((4 * i + 1 : Nat) : Int) := fun _ => zwc (by omega)
  have z42 : Unit → zw (((4 * i : Nat) : Int) + 2) = ((4 * i + 2 : Nat) : Int) := fun _ => by rw [zw_id (by omega) (by omega)]; omega
  have z43 : Unit → zw (((4 * i : Nat) : Int) + 3) = ((4 * i + 3 : Nat) : Int) := fun _ => by rw [zw_id (by omega) (by omega)]; omega
  rw [c_Sol_hoursTo, z4 (), z43 (), gI_ok (by omega) (by omega), Int.toNat_natCast]
  rcases hS i hi with ⟨h1, h2⟩ | ⟨h1, h2, h3, ⟨h4, h5, h6⟩, ⟨h7, h8, h9⟩, h10, h11, h12⟩
  · rw [cT (by omega), e_Sol_hoursTo_30, if_neg (by omega)]
  · rw [cF (by omega), gI_ok (by omega) (by omega), Int.toNat_natCast]
    by_cases hal : a i = l
    · rw [cT (h3.trans hal), e_Sol_hoursTo_33, z4 (), z41 (), z42 (), gI_ok (by omega) (by omega), gI_ok (by omega) (by omega), gN_ok (by omega), Int.toNat_natCast, Int.toNat_natCast, h6, h9, h12, if_pos hal]
      have b1 := abv_rg (v := b i - (x + (k : Int))) (by omega) (by omega)
      have b2 := abv_rg (v := c i - y) (by omega) (by omega)
      have e1 : (if 0 ≤ zw (b i - (x + (k : Int))) then zw (b i - (x + (k : Int))) else zw (0 - zw (b i - (x + (k : Int))))) = abv (b i - (x + (k : Int))) := by
        rw [zw_id (x := b i - (x + (k : Int))) (by omega) (by omega), zw_id (x := 0 - (b i - (x + (k : Int)))) (by omega) (by omega), Int.zero_sub]
        rfl
      have e2 : (if 0 ≤ zw (c i - y) then zw (c i - y) else zw (0 - zw (c i - y))) = abv (c i - y) := by
        rw [zw_id (x := c i - y) (by omega) (by omega), zw_id (x := 0 - (c i - y)) (by omega) (by omega), Int.zero_sub]
        rfl
      rw [e1, e2]
      clear e1 e2
      unfold hvv
      generalize abv (b i - (x + (k : Int))) = P at b1 ⊢
      generalize abv (c i - y) = Q at b2 ⊢
      rw [zw_id (x := P + Q) (by omega) (by omega), zw_id (x := P + Q + dd i) (by omega) (by omega), zw_id (x := P + Q + dd i - 1) (by omega) (by omega)]
    · rw [cF (fun q => hal (h3.symm.trans q)), e_Sol_hoursTo_30, if_neg hal]
def ndv (a b c dd : Row) (w x y : Int) (k i : Nat) : Int := if a i = (nib w k : Int) - 1 then hvv b c dd x y k i else 31
theorem s_need {z : zZ} {e n : Nat} {a b c dd : Row} {w x y : Int} {μ : Mu} (he : 1 ≤ e) (hw : isW w n) (hS : SOr (μ 67) a b c dd) (hx0 : 0 ≤ x) (hx1 : x + (n : Int) ≤ 16) (hy : 0 ≤ y ∧ y ≤ 15) : ∃ M, f_Sol_assemble_9 z e w x y (n : Int) 0 μ = f_Sol_assemble_73 z e (n : Int) (zup M 65 0 0) ∧ (∀ a, a ≠ 69 → M a = μ a) ∧ ∀ k i, k < n → i < 24 → M 69 (24 * k + i) = ndv a b c dd w x y k i := by
  have n8 := hw.2.1
  have inner : ∀ (k : Nat), k < n → ∀ (j i : Nat) (M : Mu), j + i = 24 → (∀ a, a ≠ 69 → M a = μ a) → (∀ k' i', i' < 24 → (k' < k ∨ (k' = k ∧ i' < i)) → M 69 (24 * k' + i') = ndv a b c dd w x y k' i') → ∃ M', f_Sol_assemble_19 z e w x y (n : Int) (k : Int) (i : Int) M = f_Sol_assemble_9 z e w x y (n : Int) ((k + 1 : Nat) : Int) M' ∧ (∀ a, a ≠ 69 → M' a = μ a) ∧ ∀ k' i', k' < k + 1 → i' < 24 → M' 69 (24 * k' + i') = ndv a b c dd w x y k' i' := by
    intro k hk j
    induction j with
    | zero =>
      intro i M hj h1 h2
      have : i = 24 := by omega
      subst this
      exact ⟨M, by rw [e_Sol_assemble_19, cT (by omega), zwc (by omega)], h1, fun k' i' q1 q2 => h2 k' i' q2 (by omega)⟩
    | succ j ih =>
      intro i M hj h1 h2
      have hl := hw.2.2.1 k hk
      have hh := s_hoursTo (z := z) (d := e) (i := i) (k := k) (l := (nib w k : Int) - 1) (x := x) (y := y) (μ := M) (a := a) (b := b) (c := c) (dd := dd) he (by rw [h1 67 (by omega)]; exact hS) (by omega) (by omega) hx0 (by omega) hy
      have hn : (if a i = (nib w k : Int) - 1 then hvv b c dd x y k i else 31) = ndv a b c dd w x y k i := rfl
      rw [hn] at hh
      rw [e_Sol_assemble_19, cF (by omega), s_letterAt he, letc_nat (by omega)]
      simp -implicitDefEqProofs only [ob]
      rw [zw_id (x := x + (k : Int)) (by omega) (by omega), hh]
      simp -implicitDefEqProofs only [ob]
      rw [zk24 (by omega) (by omega), gI_ok (by omega) (by omega), Int.toNat_natCast, zwc (by omega)]
      refine ih (i + 1) _ (by omega) (fun a q => by rw [zup_ro q]; exact h1 a q) (fun k' i' q1 q2 => ?_)
      by_cases e1 : k' = k ∧ i' = i
      · rw [e1.1, e1.2, zup_hit]
      · rw [zup_nk (by omega)]
        exact h2 k' i' q1 (by omega)
  have outer : ∀ (j k : Nat) (M : Mu), j + k = n → (∀ a, a ≠ 69 → M a = μ a) → (∀ k' i', k' < k → i' < 24 → M 69 (24 * k' + i') = ndv a b c dd w x y k' i') → ∃ M', f_Sol_assemble_9 z e w x y (n : Int) (k : Int) M = f_Sol_assemble_73 z e (n : Int) (zup M' 65 0 0) ∧ (∀ a, a ≠ 69 → M' a = μ a) ∧ ∀ k i, k < n → i < 24 → M' 69 (24 * k + i) = ndv a b c dd w x y k i := by
    intro j
    induction j with
    | zero =>
      intro k M hj h1 h2
      have : k = n := by omega
      subst this
      exact ⟨M, by rw [e_Sol_assemble_9, cT (by omega)], h1, h2⟩
    | succ j ih =>
      intro k M hj h1 h2
      obtain ⟨M1, g1, g2, g3⟩ := inner k (by omega) 24 0 M (by omega) h1 (fun k' i' q1 q2 => h2 k' i' (by omega) q1)
      rw [show ((0 : Nat) : Int) = 0 from rfl] at g1
      rw [e_Sol_assemble_9, cF (by omega), g1]
      exact ih (k + 1) M1 (by omega) g2 g3
  exact outer n 0 μ (by omega) (fun _ _ => rfl) (fun k' i' q => absurd q (by omega))
def rch (nd : Nat → Nat → Int) (h k : Nat) : Nat := bset (fun i => decide (nd k i ≤ (h : Int))) 24
theorem rch_lt (nd : Nat → Nat → Int) (h k : Nat) : rch nd h k < 16777216 := bset_lt _ 24
theorem rch_bit {nd : Nat → Nat → Int} {h k i : Nat} (hi : i < 24) : (rch nd h k).testBit i = decide (nd k i ≤ (h : Int)) := by
  unfold rch
  rw [bset_bit, decide_eq_true hi, Bool.true_and]
theorem s_fillReach {z : zZ} {d n h : Nat} {nd : Nat → Nat → Int} {μ : Mu} (hd : 1 ≤ d) (hn : n ≤ 8) (hh : μ 65 0 = (h : Int)) (hnd : ∀ k i, k < n → i < 24 → μ 69 (24 * k + i) = nd k i) : ∃ M, mC z d 160 [(2, 65), (0, (n : Int))] μ = some (0, M) ∧ (∀ a, a ≠ 70 → M a = μ a) ∧ ∀ k, k < n → M 70 k = (rch nd h k : Int) := by
  obtain ⟨e, rfl, he⟩ := pred_of hd
  rw [c_Sol_fillReach]
  have inner : ∀ (k : Nat), k < n → ∀ (j i : Nat) (M : Mu), j + i = 24 → (∀ a, a ≠ 70 → M a = μ a) → (∀ k', k' < k → M 70 k' = (rch nd h k' : Int)) → M 70 k = ((bset (fun i => decide (nd k i ≤ (h : Int))) i : Nat) : Int) → ∃ M', f_Sol_fillReach_16 z e (n : Int) (k : Int) (i : Int) M = f_Sol_fillReach_2 z e (n : Int) ((k + 1 : Nat) : Int) M' ∧ (∀ a, a ≠ 70 → M' a = μ a) ∧ ∀ k', k' < k + 1 → M' 70 k' = (rch nd h k' : Int) := by
    intro k hk j
    induction j with
    | zero =>
      intro i M hj h1 h2 h3
      have : i = 24 := by omega
      subst this
      refine ⟨M, by rw [e_Sol_fillReach_16, cT (by omega), zwc (by omega)], h1, fun k' q => ?_⟩
      by_cases e1 : k' = k
      · subst e1; exact h3
      · exact h2 k' (by omega)
    | succ j ih =>
      intro i M hj h1 h2 h3
      have hi : i < 24 := by omega
      have h52 : ∀ M1 : Mu, f_Sol_fillReach_52 z e (n : Int) (k : Int) (i : Int) M1 = f_Sol_fillReach_16 z e (n : Int) (k : Int) ((i + 1 : Nat) : Int) M1 := fun M1 => by rw [e_Sol_fillReach_52, zwc (by omega)]
      have hb := bset_lt (fun i => decide (nd k i ≤ (h : Int))) i
      have hp : (2 : Nat) ^ i ≤ 2 ^ 24 := Nat.pow_le_pow_right (by omega) (by omega)
      have hs : bset (fun i => decide (nd k i ≤ (h : Int))) (i + 1) = bset (fun i => decide (nd k i ≤ (h : Int))) i ||| (if decide (nd k i ≤ (h : Int)) = true then 2 ^ i else 0) := rfl
      have e65 : M 65 0 = (h : Int) := by rw [h1 65 (by omega)]; exact hh
      have e69 : M 69 (24 * k + i) = nd k i := by rw [h1 69 (by omega)]; exact hnd k i hk hi
      rw [e_Sol_fillReach_16, cF (by omega), zk24 (by omega) (by omega), gI_ok (by omega) (by omega), Int.toNat_natCast]
      by_cases hc : nd k i ≤ (h : Int)
      · rw [cF (show ¬ M 65 0 < M 69 (24 * k + i) by omega), gI_ok (by omega) (by omega), gI_ok (by omega) (by omega), Int.toNat_natCast, h3, s_or1 (by omega) (by omega), h52]
        refine ih (i + 1) _ (by omega) (fun a q => by rw [zup_ro q]; exact h1 a q) (fun k' q => by rw [zup_nk (by omega)]; exact h2 k' q) ?_
        rw [zup_hit, hs, decide_eq_true hc, if_pos rfl]
      · rw [cT (show M 65 0 < M 69 (24 * k + i) by omega), h52]
        refine ih (i + 1) M (by omega) h1 h2 ?_
        rw [h3, hs, decide_eq_false hc, if_neg (by decide), Nat.or_zero]
  have outer : ∀ (j k : Nat) (M : Mu), j + k = n → (∀ a, a ≠ 70 → M a = μ a) → (∀ k', k' < k → M 70 k' = (rch nd h k' : Int)) → ∃ M', f_Sol_fillReach_2 z e (n : Int) (k : Int) M = some (0, M') ∧ (∀ a, a ≠ 70 → M' a = μ a) ∧ ∀ k, k < n → M' 70 k = (rch nd h k : Int) := by
    intro j
    induction j with
    | zero =>
      intro k M hj h1 h2
      have : k = n := by omega
      subst this
      exact ⟨M, by rw [e_Sol_fillReach_2, cT (by omega)], h1, h2⟩
    | succ j ih =>
      intro k M hj h1 h2
      obtain ⟨M1, g1, g2, g3⟩ := inner k (by omega) 24 0 (zup M 70 k 0) (by omega) (fun a q => by rw [zup_ro q]; exact h1 a q) (fun k' q => by rw [zup_nk (by omega)]; exact h2 k' q) (by rw [zup_hit]; rfl)
      rw [show ((0 : Nat) : Int) = 0 from rfl] at g1
      rw [e_Sol_fillReach_2, cF (by omega), gI_ok (by omega) (by omega), Int.toNat_natCast, g1]
      exact ih (k + 1) M1 (by omega) g2 g3
  exact outer n 0 μ (by omega) (fun _ _ => rfl) (fun k' q => absurd q (by omega))
theorem GW_congr {E E' : Nat → Nat → Bool} {n : Nat} {u : Nat → Nat} {k : Nat} (hk : k < n) (hE : ∀ k i, k < n → i < 24 → E k i = E' k i) (h : GW E n u k) : GW E' n u k := by
  obtain ⟨g1, g2, g3, g4, g5⟩ := h
  refine ⟨g1, by rw [← hE k _ hk g1]; exact g2, g3, MT_congr (fun k i _ q1 q2 => hE k i q1 q2) (fun _ _ => rfl) g4, fun i hi hh => g5 i hi ⟨by rw [hE k _ hk (by omega)]; exact hh.1, hh.2.1, MT_congr (fun k i _ q1 q2 => (hE k i q1 q2).symm) (fun _ _ => rfl) hh.2.2⟩⟩
/-- what a march may change in the class -/
def AFm (μ M : Mu) : Prop := ∀ a, a ≠ 65 → a ≠ 66 → a ≠ 69 → a ≠ 70 → a ≠ 71 → M a = μ a
theorem s_assemble {z : zZ} {d n : Nat} {a b c dd : Row} {w x y : Int} {μ : Mu} (hd : 14 ≤ d) (hw : isW w n) (hS : SOr (μ 67) a b c dd) (hx0 : 0 ≤ x) (hx1 : x + (n : Int) ≤ 16) (hy : 0 ≤ y ∧ y ≤ 15) : ∃ M, AFm μ M ∧ ((∃ (h : Nat) (u : Nat → Nat), h ≤ 30 ∧ MT (edg a b c dd w x y h) (fun _ => false) 0 n ∧ (∀ h', h' < h → ¬ MT (edg a b c dd w x y h') (fun _ => false) 0 n) ∧ (∀ k, k < n → GW (edg a b c dd w x y h) n u k) ∧ mC z d 158 [(2, 65), (0, w), (0, x), (0, y)] μ = some (1, M) ∧ M 65 0 = (h : Int) ∧ ∀ k, k < n → M 66 k = (u k : Int)) ∨ ((∀ h, h ≤ 30 → ¬ MT (edg a b c dd w x y h) (fun _ => false) 0 n) ∧ mC z d 158 [(2, 65), (0, w), (0, x), (0, y)] μ = some (0, M))) := by
  obtain ⟨e, rfl, he⟩ := pred_of (k := 13) hd
  have n8 := hw.2.1
  obtain ⟨M0, m1, m2, m3⟩ := s_need (z := z) (e := e) (n := n) (a := a) (b := b) (c := c) (dd := dd) (w := w) (x := x) (y := y) (μ := μ) (by omega) hw hS hx0 hx1 hy
  have hc : mC z (e + 1) 158 [(2, 65), (0, w), (0, x), (0, y)] μ = f_Sol_assemble_73 z e (n : Int) (zup M0 65 0 0) := by
    rw [c_Sol_assemble, s_sizeOf (by omega) hw]
    simp -implicitDefEqProofs only [ob]
    exact m1
  rw [hc]
  have hE : ∀ h, h ≤ 30 → ∀ k i, k < n → i < 24 → (rch (ndv a b c dd w x y) h k).testBit i = edg a b c dd w x y h k i := fun h hh k i hk hi => by
    rw [rch_bit hi]
    unfold ndv edg
    by_cases q : a i = (nib w k : Int) - 1
    · rw [if_pos q, decide_eq_true q, Bool.true_and]
    · rw [if_neg q, decide_eq_false q, Bool.false_and]
      exact decide_eq_false (by omega)
  have go : ∀ (j h : Nat) (M : Mu), j + h = 31 → AFm μ M → M 65 0 = (h : Int) → (∀ k i, k < n → i < 24 → M 69 (24 * k + i) = ndv a b c dd w x y k i) → (∀ h', h' < h → ¬ MT (edg a b c dd w x y h') (fun _ => false) 0 n) → ∃ M', AFm μ M' ∧ ((∃ (h : Nat) (u : Nat → Nat), h ≤ 30 ∧ MT (edg a b c dd w x y h) (fun _ => false) 0 n ∧ (∀ h', h' < h → ¬ MT (edg a b c dd w x y h') (fun _ => false) 0 n) ∧ (∀ k, k < n → GW (edg a b c dd w x y h) n u k) ∧ f_Sol_assemble_73 z e (n : Int) M = some (1, M') ∧ M' 65 0 = (h : Int) ∧ ∀ k, k < n → M' 66 k = (u k : Int)) ∨ ((∀ h, h ≤ 30 → ¬ MT (edg a b c dd w x y h) (fun _ => false) 0 n) ∧ f_Sol_assemble_73 z e (n : Int) M = some (0, M'))) := by
    intro j
    induction j with
    | zero =>
      intro h M hj h1 h2 h3 h4
      refine ⟨M, h1, Or.inr ⟨fun h' hh => h4 h' (by omega), ?_⟩⟩
      rw [e_Sol_assemble_73, cT (by omega)]
    | succ j ih =>
      intro h M hj h1 h2 h3 h4
      obtain ⟨M1, k1, k2, k3⟩ := s_fillReach (z := z) (d := e) (n := n) (h := h) (nd := ndv a b c dd w x y) (μ := M) (by omega) n8 h2 h3
      have hR : ∀ k, k < n → M1 70 k = (rch (ndv a b c dd w x y) h k : Int) ∧ rch (ndv a b c dd w x y) h k < 16777216 := fun k hk => ⟨k3 k hk, rch_lt _ _ _⟩
      obtain ⟨bb, M2, l1, l2, l3⟩ := s_canFill (z := z) (d := e) (f := 0) (n := n) (used := 0) (R := fun k => rch (ndv a b c dd w x y) h k) (μ := M1) (by omega) hR n8 (by omega) (by omega)
      rw [show ((0 : Nat) : Int) = 0 from rfl] at l1
      have hA2 : AFm μ M2 := fun a q1 q2 q3 q4 q5 => by rw [l2.1 a q1 q5, k2 a q4, h1 a q1 q2 q3 q4 q5]
      have hAe := hE h (by omega)
      have hiff : bb = true ↔ MT (edg a b c dd w x y h) (fun _ => false) 0 n := ⟨fun q => MT_congr (fun k i _ q1 q2 => hAe k i q1 q2) (fun i _ => Nat.zero_testBit i) (l3.mp q), fun q => l3.mpr (MT_congr (fun k i _ q1 q2 => (hAe k i q1 q2).symm) (fun i _ => (Nat.zero_testBit i).symm) q)⟩
      rw [e_Sol_assemble_73, cF (by omega), k1]
      simp -implicitDefEqProofs only [ob]
      rw [l1]
      simp -implicitDefEqProofs only [ob]
      rw [cB]
      cases bb with
      | false =>
        have hno : ¬ MT (edg a b c dd w x y h) (fun _ => false) 0 n := fun q => absurd (hiff.mpr q) (by decide)
        have e65 : M2 65 0 = (h : Int) := by rw [l2.2 0 (by omega), k2 65 (by omega)]; exact h2
        rw [cond_false, e_Sol_assemble_107, e65, zwc (by omega)]
        refine ih (h + 1) _ (by omega) (fun a q1 q2 q3 q4 q5 => by rw [zup_ro q1]; exact hA2 a q1 q2 q3 q4 q5) zup_hit (fun k i q1 q2 => by rw [zup_ro (by omega), l2.1 69 (by omega) (by omega), k2 69 (by omega)]; exact h3 k i q1 q2) (fun h' hh => ?_)
        by_cases e1 : h' = h
        · subst e1; exact hno
        · exact h4 h' (by omega)
      | true =>
        have hyes := hiff.mp rfl
        obtain ⟨u, hu⟩ := GW_ex hyes
        have hR2 : ∀ k, k < n → M2 70 k = (rch (ndv a b c dd w x y) h k : Int) ∧ rch (ndv a b c dd w x y) h k < 16777216 := fun k hk => by rw [l2.1 70 (by omega) (by omega)]; exact hR k hk
        obtain ⟨M3, n1, n2, n3⟩ := s_chooseWho (z := z) (d := e) (n := n) (R := fun k => rch (ndv a b c dd w x y) h k) (u := u) (μ := M2) he hR2 n8 (fun k hk => GW_congr hk (fun k i q1 q2 => (hAe k i q1 q2).symm) (hu k hk))
        rw [cond_true, n1]
        simp -implicitDefEqProofs only [ob]
        refine ⟨M3, fun a q1 q2 q3 q4 q5 => by rw [n2.1 a q1 q2 q5]; exact hA2 a q1 q2 q3 q4 q5, Or.inl ⟨h, u, by omega, hyes, h4, hu, rfl, ?_, n3⟩⟩
        rw [n2.2 0 (by omega), l2.2 0 (by omega), k2 65 (by omega)]
        exact h2
  exact go 31 0 _ (by omega) (fun a q1 q2 q3 q4 q5 => by rw [zup_ro q1]; exact m2 a q3) zup_hit (fun k i q1 q2 => by rw [zup_ro (by omega)]; exact m3 k i q1 q2) (fun h' q => absurd q (by omega))
