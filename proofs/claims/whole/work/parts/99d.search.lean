/-! the class's search for the best set -/
def ivU (U : Nat) (val : Nat → Int) (w : Nat) : Int := if U.testBit w = true then val w else 0
def ibB (iv : Nat → Int) (places : Nat) (h : Row) (k r : Nat) : Prop := (∀ k' r', k' < k → r' ≤ places → h (13 * k' + r') = bn iv (k' + 1) r') ∧ ∀ r', r' < r → r' ≤ places → h (13 * k + r') = bn iv (k + 1) r'
theorem s_fill1 {z : zZ} {e o k places : Nat} {iv : Nat → Int} {μ : Mu} (ho : isH o) (hiv : ∀ w, 0 ≤ iv w ∧ iv w ≤ 9999) (hk : k < 12) (hp : places ≤ 12) : ∀ (j r : Nat) (h : Row), j + r = places + 1 → 1 ≤ r → ibB iv places h k r → ∃ h', f_Cho_fillBounds_47 z e o (places : Int) (k : Int) (iv k) ((13 * k : Nat) : Int) (r : Int) (zrow μ (o + 5) h) = f_Cho_fillBounds_133 z e o (places : Int) (k : Int) (zrow μ (o + 5) h') ∧ ibB iv places h' (k + 1) 0 := by
  intro j
  induction j with
  | zero =>
    intro r h hj hr hI
    refine ⟨h, by rw [e_Cho_fillBounds_47 _ _ _ _ _ _ _ _ _ ho, cT (by omega)], fun k' r' h1 h2 => ?_, fun r' h1 => by omega⟩
    by_cases ek : k' = k
    · subst ek; exact hI.2 r' (by omega) h2
    · exact hI.1 k' r' (by omega) h2
  | succ j ih =>
    intro r h hj hr hI
    have hb1 := bn_rg hiv k r
    have hb2 := bn_rg hiv k (r - 1)
    have hvk := hiv k
    have hpr : ∀ r', r' ≤ places → (k = 0 → bn iv k r' = 0) ∧ (k ≠ 0 → zrow μ (o + 5) h (o + 5) (13 * (k - 1) + r') = bn iv k r') := fun r' hr' => ⟨fun e => by subst e; rfl, fun e => by
      rw [zrow_same, hI.1 (k - 1) r' (by omega) hr', show k - 1 + 1 = k by omega]⟩
    have hstep : ∀ x y : Int, x = bn iv k r → y = bn iv k (r - 1) → f_Cho_fillBounds_107 z e o (places : Int) (k : Int) (iv k) ((13 * k : Nat) : Int) (r : Int) x (iv k) y (zrow μ (o + 5) h) = f_Cho_fillBounds_47 z e o (places : Int) (k : Int) (iv k) ((13 * k : Nat) : Int) ((r + 1 : Nat) : Int) (zrow μ (o + 5) (rup h (13 * k + r) (bn iv (k + 1) r))) := by
      intro x y hx hy
      have er : bn iv (k + 1) r = (if x < zw (iv k + y) then zw (iv k + y) else x) := by
        obtain ⟨r0, rfl⟩ : ∃ r0, r = r0 + 1 := ⟨r - 1, by omega⟩
        rw [Nat.add_sub_cancel] at hy hb2
        rw [hx, hy, zw_id (by omega) (by omega)]
        rfl
      rw [e_Cho_fillBounds_107 _ _ _ _ _ _ _ _ _ _ _ _ ho, zwa (by omega), gI_ok (by omega) (by omega), Int.toNat_natCast, ← er, zupr, zrow_same, zrow_zrow, zwc (by omega)]
    have hrun : f_Cho_fillBounds_47 z e o (places : Int) (k : Int) (iv k) ((13 * k : Nat) : Int) (r : Int) (zrow μ (o + 5) h) = f_Cho_fillBounds_47 z e o (places : Int) (k : Int) (iv k) ((13 * k : Nat) : Int) ((r + 1 : Nat) : Int) (zrow μ (o + 5) (rup h (13 * k + r) (bn iv (k + 1) r))) := by
      rw [e_Cho_fillBounds_47 _ _ _ _ _ _ _ _ _ ho, cF (by omega), cF (by omega)]
      by_cases hk0 : k = 0
      · rw [nT (by omega), e_Cho_fillBounds_81 _ _ _ _ _ _ _ _ _ _ ho, nT (by omega)]
        exact hstep 0 0 ((hpr r (by omega)).1 hk0).symm ((hpr (r - 1) (by omega)).1 hk0).symm
      · rw [nF (by omega), show zw (zw (((13 * k : Nat) : Int) - 13) + (r : Int)) = ((13 * (k - 1) + r : Nat) : Int) by rw [zw_id (x := ((13 * k : Nat) : Int) - 13) (by omega) (by omega), zw_id (by omega) (by omega)]; omega, gI_ok (by omega) (by omega), Int.toNat_natCast, e_Cho_fillBounds_81 _ _ _ _ _ _ _ _ _ _ ho, nF (by omega), show zw (zw (zw (((13 * k : Nat) : Int) - 13) + (r : Int)) - 1) = ((13 * (k - 1) + (r - 1) : Nat) : Int) by rw [zw_id (x := ((13 * k : Nat) : Int) - 13) (by omega) (by omega), zw_id (x := ((13 * k : Nat) : Int) - 13 + (r : Int)) (by omega) (by omega), zw_id (by omega) (by omega)]; omega, gI_ok (by omega) (by omega), Int.toNat_natCast]
        exact hstep _ _ ((hpr r (by omega)).2 hk0) ((hpr (r - 1) (by omega)).2 hk0)
    obtain ⟨h', q1, q2⟩ := ih (r + 1) (rup h (13 * k + r) (bn iv (k + 1) r)) (by omega) (by omega) ⟨fun k' r' h1 h2 => by rw [rup_ne (by omega)]; exact hI.1 k' r' h1 h2, fun r' h1 h2 => by
      by_cases er : r' = r
      · subst er; exact rup_same
      · rw [rup_ne (by omega)]; exact hI.2 r' (by omega) h2⟩
    exact ⟨h', by rw [hrun]; exact q1, q2⟩
theorem s_fillBounds {z : zZ} {d o U places : Nat} {val : Nat → Int} {μ : Mu} (hd : 2 ≤ d) (ho : isH o) (h6 : μ o 6 = (U : Int)) (hU : U < 4096) (hv : ∀ w, w < 12 → U.testBit w = true → μ (o + 1) w = val w) (hvr : ∀ w, 0 ≤ ivU U val w ∧ ivU U val w ≤ 9999) (hp : places ≤ 12) : ∃ h, mC z d 113 [(2, (o : Int)), (0, (places : Int))] μ = some (0, zrow μ (o + 5) h) ∧ ∀ k r, k < 12 → r ≤ places → h (13 * k + r) = bn (ivU U val) (k + 1) r := by
  obtain ⟨e, rfl, he⟩ := pred_of hd
  have hgo : ∀ (j k : Nat) (h : Row), j + k = 12 → ibB (ivU U val) places h k 0 → ∃ h', f_Cho_fillBounds_2 z e o (places : Int) (k : Int) (zrow μ (o + 5) h) = some (0, zrow μ (o + 5) h') ∧ ibB (ivU U val) places h' 12 0 := by
    intro j
    induction j with
    | zero =>
      intro k h hj hI
      have : k = 12 := by omega
      subst this
      exact ⟨h, by rw [e_Cho_fillBounds_2 _ _ _ _ _ _ ho, cT (by omega)], hI⟩
    | succ j ih =>
      intro k h hj hI
      have hval : zrow μ (o + 5) h o 6 = (U : Int) := by rw [zrow_ne (by omega)]; exact h6
      have h29 : ∀ x : Int, x = ivU U val k → f_Cho_fillBounds_29 z e o (places : Int) (k : Int) x (zrow μ (o + 5) h) = f_Cho_fillBounds_47 z e o (places : Int) (k : Int) (ivU U val k) ((13 * k : Nat) : Int) ((1 : Nat) : Int) (zrow μ (o + 5) (rup h (13 * k) 0)) := by
        intro x hx
        rw [e_Cho_fillBounds_29 _ _ _ _ _ _ _ ho, hx, show zw ((k : Int) * 13) = ((13 * k : Nat) : Int) by rw [zw_id (by omega) (by omega)]; omega, gI_ok (by omega) (by omega), Int.toNat_natCast, zupr, zrow_same, zrow_zrow]
        rfl
      have hrun : f_Cho_fillBounds_2 z e o (places : Int) (k : Int) (zrow μ (o + 5) h) = f_Cho_fillBounds_47 z e o (places : Int) (k : Int) (ivU U val k) ((13 * k : Nat) : Int) ((1 : Nat) : Int) (zrow μ (o + 5) (rup h (13 * k) 0)) := by
        rw [e_Cho_fillBounds_2 _ _ _ _ _ _ ho, cF (by omega), hval, s_has (by omega) (by omega) (by omega)]
        simp -implicitDefEqProofs only [ob]
        rw [cB]
        by_cases hu : U.testBit k = true
        · rw [hu, cond_true, gI_ok (by omega) (by omega), Int.toNat_natCast, zrow_ne (by omega), hv k (by omega) hu]
          exact h29 _ (by unfold ivU; rw [if_pos hu])
        · have hu' : U.testBit k = false := by simpa using hu
          rw [hu', cond_false, e_Cho_fillBounds_28 _ _ _ _ _ _ ho]
          exact h29 _ (by unfold ivU; rw [if_neg hu])
      obtain ⟨h1, q1, q2⟩ := s_fill1 (z := z) (e := e) (μ := μ) ho hvr (by omega : k < 12) hp places 1 (rup h (13 * k) 0) (by omega) (Nat.le_refl _) ⟨fun k' r' g1 g2 => by rw [rup_ne (by omega)]; exact hI.1 k' r' g1 g2, fun r' g1 g2 => by
        have : r' = 0 := by omega
        subst this
        rw [Nat.add_zero, rup_same, bn_0]⟩
      obtain ⟨h2, q3, q4⟩ := ih (k + 1) h1 (by omega) q2
      exact ⟨h2, by rw [hrun, q1, e_Cho_fillBounds_133 _ _ _ _ _ _ ho, zwc (by omega)]; exact q3, q4⟩
  obtain ⟨h', q1, q2⟩ := hgo 12 0 (μ (o + 5)) rfl ⟨fun _ _ h => by omega, fun _ h => by omega⟩
  rw [zrow_id] at q1
  refine ⟨h', ?_, fun k r h1 h2 => q2.1 k r h1 h2⟩
  rw [c_Cho_fillBounds _ _ _ _ _ ho]
  exact q1
/-- words that fit alone, or with others -/
theorem okT_us {us us' : Nat → Bool} {cl : Nat → Nat} {nd : Nat → Nat → Int} {room : Nat} {st : Nat → Int} {ch T k : Nat} (hnd : ∀ w x, 0 ≤ nd w x) (hus : ∀ w, w < k → us' w = (us w && allb (fun x => decide (0 ≤ st x - nd w x)) 12)) : okT us' cl nd room st ch T k ↔ okT us cl nd room st ch T k := by
  have hle : ∀ x w j, j ≤ k → w < j → T.testBit w = true → nd w x ≤ smT (fun w => nd w x) T j := by
    intro x w j
    induction j with
    | zero => intro _ h; omega
    | succ j ih =>
      intro hj hw hT
      have h0 := smT_nn (val := fun w => nd w x) (T := T) j (fun w _ => hnd w x)
      have hq : smT (fun w => nd w x) T (j + 1) = smT (fun w => nd w x) T j + (if T.testBit j = true then nd j x else 0) := rfl
      by_cases e : w = j
      · subst e
        rw [hq, if_pos hT]
        omega
      · have h1 := ih (by omega) (by omega) hT
        have h2 := hnd j x
        rw [hq]
        split <;> omega
  unfold okT
  constructor
  · rintro ⟨h1, h2, h3⟩
    refine ⟨h1, fun w hw hT => ?_, h3⟩
    obtain ⟨q1, q2, q3⟩ := h2 w hw hT
    rw [hus w hw, Bool.and_eq_true] at q1
    exact ⟨q1.1, q2, q3⟩
  · rintro ⟨h1, h2, h3⟩
    refine ⟨h1, fun w hw hT => ?_, h3⟩
    obtain ⟨q1, q2, q3⟩ := h2 w hw hT
    refine ⟨?_, q2, q3⟩
    rw [hus w hw, q1, Bool.true_and, allb_iff]
    intro x hx
    have h4 := h3 x hx
    have h5 := hle x w k (Nat.le_refl _) hw hT
    exact decide_eq_true (by omega)
theorem s_search {z : zZ} {d o O room : Nat} {fl : Int} {val : Nat → Int} {cl : Nat → Nat} {nd : Nat → Nat → Int} {st : Nat → Int} {μ : Mu} (hd : 16 ≤ d) (ho : isH o) (h5 : μ o 5 = (O : Int)) (hO : O < 4096) (hv : ∀ w, w < 12 → O.testBit w = true → (μ (o + 1) w = val w ∧ 0 ≤ val w ∧ val w ≤ 9999) ∧ (μ (o + 2) w = (cl w : Int) ∧ cl w < 4096) ∧ μ (o + 3) w = pkr (nd w) 0 6 ∧ μ (o + 4) w = pkr (nd w) 6 6) (hnd : ∀ w x, 0 ≤ nd w x ∧ nd w x ≤ 8) (hst : ∀ x, x < 12 → 0 ≤ st x ∧ st x ≤ 100) (hr : room ≤ 12) : ∃ M, mC z d 111 [(2, (o : Int)), (1, stk st 0), (1, stk st 6), (0, (room : Int)), (0, fl)] μ = some ((scn (gT val (fun w => O.testBit w) cl nd room st 0 0 12) 4096 (fl, 0)).1, M) ∧ M o 7 = (scn (gT val (fun w => O.testBit w) cl nd room st 0 0 12) 4096 (fl, 0)).1 ∧ M o 8 = (((scn (gT val (fun w => O.testBit w) cl nd room st 0 0 12) 4096 (fl, 0)).2 : Nat) : Int) ∧ (∀ a, a ≠ o → a ≠ o + 5 → M a = μ a) ∧ ∀ k, k ≠ 6 → k ≠ 7 → k ≠ 8 → M o k = μ o k := by
  obtain ⟨e, rfl, he⟩ := pred_of (k := 15) hd
  have hU0 : ∀ n, bset (fun w => O.testBit w && allb (fun x => decide (0 ≤ st x - nd w x)) 12) n < 2 ^ n := fun n => bset_lt _ n
  have hp12 : ∀ n, n ≤ 12 → 2 ^ n ≤ 4096 := fun n hn => by have := Nat.pow_le_pow_right (show 0 < 2 by decide) hn; exact this
  have hb := fun w => bset_bit (fun w => O.testBit w && allb (fun x => decide (0 ≤ st x - nd w x)) 12) 12 w
  have hUlt := hU0 12
  -- the end: bounds, then the search
  have hend : f_Cho_search_8 z e o (stk st 0) (stk st 6) (room : Int) fl ((12 : Nat) : Int) (zup μ o 6 ((bset (fun w => O.testBit w && allb (fun x => decide (0 ≤ st x - nd w x)) 12) 12 : Nat) : Int)) = f_Cho_search_8 z e o (stk st 0) (stk st 6) (room : Int) fl ((12 : Nat) : Int) (zup μ o 6 ((bset (fun w => O.testBit w && allb (fun x => decide (0 ≤ st x - nd w x)) 12) 12 : Nat) : Int)) := rfl
  have H := down (n := 12) (P := fun k => f_Cho_search_8 z e o (stk st 0) (stk st 6) (room : Int) fl (k : Int) (zup μ o 6 ((bset (fun w => O.testBit w && allb (fun x => decide (0 ≤ st x - nd w x)) 12) k : Nat) : Int)) = f_Cho_search_8 z e o (stk st 0) (stk st 6) (room : Int) fl ((12 : Nat) : Int) (zup μ o 6 ((bset (fun w => O.testBit w && allb (fun x => decide (0 ≤ st x - nd w x)) 12) 12 : Nat) : Int))) rfl
    (by
      intro k hk ih
      have hlt := hU0 k
      have h12 := hp12 k (by omega)
      have hs2 : ∀ f, f = 0 ∨ f = 6 → zwl (stk st f - pkr (nd k) f 6) = stk (fun x => st x - nd k x) f := by
        intro f hf
        have r := stk_rg (st := fun x => st x - nd k x) (f := f) (fun i hi => by have h1 := hst (f + i) (by omega); have h2 := hnd k (f + i); omega)
        have e1 : stk st f - pkr (nd k) f 6 = stk (fun x => st x - nd k x) f := by
          unfold stk
          rw [pkr_sub]
          exact pkr_congr 6 f (fun i hi => by dsimp only; omega)
        rw [e1, zwl_id (by omega) (by omega)]
      have hbs : bset (fun w => O.testBit w && allb (fun x => decide (0 ≤ st x - nd w x)) 12) (k + 1) = bset (fun w => O.testBit w && allb (fun x => decide (0 ≤ st x - nd w x)) 12) k ||| (if (O.testBit k && allb (fun x => decide (0 ≤ st x - nd k x)) 12) = true then 2 ^ k else 0) := rfl
      rw [e_Cho_search_8 _ _ _ _ _ _ _ _ _ ho, cF (by omega), zup_nk (by omega), h5, s_has (by omega) (by omega) (by omega)]
      simp -implicitDefEqProofs only [ob]
      rw [cB, e_Cho_search_64 _ _ _ _ _ _ _ _ _ ho, zwc (by omega)]
      by_cases hu : O.testBit k = true
      · obtain ⟨_, _, n1, n2⟩ := hv k (by omega) hu
        rw [hu, cond_true, gI_ok (by omega) (by omega), gI_ok (by omega) (by omega), Int.toNat_natCast, zup_ro (by omega), zup_ro (by omega), n1, n2, hs2 0 (Or.inl rfl), hs2 6 (Or.inr rfl), s_fits (by omega) (fun x hx => by have h1 := hst x hx; have h2 := hnd k x; omega)]
        simp -implicitDefEqProofs only [ob]
        rw [e_Cho_search_48 _ _ _ _ _ _ _ _ _ _ ho, e_Cho_search_64 _ _ _ _ _ _ _ _ _ ho, e_Cho_search_64 _ _ _ _ _ _ _ _ _ ho, zwc (by omega), cB, zup_hit, s_or1 (by omega) (by omega), zup_zup]
        rw [hu, Bool.true_and] at hbs
        cases hf : allb (fun x => decide (0 ≤ st x - nd k x)) 12
        · rw [hf, if_neg (by decide), Nat.or_zero] at hbs
          rw [cond_false, ← hbs]
          exact ih
        · rw [hf, if_pos rfl] at hbs
          rw [cond_true, ← hbs]
          exact ih
      · have hu' : O.testBit k = false := by simpa using hu
        rw [hu', Bool.false_and, if_neg (by decide), Nat.or_zero] at hbs
        rw [hu', cond_false, ← hbs]
        exact ih) 0 (by omega)
  have h00 : zup μ o 6 ((bset (fun w => O.testBit w && allb (fun x => decide (0 ≤ st x - nd w x)) 12) 0 : Nat) : Int) = zup μ o 6 0 := rfl
  rw [h00] at H
  simp -implicitDefEqProofs only [Int.natCast_zero] at H
  rw [c_Cho_search _ _ _ _ _ _ _ _ ho, H]
  clear H hend h00
  generalize hUd : bset (fun w => O.testBit w && allb (fun x => decide (0 ≤ st x - nd w x)) 12) 12 = U at hUlt hb ⊢
  clear hUd hU0 hp12
  have hU4 : U < 4096 := hUlt
  have hbU : ∀ w, w < 12 → U.testBit w = (O.testBit w && allb (fun x => decide (0 ≤ st x - nd w x)) 12) := fun w hw => by rw [hb w, decide_eq_true hw, Bool.true_and]
  have hUO : ∀ w, w < 12 → U.testBit w = true → O.testBit w = true := fun w hw h => by
    rw [hbU w hw, Bool.and_eq_true] at h
    exact h.1
  have hUhi : ∀ w, U.testBit w = true → w < 12 := fun w h => bit_lt hUlt h
  have hvr : ∀ w, 0 ≤ ivU U val w ∧ ivU U val w ≤ 9999 := fun w => by
    unfold ivU
    by_cases h : U.testBit w = true
    · rw [if_pos h]
      have h12 := hUhi w h
      exact (hv w h12 (hUO w h12 h)).1.2
    · rw [if_neg h]; omega
  have hpl : (if (0 : Int) < if 12 < (room : Int) then 12 else (room : Int) then if 12 < (room : Int) then 12 else (room : Int) else 0) = (room : Int) := by
    rw [if_neg (show ¬ (12 : Int) < (room : Int) by omega)]
    split <;> omega
  obtain ⟨h, q1, q2⟩ := s_fillBounds (z := z) (d := e) (o := o) (U := U) (places := room) (val := val) (μ := zup μ o 6 (U : Int)) (by omega) ho zup_hit hU4 (fun w hw hu => by rw [zup_ro (by omega)]; exact (hv w hw (hUO w hw hu)).1.1) hvr hr
  rw [e_Cho_search_8 _ _ _ _ _ _ _ _ _ ho, cT (by omega), hpl, q1]
  simp -implicitDefEqProofs only [ob]
  generalize hX : zup (zup (zrow (zup μ o 6 (U : Int)) (o + 5) h) o 7 fl) o 8 0 = X
  have xr : ∀ a, a ≠ o → a ≠ o + 5 → X a = μ a := fun a g1 g2 => by subst hX; rw [zup_ro g1, zup_ro g1, zrow_ne g2, zup_ro g1]
  have x5 : X (o + 5) = h := by subst hX; rw [zup_ro (by omega), zup_ro (by omega), zrow_same]
  have x6 : X o 6 = (U : Int) := by subst hX; rw [zup_nk (by omega), zup_nk (by omega), zrow_ne (by omega)]; exact zup_hit
  have x7 : X o 7 = fl := by subst hX; rw [zup_nk (by omega)]; exact zup_hit
  have x8 : X o 8 = ((0 : Nat) : Int) := by subst hX; exact zup_hit
  have xk : ∀ k, k ≠ 6 → k ≠ 7 → k ≠ 8 → X o k = μ o k := fun k g1 g2 g3 => by subst hX; rw [zup_nk g3, zup_nk g2, zrow_ne (by omega), zup_nk g1]
  clear hX
  have hI : CHI X o U val cl nd room (ivU U val) := by
    refine ⟨x6, hU4, fun w hw hu => ?_, fun w hw hu => ?_, fun w hw hu => ?_, hnd, fun k r hk hr => by rw [x5]; exact q2 k r hk hr⟩
    · rw [xr (o + 1) (by omega) (by omega)]; exact (hv w hw (hUO w hw hu)).1
    · rw [xr (o + 2) (by omega) (by omega)]; exact (hv w hw (hUO w hw hu)).2.1
    · rw [xr (o + 3) (by omega) (by omega), xr (o + 4) (by omega) (by omega)]; exact (hv w hw (hUO w hw hu)).2.2
  obtain ⟨M, r1, f1, m7, m8⟩ := s_choose (z := z) (o := o) (U := U) (places := room) (val := val) (iv := ivU U val) (cl := cl) (nd := nd) ho hvr hr 12 e room st 0 0 0 fl X (Nat.le_refl _) (by omega) (Nat.le_refl _) hI hst (by omega) (by omega) (by omega) x7 x8
  have e11 : ((12 : Nat) : Int) - 1 = 11 := rfl
  rw [e11] at r1
  simp -implicitDefEqProofs only [Int.natCast_zero] at r1
  have hch : CHs val (fun w => U.testBit w) cl nd (bn (ivU U val)) 12 room st 0 0 (fl, 0) = scn (gT val (fun w => O.testBit w) cl nd room st 0 0 12) 4096 (fl, 0) := by
    have h1 := CH_scan (val := val) (iv := ivU U val) (us := fun w => U.testBit w) (cl := cl) (nd := nd) (fun w hu => by unfold ivU; exact if_pos hu) (fun w x => (hnd w x).1) 12 room st 0 0 (fl, 0) (fun x hx => (hst x hx).1)
    rw [h1]
    show scn _ 4096 (fl, 0) = _
    refine scn_congr _ (fun T hT => ?_)
    have hiff := okT_us (us := fun w => O.testBit w) (us' := fun w => U.testBit w) (cl := cl) (nd := nd) (room := room) (st := st) (ch := 0) (T := T) (k := 12) (fun w x => (hnd w x).1) (fun w hw => hbU w hw)
    by_cases hok : okT (fun w => O.testBit w) cl nd room st 0 T 12
    · rw [gT_y hok, gT_y (hiff.mpr hok)]
    · rw [gT_n hok, gT_n (fun h => hok (hiff.mp h))]
  rw [hch] at m7 m8
  rw [r1]
  simp -implicitDefEqProofs only [ob]
  rw [m7]
  exact ⟨M, rfl, m7, m8, fun a g1 g2 => by rw [f1.1 a g1]; exact xr a g1 g2, fun k g1 g2 g3 => by rw [f1.2 k g2 g3]; exact xk k g1 g2 g3⟩
