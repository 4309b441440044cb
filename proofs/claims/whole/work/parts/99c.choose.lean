/-! the class's chooser -/
def isH (o : Nat) : Prop := o = 23 ∨ o = 29
/-- what a chooser knows while it searches -/
def CHI (μ : Mu) (o U : Nat) (val : Nat → Int) (cl : Nat → Nat) (nd : Nat → Nat → Int) (places : Nat) (iv : Nat → Int) : Prop := μ o 6 = (U : Int) ∧ U < 4096 ∧ (∀ w, w < 12 → U.testBit w = true → μ (o + 1) w = val w ∧ 0 ≤ val w ∧ val w ≤ 9999) ∧ (∀ w, w < 12 → U.testBit w = true → μ (o + 2) w = (cl w : Int) ∧ cl w < 4096) ∧ (∀ w, w < 12 → U.testBit w = true → μ (o + 3) w = pkr (nd w) 0 6 ∧ μ (o + 4) w = pkr (nd w) 6 6) ∧ (∀ w x, 0 ≤ nd w x ∧ nd w x ≤ 8) ∧ ∀ k r, k < 12 → r ≤ places → μ (o + 5) (13 * k + r) = bn iv (k + 1) r
theorem bn_rg {iv : Nat → Int} (h : ∀ w, 0 ≤ iv w ∧ iv w ≤ 9999) : ∀ k r, 0 ≤ bn iv k r ∧ bn iv k r ≤ 9999 * k := by
  intro k
  induction k with
  | zero => intro r; exact ⟨Int.le_refl 0, Int.le_refl 0⟩
  | succ k ih =>
    intro r
    cases r with
    | zero => rw [bn_0]; omega
    | succ r =>
      have h1 := ih (r + 1)
      have h2 := ih r
      have h3 := h k
      show 0 ≤ (if bn iv k (r + 1) < iv k + bn iv k r then iv k + bn iv k r else bn iv k (r + 1)) ∧ (if bn iv k (r + 1) < iv k + bn iv k r then iv k + bn iv k r else bn iv k (r + 1)) ≤ 9999 * ((k + 1 : Nat) : Int)
      split <;> omega
def cfr (o : Nat) (μ M : Mu) : Prop := (∀ a, a ≠ o → M a = μ a) ∧ ∀ k, k ≠ 7 → k ≠ 8 → M o k = μ o k
theorem cfr_trans {o : Nat} {A B C : Mu} (h1 : cfr o A B) (h2 : cfr o B C) : cfr o A C := ⟨fun a h => by rw [h2.1 a h, h1.1 a h], fun k p q => by rw [h2.2 k p q, h1.2 k p q]⟩
theorem CHI_cfr {μ M : Mu} {o U : Nat} {val : Nat → Int} {cl : Nat → Nat} {nd : Nat → Nat → Int} {places : Nat} {iv : Nat → Int} (h : CHI μ o U val cl nd places iv) (hf : cfr o μ M) : CHI M o U val cl nd places iv := by
  unfold CHI at h ⊢
  rw [hf.2 6 (by omega) (by omega), hf.1 (o + 1) (by omega), hf.1 (o + 2) (by omega), hf.1 (o + 3) (by omega), hf.1 (o + 4) (by omega), hf.1 (o + 5) (by omega)]
  exact h
theorem zi13 {k r : Nat} (hk : k < 100) (hr : r < 100) : zw (zw ((k : Int) * 13) + (r : Int)) = ((13 * k + r : Nat) : Int) := by
  rw [zw_id (x := (k : Int) * 13) (by omega) (by omega), zw_id (by omega) (by omega)]
  omega
theorem s_choose {z : zZ} {o U places : Nat} {val iv : Nat → Int} {cl : Nat → Nat} {nd : Nat → Nat → Int} (ho : isH o) (hiv : ∀ w, 0 ≤ iv w ∧ iv w ≤ 9999) (hp12 : places ≤ 12) : ∀ (k d room : Nat) (st : Nat → Int) (sum : Int) (ch m : Nat) (mo : Int) (μ : Mu), k ≤ 12 → k + 2 ≤ d → room ≤ places → CHI μ o U val cl nd places iv → (∀ x, x < 12 → 0 ≤ st x ∧ st x ≤ 100) → 0 ≤ sum → sum ≤ 9999 * (12 - (k : Int)) → ch < 4096 → μ o 7 = mo → μ o 8 = (m : Int) → ∃ M, mC z d 114 [(2, (o : Int)), (0, (k : Int) - 1), (0, (room : Int)), (1, stk st 0), (1, stk st 6), (0, sum), (0, (ch : Int))] μ = some (0, M) ∧ cfr o μ M ∧ M o 7 = (CHs val (fun w => U.testBit w) cl nd (bn iv) k room st sum ch (mo, m)).1 ∧ M o 8 = (((CHs val (fun w => U.testBit w) cl nd (bn iv) k room st sum ch (mo, m)).2 : Nat) : Int) := by
  intro k
  induction k with
  | zero =>
    intro d room st sum ch m mo μ hk hd hr hI hst hs0 hs1 hch h7 h8
    obtain ⟨e, rfl, he⟩ := pred_of hd
    have hend : ∀ M : Mu, f_Cho_choose_21 z e o (((0 : Nat) : Int) - 1) (room : Int) (stk st 0) (stk st 6) sum (ch : Int) M = some (0, M) := fun M => by
      rw [e_Cho_choose_21 _ _ _ _ _ _ _ _ _ _ ho, cT (by omega), e_Cho_choose_51]
    rw [c_Cho_choose _ _ _ _ _ _ _ _ _ _ ho, hend, hend]
    have hC : CHs val (fun w => U.testBit w) cl nd (bn iv) 0 room st sum ch (mo, m) = if mo < sum then (sum, ch) else (mo, m) := rfl
    rw [hC]
    by_cases h : mo < sum
    · rw [cF (by rw [h7]; omega), if_pos h]
      exact ⟨_, rfl, ⟨fun a q => by rw [zup_ro q, zup_ro q], fun j q1 q2 => by rw [zup_nk q2, zup_nk q1]⟩, by rw [zup_nk (by omega)]; exact zup_hit, zup_hit⟩
    · rw [cT (by rw [h7]; omega), if_neg h]
      exact ⟨μ, rfl, ⟨fun _ _ => rfl, fun _ _ _ => rfl⟩, h7, h8⟩
  | succ k ih =>
    intro d room st sum ch m mo μ hk hd hr hI hst hs0 hs1 hch h7 h8
    obtain ⟨e, rfl, he⟩ := pred_of (k := k + 2) hd
    -- the node itself
    have hnode : ∃ (M0 : Mu) (mo0 : Int) (m0 : Nat), mC z (e + 1) 114 [(2, (o : Int)), (0, ((k + 1 : Nat) : Int) - 1), (0, (room : Int)), (1, stk st 0), (1, stk st 6), (0, sum), (0, (ch : Int))] μ = f_Cho_choose_21 z e o (((k + 1 : Nat) : Int) - 1) (room : Int) (stk st 0) (stk st 6) sum (ch : Int) M0 ∧ cfr o μ M0 ∧ M0 o 7 = mo0 ∧ M0 o 8 = (m0 : Int) ∧ stp2 (mo, m) (some (sum, ch)) = (mo0, m0) := by
      rw [c_Cho_choose _ _ _ _ _ _ _ _ _ _ ho]
      by_cases h : mo < sum
      · rw [cF (by rw [h7]; omega)]
        exact ⟨_, sum, ch, rfl, ⟨fun a q => by rw [zup_ro q, zup_ro q], fun j q1 q2 => by rw [zup_nk q2, zup_nk q1]⟩, by rw [zup_nk (by omega)]; exact zup_hit, zup_hit, if_pos h⟩
      · rw [cT (by rw [h7]; omega)]
        exact ⟨μ, mo, m, rfl, ⟨fun _ _ => rfl, fun _ _ _ => rfl⟩, h7, h8, if_neg h⟩
    obtain ⟨M0, mo0, m0, hn1, hf0, h07, h08, hp0⟩ := hnode
    have hI0 := CHI_cfr hI hf0
    rw [hn1]
    have hC : CHs val (fun w => U.testBit w) cl nd (bn iv) (k + 1) room st sum ch (mo, m) = if room < 1 ∨ sum + bn iv (k + 1) room ≤ mo0 then (mo0, m0) else if U.testBit k = true ∧ cl k &&& ch = 0 ∧ allb (fun x => decide (0 ≤ st x - nd k x)) 12 = true then CHs val (fun w => U.testBit w) cl nd (bn iv) k (room - 1) (fun x => st x - nd k x) (sum + val k) (ch ||| 2 ^ k) (CHs val (fun w => U.testBit w) cl nd (bn iv) k room st sum ch (mo0, m0)) else CHs val (fun w => U.testBit w) cl nd (bn iv) k room st sum ch (mo0, m0) := by
      show (if room < 1 ∨ sum + bn iv (k + 1) room ≤ (stp2 (mo, m) (some (sum, ch))).1 then stp2 (mo, m) (some (sum, ch)) else if U.testBit k = true ∧ cl k &&& ch = 0 ∧ allb (fun x => decide (0 ≤ st x - nd k x)) 12 = true then CHs val (fun w => U.testBit w) cl nd (bn iv) k (room - 1) (fun x => st x - nd k x) (sum + val k) (ch ||| 2 ^ k) (CHs val (fun w => U.testBit w) cl nd (bn iv) k room st sum ch (stp2 (mo, m) (some (sum, ch)))) else CHs val (fun w => U.testBit w) cl nd (bn iv) k room st sum ch (stp2 (mo, m) (some (sum, ch)))) = _
      rw [hp0]
    rw [hC]
    have ek : ((k + 1 : Nat) : Int) - 1 = (k : Int) := by omega
    rw [ek, e_Cho_choose_21 _ _ _ _ _ _ _ _ _ _ ho, cF (by omega)]
    by_cases hr1 : room < 1
    · rw [cT (by omega), e_Cho_choose_51, if_pos (Or.inl hr1)]
      exact ⟨M0, rfl, hf0, h07, h08⟩
    · have hb := bn_rg hiv (k + 1) room
      rw [cF (by omega), zi13 (by omega) (by omega), gI_ok (by omega) (by omega), Int.toNat_natCast, hI0.2.2.2.2.2.2 k room (by omega) hr, h07, zw_id (x := sum + bn iv (k + 1) room) (by omega) (by omega), e_Cho_choose_51]
      by_cases hpr : sum + bn iv (k + 1) room ≤ mo0
      · rw [cF (by omega), if_pos (Or.inr hpr)]
        exact ⟨M0, rfl, hf0, h07, h08⟩
      · rw [cT (by omega), if_neg (by omega)]
        -- without the word
        obtain ⟨M1, r1, f1, q1, q2⟩ := ih e room st sum ch m0 mo0 M0 (by omega) (by omega) hr hI0 hst hs0 (by omega) hch h07 h08
        have hI1 := CHI_cfr hI0 f1
        have hf01 := cfr_trans hf0 f1
        obtain ⟨g1, g2, g3, g4, g5, g6, g7⟩ := hI1
        rw [e_Cho_choose_52 _ _ _ _ _ _ _ _ _ _ ho, show zw ((k : Int) - 1) = (k : Int) - 1 by rw [zw_id (by omega) (by omega)], r1]
        simp -implicitDefEqProofs only [ob]
        rw [g1, s_has (by omega) (by omega) (by omega)]
        simp -implicitDefEqProofs only [ob]
        rw [cB, e_Cho_choose_150]
        generalize hP1 : CHs val (fun w => U.testBit w) cl nd (bn iv) k room st sum ch (mo0, m0) = p1 at q1 q2 ⊢
        by_cases hu : U.testBit k = true
        · obtain ⟨v1, v2, v3⟩ := g3 k (by omega) hu
          obtain ⟨c1, c2⟩ := g4 k (by omega) hu
          obtain ⟨n1, n2⟩ := g5 k (by omega) hu
          rw [hu, cond_true, gI_ok (by omega) (by omega), Int.toNat_natCast]
          by_cases hcl : cl k &&& ch = 0
          · rw [nT (by rw [c1, z_and_nat (by omega) (by omega), hcl]; rfl), gI_ok (by omega) (by omega), gI_ok (by omega) (by omega), n1, n2]
            have hs2 : ∀ f, f = 0 ∨ f = 6 → zwl (stk st f - pkr (nd k) f 6) = stk (fun x => st x - nd k x) f := by
              intro f hf
              have r := stk_rg (st := fun x => st x - nd k x) (f := f) (fun i hi => by have h1 := hst (f + i) (by omega); have h2 := g6 k (f + i); omega)
              have e1 : stk st f - pkr (nd k) f 6 = stk (fun x => st x - nd k x) f := by
                unfold stk
                rw [pkr_sub]
                exact pkr_congr 6 f (fun i hi => by dsimp only; omega)
              rw [e1, zwl_id (by omega) (by omega)]
            rw [hs2 0 (Or.inl rfl), hs2 6 (Or.inr rfl), s_fits (by omega) (fun x hx => by have h1 := hst x hx; have h2 := g6 k x; omega)]
            simp -implicitDefEqProofs only [ob]
            rw [cB, e_Cho_choose_150]
            by_cases hfit : allb (fun x => decide (0 ≤ st x - nd k x)) 12 = true
            · rw [hfit, cond_true, gI_ok (by omega) (by omega), v1, if_pos ⟨trivial, hcl, rfl⟩]
              have hor : z_or (ch : Int) (z_shl 1 (k : Int)) = ((ch ||| 2 ^ k : Nat) : Int) := s_or1 (by omega) (by omega)
              have hlt := or_lt (f := ch) (w := k) hch (by omega)
              obtain ⟨M2, r2, f2, q3, q4⟩ := ih e (room - 1) (fun x => st x - nd k x) (sum + val k) (ch ||| 2 ^ k) p1.2 p1.1 M1 (by omega) (by omega) (by omega) ⟨g1, g2, g3, g4, g5, g6, g7⟩ (fun x hx => by
                have h1 := of_decide_eq_true ((allb_iff _ _).mp hfit x hx)
                have h2 := g6 k x
                have h3 := hst x hx
                omega) (by omega) (by omega) hlt q1 q2
              rw [hor, show zw ((room : Int) - 1) = ((room - 1 : Nat) : Int) by rw [zw_id (by omega) (by omega)]; omega, zw_id (x := sum + val k) (by omega) (by omega), r2]
              simp -implicitDefEqProofs only [ob]
              rw [e_Cho_choose_150]
              exact ⟨M2, rfl, cfr_trans hf01 f2, q3, q4⟩
            · have hfit' : allb (fun x => decide (0 ≤ st x - nd k x)) 12 = false := by simpa using hfit
              rw [hfit', cond_false, if_neg (fun h => absurd h.2.2 (by decide))]
              exact ⟨M1, rfl, hf01, q1, q2⟩
          · rw [nF (by rw [c1, z_and_nat (by omega) (by omega)]; intro h; exact hcl (Int.ofNat_inj.mp h)), if_neg (fun h => hcl h.2.1)]
            exact ⟨M1, rfl, hf01, q1, q2⟩
        · have hu' : U.testBit k = false := by simpa using hu
          rw [hu', cond_false, if_neg (fun h => absurd h.1 (by decide))]
          exact ⟨M1, rfl, hf01, q1, q2⟩
