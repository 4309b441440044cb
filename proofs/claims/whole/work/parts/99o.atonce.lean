/-! words at once: the class -/
def gnS (c0 c1 : Nat → Int) (r0 r1 : Row) (v0 v1 : Nat → Int) (w v : Nat) : Int := if foc (c0 w) (c1 v) r0 r1 = 0 then 0 else if foc (c0 w) (c1 v) r0 r1 = 1 then v1 v else -(v0 w)
theorem foc_3 (c e : Int) (r0 r1 : Row) : foc c e r0 r1 = 0 ∨ foc c e r0 r1 = 1 ∨ foc c e r0 r1 = -1 := by
  unfold foc
  split
  · exact Or.inl rfl
  · split
    · exact Or.inr (Or.inl rfl)
    · exact Or.inr (Or.inr rfl)
theorem zw12 {w v : Nat} (hw : w < 100) (hv : v < 100) : zw (zw ((w : Int) * 12) + (v : Int)) = ((12 * w + v : Nat) : Int) := by
  rw [zw_id (x := (w : Int) * 12) (by omega) (by omega), zw_id (by omega) (by omega)]
  omega
theorem s_gainOf {z : zZ} {d w v : Nat} {c0 c1 v0 v1 : Nat → Int} {r0 r1 : Row} {X : Mu} (hd : 5 ≤ d) (hw : w < 12) (hv : v < 12) (x8 : X 8 w = c0 w) (x17 : X 17 v = c1 v) (x6 : X 6 = r0) (x15 : X 15 = r1) (h0 : rkr r0) (h1 : rkr r1) (x24 : X 24 w = v0 w) (x30 : X 30 v = v1 v) (hr0 : 0 ≤ v0 w ∧ v0 w ≤ 9999) : mC z d 120 [(2, 0), (0, (w : Int)), (0, (v : Int))] X = some (gnS c0 c1 r0 r1 v0 v1 w v, X) := by
  obtain ⟨e, rfl, he⟩ := pred_of (k := 4) hd
  rw [c_W_gainOf, gI_ok (by omega) (by omega), gI_ok (by omega) (by omega), Int.toNat_natCast, Int.toNat_natCast, x8, x17, s_outcome he (by rw [x6]; exact h0) (by rw [x15]; exact h1), x6, x15]
  simp -implicitDefEqProofs only [ob]
  unfold gnS
  rcases foc_3 (c0 w) (c1 v) r0 r1 with h | h | h
  · rw [h, nT rfl, if_pos rfl]
  · rw [h, nF (by decide), if_neg (by decide), if_pos rfl, e_W_gainOf_33, cF (by decide), gI_ok (by omega) (by omega), Int.toNat_natCast, x30, e_W_gainOf_63]
  · rw [h, nF (by decide), if_neg (by decide), if_neg (by decide), e_W_gainOf_33, cT (by decide), gI_ok (by omega) (by omega), Int.toNat_natCast, x24, e_W_gainOf_63, zw_id (by omega) (by omega)]
/-- gains that are laid so far -/
def GN (A B : Nat) (gn : Nat → Nat → Int) (h : Row) (k : Nat) : Prop := ∀ a b, a < 12 → b < 12 → 13 * a + b < k → A.testBit a = true → B.testBit b = true → h (12 * a + b) = gn a b
theorem s_fillG {z : zZ} {e A B : Nat} {gn : Nat → Nat → Int} {M : Mu} (he : 1 ≤ e) (hA : A < 4096) (hB : B < 4096) (hg : ∀ w v h, w < 12 → v < 12 → A.testBit w = true → B.testBit v = true → mC z e 120 [(2, 0), (0, (w : Int)), (0, (v : Int))] (zrow M 54 h) = some (gn w v, zrow M 54 h)) : ∀ (m w v : Nat) (h : Row), m + (13 * w + v) = 156 → w < 12 → v ≤ 12 → GN A B gn h (13 * w + v) → ∃ h', f_W_fillGains_11 z e (A : Int) (B : Int) (w : Int) (v : Int) (zrow M 54 h) = some (0, zrow M 54 h') ∧ GN A B gn h' 156 := by
  intro m
  induction m with
  | zero => intro w v h hm hw hv; omega
  | succ m ih =>
    intro w v h hm hw hv hG
    by_cases h12 : v = 12
    · subst h12
      rw [e_W_fillGains_11, cT (by omega), zwc (by omega), e_W_fillGains_2]
      by_cases hl : w = 11
      · subst hl
        rw [cT (by omega)]
        exact ⟨h, rfl, fun a b ha hb hk => hG a b ha hb (by omega)⟩
      · rw [cF (by omega)]
        have := ih (w + 1) 0 h (by omega) (by omega) (by omega) (fun a b ha hb hk => hG a b ha hb (by omega))
        exact this
    · have hskip : (A.testBit w = true → B.testBit v = true → False) → f_W_fillGains_11 z e (A : Int) (B : Int) (w : Int) (v : Int) (zrow M 54 h) = f_W_fillGains_11 z e (A : Int) (B : Int) (w : Int) ((v + 1 : Nat) : Int) (zrow M 54 h) := fun hn => by
        rw [e_W_fillGains_11, cF (by omega), s_has he (by omega) (by omega)]
        simp -implicitDefEqProofs only [ob]
        rw [cB]
        by_cases ha : A.testBit w = true
        · have hb' : B.testBit v = false := by
            cases hb : B.testBit v
            · rfl
            · exact absurd (hn ha hb) (fun h => h)
          rw [ha, cond_true, s_has he (by omega) (by omega)]
          simp -implicitDefEqProofs only [ob]
          rw [hb', bi_f, cT rfl, e_W_fillGains_54, zwc (by omega)]
        · have ha' : A.testBit w = false := by simpa using ha
          rw [ha', cond_false, e_W_fillGains_54, zwc (by omega)]
      by_cases hab : A.testBit w = true ∧ B.testBit v = true
      · obtain ⟨ha, hb⟩ := hab
        rw [e_W_fillGains_11, cF (by omega), s_has he (by omega) (by omega)]
        simp -implicitDefEqProofs only [ob]
        rw [ha, bi_t, cF (by decide), s_has he (by omega) (by omega)]
        simp -implicitDefEqProofs only [ob]
        rw [hb, bi_t, cF (by decide), hg w v h hw (by omega) ha hb]
        simp -implicitDefEqProofs only [ob]
        rw [zw12 (by omega) (by omega), gI_ok (by omega) (by omega), Int.toNat_natCast, zupr, zrow_same, zrow_zrow, e_W_fillGains_54, zwc (by omega)]
        refine ih w (v + 1) _ (by omega) hw (by omega) (fun a b ha2 hb2 hk q1 q2 => ?_)
        by_cases e2 : 12 * a + b = 12 * w + v
        · have e3 : a = w := by omega
          have e4 : b = v := by omega
          subst e3
          subst e4
          rw [rup_same]
        · rw [rup_ne e2]
          exact hG a b ha2 hb2 (by omega) q1 q2
      · rw [hskip (fun q1 q2 => hab ⟨q1, q2⟩)]
        refine ih w (v + 1) h (by omega) hw (by omega) (fun a b ha2 hb2 hk q1 q2 => ?_)
        refine hG a b ha2 hb2 ?_ q1 q2
        by_cases e1 : 13 * a + b = 13 * w + v
        · have e3 : a = w := by omega
          have e4 : b = v := by omega
          subst e3
          subst e4
          exact absurd ⟨q1, q2⟩ hab
        · omega
/-- a two in which both stay -/
def styB (A B : Nat) (gn : Nat → Nat → Int) (w v k : Nat) : Bool := allb (fun i => (!A.testBit i || decide (gn i v ≤ gn w v)) && (!B.testBit i || decide (gn w v ≤ gn w i))) k
theorem allb_s (p : Nat → Bool) (k : Nat) : allb p (k + 1) = (allb p k && p k) := by
  have h1 := allb_iff p (k + 1)
  have h2 := allb_iff p k
  by_cases h : allb p k = true
  · rw [h, Bool.true_and]
    by_cases hp : p k = true
    · rw [hp, h1]
      intro i hi
      by_cases e : i = k
      · subst e; exact hp
      · exact h2.mp h i (by omega)
    · have hp' : p k = false := by simpa using hp
      rw [hp']
      cases hq : allb p (k + 1)
      · rfl
      · exact absurd (h1.mp hq k (by omega)) hp
  · have h' : allb p k = false := by simpa using h
    rw [h', Bool.false_and]
    cases hq : allb p (k + 1)
    · rfl
    · exact absurd (h2.mpr (fun i hi => h1.mp hq i (by omega))) h
theorem allb_up {p : Nat → Bool} {k n : Nat} (hk : k ≤ n) (h : allb p k = false) : allb p n = false := by
  cases hq : allb p n
  · rfl
  · have := (allb_iff p k).mpr (fun i hi => (allb_iff p n).mp hq i (by omega))
    rw [h] at this
    exact absurd this (by decide)
theorem s_bothStay {z : zZ} {d A B w v : Nat} {gn : Nat → Nat → Int} {X : Mu} (hd : 2 ≤ d) (hA : A < 4096) (hB : B < 4096) (hw : w < 12) (hv : v < 12) (ha : A.testBit w = true) (hb : B.testBit v = true) (hG : GN A B gn (X 54) 156) : mC z d 121 [(2, 0), (0, (w : Int)), (0, (v : Int)), (0, (A : Int)), (0, (B : Int))] X = some (bi (styB A B gn w v 12), X) := by
  obtain ⟨e, rfl, he⟩ := pred_of hd
  have hg0 : X 54 (12 * w + v) = gn w v := hG w v hw hv (by omega) ha hb
  have hfin : ∀ k, k ≤ 12 → styB A B gn w v k = false → some (0, X) = some (bi (styB A B gn w v 12), X) := fun k hk h => by
    have : styB A B gn w v 12 = false := allb_up hk h
    rw [this]
    rfl
  have H := down (n := 12) (P := fun k => styB A B gn w v k = true → f_W_bothStay_16 z e (w : Int) (v : Int) (A : Int) (B : Int) (gn w v) (k : Int) X = some (bi (styB A B gn w v 12), X))
    (by
      intro h
      rw [e_W_bothStay_16, cT (by omega), h]
      rfl)
    (by
      intro k hk ih hst
      have hs : styB A B gn w v (k + 1) = (styB A B gn w v k && ((!A.testBit k || decide (gn k v ≤ gn w v)) && (!B.testBit k || decide (gn w v ≤ gn w k)))) := allb_s _ k
      rw [hst, Bool.true_and] at hs
      have h51 : (!A.testBit k || decide (gn k v ≤ gn w v)) = true → f_W_bothStay_51 z e (w : Int) (v : Int) (A : Int) (B : Int) (gn w v) (k : Int) X = some (bi (styB A B gn w v 12), X) := fun h1 => by
        rw [h1, Bool.true_and] at hs
        rw [e_W_bothStay_51, s_has he (by omega) (by omega)]
        simp -implicitDefEqProofs only [ob]
        rw [cB]
        by_cases hbk : B.testBit k = true
        · rw [hbk, cond_true, zw12 (by omega) (by omega), gI_ok (by omega) (by omega), Int.toNat_natCast]
          have hx := hG w k hw hk (by omega) ha hbk
          rw [hbk] at hs
          by_cases hc : gn w v ≤ gn w k
          · rw [cT (by rw [hx]; exact hc), e_W_bothStay_80, zwc (by omega)]
            exact ih (by rw [hs, decide_eq_true hc]; rfl)
          · rw [cF (by rw [hx]; exact hc)]
            exact hfin (k + 1) (by omega) (by rw [hs, decide_eq_false hc]; rfl)
        · have hbk' : B.testBit k = false := by simpa using hbk
          rw [hbk', cond_false, e_W_bothStay_80, zwc (by omega)]
          exact ih (by rw [hs, hbk']; rfl)
      rw [e_W_bothStay_16, cF (by omega), s_has he (by omega) (by omega)]
      simp -implicitDefEqProofs only [ob]
      rw [cB]
      by_cases hak : A.testBit k = true
      · rw [hak, cond_true, zw12 (by omega) (by omega), gI_ok (by omega) (by omega), Int.toNat_natCast]
        have hx := hG k v hk hv (by omega) hak hb
        by_cases hc : gn k v ≤ gn w v
        · rw [cT (by rw [hx]; exact hc)]
          exact h51 (by rw [decide_eq_true hc, Bool.or_true])
        · rw [cF (by rw [hx]; exact hc)]
          exact hfin (k + 1) (by omega) (by rw [hs, hak, decide_eq_false hc]; rfl)
      · have hak' : A.testBit k = false := by simpa using hak
        rw [hak', cond_false]
        exact h51 (by rw [hak']; rfl)) 0 (by omega)
  have H0 := H rfl
  rw [c_W_bothStay, zw12 (by omega) (by omega), gI_ok (by omega) (by omega), Int.toNat_natCast, hg0]
  exact H0
/-- the twos in rising order: how many, and the first -/
def atL (tw : Nat → Bool) : Nat → Int × Int
  | 0 => (0, -1)
  | i + 1 => if tw i = true then ((atL tw i).1 + 1, if (atL tw i).1 = 0 then (i : Int) else (atL tw i).2) else atL tw i
theorem atL_rg (tw : Nat → Bool) : ∀ i, 0 ≤ (atL tw i).1 ∧ (atL tw i).1 ≤ i ∧ ((atL tw i).1 = 0 → (atL tw i).2 = -1) ∧ ((atL tw i).1 ≠ 0 → 0 ≤ (atL tw i).2 ∧ (atL tw i).2 < i) := by
  intro i
  induction i with
  | zero => exact ⟨Int.le_refl _, Int.le_refl _, fun _ => rfl, fun h => absurd rfl h⟩
  | succ i ih =>
    obtain ⟨h1, h2, h3, h4⟩ := ih
    unfold atL
    by_cases h : tw i = true
    · rw [if_pos h]
      refine ⟨by dsimp only; omega, by dsimp only; omega, fun q => by dsimp only at q; omega, fun _ => ?_⟩
      dsimp only
      split
      · omega
      · rename_i q
        have := h4 q
        omega
    · rw [if_neg h]
      exact ⟨h1, by omega, h3, fun q => by have := h4 q; omega⟩
def atV (v : Int) (p : Int × Int) : Int := if v = 0 then p.1 else if p.1 = 0 then -2 else if v = 1 then p.2 / 12 else p.2 % 12
def av5 (p : Int × Int) : Int := if p.1 = 0 then -2 else p.2 / 12
def av6 (p : Int × Int) : Int := if p.1 = 0 then -2 else p.2 % 12
theorem s_atloop {z : zZ} {e A B : Nat} {q : Int} {gn : Nat → Nat → Int} {tw : Nat → Bool} {X : Mu} (he : 2 ≤ e) (hA : A < 4096) (hB : B < 4096) (hq : q = 0 ∨ q = 1 ∨ q = 2) (hG : GN A B gn (X 54) 156) (htw : ∀ w v, w < 12 → v < 12 → tw (12 * w + v) = (A.testBit w && (B.testBit v && styB A B gn w v 12))) : ∀ (m w v : Nat), m + (13 * w + v) = 156 → w < 12 → v ≤ 12 → f_W_atOnce_71 z e q (A : Int) (B : Int) (atL tw (12 * w + v)).1 (av5 (atL tw (12 * w + v))) (av6 (atL tw (12 * w + v))) (w : Int) (v : Int) X = some (atV q (atL tw 144), X) := by
  intro m
  induction m with
  | zero => intro w v hm hw hv; omega
  | succ m ih =>
    intro w v hm hw hv
    by_cases h12 : v = 12
    · subst h12
      rw [e_W_atOnce_71, cT (by omega), zwc (by omega), e_W_atOnce_61]
      by_cases hl : w = 11
      · subst hl
        rw [cT (by omega)]
        show (bif !decide (q = 0) then f_W_atOnce_144 z e q (av5 (atL tw 144)) (av6 (atL tw 144)) X else some ((atL tw 144).1, X)) = _
        unfold atV av5 av6
        generalize atL tw 144 = p
        rcases hq with h | h | h
        · subst h
          rw [nT rfl, if_pos rfl]
        · subst h
          rw [nF (by decide), if_neg (show ¬ (1 : Int) = 0 by decide), e_W_atOnce_144, nT rfl, e_W_atOnce_156, if_pos rfl]
        · subst h
          rw [nF (by decide), if_neg (show ¬ (2 : Int) = 0 by decide), e_W_atOnce_144, nF (by decide), e_W_atOnce_156, if_neg (show ¬ (2 : Int) = 1 by decide)]
      · rw [cF (by omega)]
        have := ih (w + 1) 0 (by omega) (by omega) (by omega)
        rw [show 12 * (w + 1) + 0 = 12 * w + 12 by omega] at this
        exact this
    · have hv12 : v < 12 := by omega
      have ht := htw w v hw hv12
      have hr := atL_rg tw (12 * w + v)
      have hn : atL tw (12 * w + v + 1) = if tw (12 * w + v) = true then ((atL tw (12 * w + v)).1 + 1, if (atL tw (12 * w + v)).1 = 0 then ((12 * w + v : Nat) : Int) else (atL tw (12 * w + v)).2) else atL tw (12 * w + v) := rfl
      have hnext := ih w (v + 1) (by omega) hw (by omega)
      rw [show 12 * w + (v + 1) = 12 * w + v + 1 by omega, hn] at hnext
      rw [e_W_atOnce_71, cF (by omega), s_has (by omega) (by omega) (by omega)]
      simp -implicitDefEqProofs only [ob]
      rw [cB]
      by_cases ha : A.testBit w = true
      · rw [ha, Bool.true_and] at ht
        rw [ha, cond_true, s_has (by omega) (by omega) (by omega)]
        simp -implicitDefEqProofs only [ob]
        rw [cB]
        by_cases hb : B.testBit v = true
        · rw [hb, Bool.true_and] at ht
          rw [hb, cond_true, s_bothStay he hA hB hw hv12 ha hb hG]
          simp -implicitDefEqProofs only [ob]
          rw [cB, ← ht]
          by_cases hs : tw (12 * w + v) = true
          · rw [if_pos hs] at hnext
            rw [hs, cond_true]
            generalize atL tw (12 * w + v) = p at *
            have e1 : ∀ x : Int, ¬ p.1 + 1 = 0 := fun _ => by omega
            by_cases h0 : p.1 = 0
            · rw [if_pos h0] at hnext
              have e5 : av5 (p.1 + 1, ((12 * w + v : Nat) : Int)) = (w : Int) := by
                unfold av5
                rw [if_neg (e1 0)]
                show ((12 * w + v : Nat) : Int) / 12 = _
                omega
              have e6 : av6 (p.1 + 1, ((12 * w + v : Nat) : Int)) = (v : Int) := by
                unfold av6
                rw [if_neg (e1 0)]
                show ((12 * w + v : Nat) : Int) % 12 = _
                omega
              rw [e5, e6] at hnext
              rw [nT h0, e_W_atOnce_122, e_W_atOnce_125, zwc (by omega), zw_id (x := p.1 + 1) (by omega) (by omega)]
              exact hnext
            · rw [if_neg h0] at hnext
              have e5 : av5 (p.1 + 1, p.2) = av5 p := by
                unfold av5
                rw [if_neg (e1 0), if_neg h0]
              have e6 : av6 (p.1 + 1, p.2) = av6 p := by
                unfold av6
                rw [if_neg (e1 0), if_neg h0]
              rw [e5, e6] at hnext
              rw [nF h0, e_W_atOnce_122, e_W_atOnce_125, zwc (by omega), zw_id (x := p.1 + 1) (by omega) (by omega)]
              exact hnext
          · have hs' : tw (12 * w + v) = false := by simpa using hs
            rw [if_neg hs] at hnext
            rw [hs', cond_false, e_W_atOnce_125, zwc (by omega)]
            exact hnext
        · have hb' : B.testBit v = false := by simpa using hb
          rw [hb', Bool.false_and] at ht
          rw [ht, if_neg (by decide)] at hnext
          rw [hb', cond_false, e_W_atOnce_125, zwc (by omega)]
          exact hnext
      · have ha' : A.testBit w = false := by simpa using ha
        rw [ha', Bool.false_and] at ht
        rw [ht, if_neg (by decide)] at hnext
        rw [ha', cond_false, e_W_atOnce_125, zwc (by omega)]
        exact hnext
