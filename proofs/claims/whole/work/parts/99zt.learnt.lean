/-! learnt, ahead, skirmish in both -/
def LQ (z : zZ) (d d' ic ir : Nat) (ac ar : List (Nat × Int)) (A B : Nat → Nat) (n : Nat) (μ ρ : Mu) : Prop := ∃ (r : Int) (M P : Mu), mC z d ic ac μ = some (r, M) ∧ mC z d' ir ar ρ = some (r, P) ∧ FIc A B n M ∧ LC μ M ∧ LR ρ P
theorem LR_refl (ρ : Mu) : LR ρ ρ := fun _ _ _ => rfl
theorem LR_trans {A B C : Mu} (h1 : LR A B) (h2 : LR B C) : LR A C := fun a q1 q2 => by rw [h2 a q1 q2, h1 a q1 q2]
theorem lcmp_0 {a b : Int} : z_lcmp a b = 0 ↔ a = b := by
  unfold z_lcmp
  by_cases h : a < b
  · rw [if_pos h]; constructor <;> intro q <;> omega
  · rw [if_neg h]
    by_cases h2 : a = b
    · rw [if_pos h2]; constructor <;> intro q <;> omega
    · rw [if_neg h2]; constructor <;> intro q <;> omega
theorem lcmp_le {a b : Int} : z_lcmp a b ≤ 0 ↔ a ≤ b := by
  unfold z_lcmp
  by_cases h : a < b
  · rw [if_pos h]; constructor <;> intro q <;> omega
  · rw [if_neg h]
    by_cases h2 : a = b
    · rw [if_pos h2]; constructor <;> intro q <;> omega
    · rw [if_neg h2]; constructor <;> intro q <;> omega
theorem lcmp_gt {a b : Int} : 0 < z_lcmp a b ↔ b < a := by
  unfold z_lcmp
  by_cases h : a < b
  · rw [if_pos h]; constructor <;> intro q <;> omega
  · rw [if_neg h]
    by_cases h2 : a = b
    · rw [if_pos h2]; constructor <;> intro q <;> omega
    · rw [if_neg h2]; constructor <;> intro q <;> omega
theorem lcmp_ge {a b : Int} : 0 ≤ z_lcmp a b ↔ b ≤ a := by
  unfold z_lcmp
  by_cases h : a < b
  · rw [if_pos h]; constructor <;> intro q <;> omega
  · rw [if_neg h]
    by_cases h2 : a = b
    · rw [if_pos h2]; constructor <;> intro q <;> omega
    · rw [if_neg h2]; constructor <;> intro q <;> omega
theorem ahead_both {z : zZ} {d d' n : Nat} {a b : Int} {A B : Nat → Nat} {μ ρ : Mu} (hd : 5 ≤ d) (hd' : 4 ≤ d') (hF : FIc A B n μ) (hR : FIr A B n ρ) : LQ z d d' 145 285 [(2, 0), (0, a), (0, b)] [(2, 86), (0, a), (0, b)] A B n μ ρ := by
  obtain ⟨e, rfl, he⟩ := pred_of (k := 4) hd
  obtain ⟨e', rfl, he'⟩ := pred_of (k := 3) hd'
  have hno : f_W_ahead_19 z e μ = some (-1, μ) := by rw [e_W_ahead_19]
  have hno' : f_M_ahead_28 z e' ρ = some (-1, ρ) := by rw [e_M_ahead_28, e_M_ahead_31]
  have fin : ∀ r M P, mC z (e + 1) 145 [(2, 0), (0, a), (0, b)] μ = some (r, M) → mC z (e' + 1) 285 [(2, 86), (0, a), (0, b)] ρ = some (r, P) → FIc A B n M → LC μ M → LR ρ P → LQ z (e + 1) (e' + 1) 145 285 [(2, 0), (0, a), (0, b)] [(2, 86), (0, a), (0, b)] A B n μ ρ := fun r M P h1 h2 h3 h4 h5 => ⟨r, M, P, h1, h2, h3, h4, h5⟩
  have hc := c_W_ahead z e a b μ
  have hr := c_M_ahead z e' a b ρ
  rw [s_isLetter (by omega)] at hc
  rw [t_isLetter (by omega)] at hr
  simp -implicitDefEqProofs only [ob] at hc hr
  rw [cB] at hc hr
  by_cases h1 : 0 ≤ a ∧ a < 12
  · rw [decide_eq_true h1, cond_true, s_isLetter (by omega)] at hc
    rw [decide_eq_true h1, cond_true, t_isLetter (by omega)] at hr
    simp -implicitDefEqProofs only [ob] at hc hr
    rw [cB] at hc hr
    by_cases h2 : 0 ≤ b ∧ b < 12
    · rw [decide_eq_true h2, cond_true] at hc hr
      by_cases h3 : a = b
      · rw [nT h3, hno] at hc
        rw [cT h3, hno'] at hr
        exact fin _ _ _ hc hr hF (LC_refl μ) (LR_refl ρ)
      · obtain ⟨x, rfl, hx⟩ : ∃ t : Nat, a = (t : Int) ∧ t < 12 := ⟨a.toNat, by omega, by omega⟩
        obtain ⟨y, rfl, hy⟩ : ∃ t : Nat, b = (t : Int) ∧ t < 12 := ⟨b.toNat, by omega, by omega⟩
        obtain ⟨M, m1, m2, m3⟩ := s_rowsWith (z := z) (d := e) he hx hy (by omega) hF
        obtain ⟨P, p1, p2⟩ := t_waysWith (z := z) (d := e') he' hx hy hR
        rw [nF h3, m1] at hc
        rw [cF h3, p1] at hr
        simp -implicitDefEqProofs only [ob] at hc hr
        rw [e_M_ahead_31] at hr
        exact fin _ _ _ hc hr m2 m3 p2
    · rw [decide_eq_false h2, cond_false, hno] at hc
      rw [decide_eq_false h2, cond_false, hno'] at hr
      exact fin _ _ _ hc hr hF (LC_refl μ) (LR_refl ρ)
  · rw [decide_eq_false h1, cond_false, hno] at hc
    rw [decide_eq_false h1, cond_false, hno'] at hr
    exact fin _ _ _ hc hr hF (LC_refl μ) (LR_refl ρ)
/-- sets that may stand first -/
def cls (ms : Nat → Nat) (s : Nat) : Prop := ∀ x, x < 12 → s.testBit x = true → sbs (ms x) s = true
theorem sbs_up {m s x : Nat} (h : sbs m s = true) : sbs m (s ||| 2 ^ x) = true := by
  unfold sbs at h ⊢
  rw [allb_iff] at h ⊢
  intro k hk
  have h3 := h k hk
  rw [Bool.or_eq_true] at h3 ⊢
  rcases h3 with h3 | h3
  · left; exact h3
  · right; rw [bit_or, h3]; rfl
theorem cls_or {ms : Nat → Nat} {s x : Nat} (h : cls ms s) (ha : ava ms s x = true) : cls ms (s ||| 2 ^ x) := by
  intro y hy hty
  rw [bit_or, Bool.or_eq_true, decide_eq_true_eq] at hty
  rcases hty with h1 | h1
  · exact sbs_up (h y hy h1)
  · subst h1
    unfold ava at ha
    rw [Bool.and_eq_true] at ha
    exact sbs_up ha.2
theorem cls_0 (ms : Nat → Nat) : cls ms 0 := fun x _ h => by rw [Nat.zero_testBit] at h; exact absurd h (by decide)
theorem wy_cls {ms : Nat → Nat} {s : Nat} (h0 : wy ms 0 ≠ 0) (hs : s < 4096) (h : cls ms s) : wy ms s ≠ 0 := wy_reach 0 (by omega) h0 s hs h (fun x hx => by rw [Nat.zero_testBit] at hx; exact absurd hx (by decide))
theorem ava_ex {ms : Nat → Nat} {s : Nat} (h0 : wy ms 0 ≠ 0) (hs : s < 4096) (h : cls ms s) (hne : s ≠ 4095) : ∃ x, x < 12 ∧ ava ms s x = true ∧ ∀ y, y < x → ava ms s y = false := by
  rcases fst1_sp (ava ms s) 12 with ⟨_, h6⟩ | ⟨w, _, h6, h7, h8⟩
  · exfalso
    apply wy_cls h0 hs h
    rw [wy_eq hs, if_neg hne, sm_congr (g := fun _ => 0) (fun x hx => by rw [h6 x hx]; rfl), sm_zero]
    rfl
  · exact ⟨w, h6, h7, h8⟩
theorem first_go {z : zZ} {e e' w : Nat} {ms : Nat → Nat} {M P : Mu} (he' : 1 ≤ e') (hw : w < 12) (hms : ∀ x, x < 12 → ms x < 4096) (h61 : ∀ x, x < 12 → M 61 x = (ms x : Int)) (h130 : ∀ x, x < 12 → P 130 x = (ms x : Int)) (h131 : ∀ s, s < 4096 → P 131 s = wy ms s) (h0 : wy ms 0 ≠ 0) : ∀ (j i s : Nat) (p1 p2 : Int), j + i = w + 1 → s < 4096 → cnt s.testBit 12 = i → cls ms s → (i = w + 1 → p1 = p2) → ∃ r : Int, f_Fig_firstRowAt_7 z e (w : Int) (s : Int) p1 (i : Int) M = some (r, M) ∧ f_M_learnt_49 z e' (w : Int) (s : Int) p2 (i : Int) P = some (r, P) := by
  intro j
  induction j with
  | zero =>
    intro i s p1 p2 hj hs hc hcl hp
    have hi : i = w + 1 := by omega
    have := hp hi
    subst this
    refine ⟨p1, ?_, ?_⟩
    · rw [e_Fig_firstRowAt_7, cT (by omega), e_Fig_firstRowAt_84]
    · rw [e_M_learnt_49, cT (by omega)]
  | succ j ih =>
    intro i s p1 p2 hj hs hc hcl hp
    have hne : s ≠ 4095 := by
      intro q
      subst q
      have : cnt (4095 : Nat).testBit 12 = 12 := by decide
      omega
    obtain ⟨x, hx, hax, hno⟩ := ava_ex h0 hs hcl hne
    have hor := or_lt hs hx
    have hgt := or_gt (ava_bit hax)
    have hcl' := cls_or hcl hax
    have hw' := wy_cls h0 hor hcl'
    obtain ⟨r, r1, r2⟩ := ih (i + 1) (s ||| 2 ^ x) (x : Int) (x : Int) (by omega) hor (by rw [cnt_or hx (ava_bit hax), hc]) hcl' (fun _ => rfl)
    refine ⟨r, ?_, ?_⟩
    · rw [e_Fig_firstRowAt_7, cF (by omega), cF (by omega)]
      have h67 : f_Fig_firstRowAt_67 z e (w : Int) (s : Int) (x : Int) (i : Int) M = some (r, M) := by
        rw [e_Fig_firstRowAt_67, cF (by omega), s_or1 (by omega) (by omega), e_Fig_firstRowAt_78, zwc (by omega)]
        exact r1
      have key := down (n := x) (P := fun y => f_Fig_firstRowAt_25 z e (w : Int) (s : Int) (-1) (i : Int) (y : Int) M = some (r, M))
        (by
          have hav := (z_ava (ms := ms) hs hx (hms x hx)).mpr hax
          rw [e_Fig_firstRowAt_25, cF (by omega), nT rfl, gI_ok (by omega) (by omega), Int.toNat_natCast, h61 x hx, nT hav, e_Fig_firstRowAt_61, zwc (by omega), e_Fig_firstRowAt_25]
          by_cases q : (12 : Int) ≤ ((x + 1 : Nat) : Int)
          · rw [cT q, h67]
          · rw [cF q, nF (by omega), h67])
        (by
          intro y hy ih2
          have hav : ¬ (z_or (z_and (s : Int) (z_shl 1 (y : Int))) (z_and ((ms y : Nat) : Int) (z_xor (s : Int) (-1))) = 0) := fun q => by
            have := (z_ava (ms := ms) hs (show y < 12 by omega) (hms y (by omega))).mp q
            rw [hno y hy] at this
            exact absurd this (by decide)
          rw [e_Fig_firstRowAt_25, cF (by omega), nT rfl, gI_ok (by omega) (by omega), Int.toNat_natCast, h61 y (by omega), nF hav, e_Fig_firstRowAt_61]
          clear hav
          rw [zwc (by omega)]
          exact ih2)
      exact key 0 (by omega)
    · rw [e_M_learnt_49, cF (by omega)]
      have key := down (n := x) (P := fun y => f_M_learnt_58 z e' (w : Int) (s : Int) (y : Int) (i : Int) P = some (r, P))
        (by
          have ez : Unit → z_and (P 130 x) (z_xor (s : Int) (-1)) = ((dff (ms x) s : Nat) : Int) := fun _ => by rw [h130 x hx]; exact z_dff (hms x hx) hs
          have hsb : sbs (ms x) s = true := by
            have := hax
            unfold ava at this
            rw [Bool.and_eq_true] at this
            exact this.2
          have hd0 := dff_0.mpr hsb
          have hl : ¬ z_lcmp (P 131 (s ||| 2 ^ x)) 0 = 0 := fun q => hw' (by rw [← h131 _ hor]; exact lcmp_0.mp q)
          rw [e_M_learnt_58, t_has he' (by omega) (by omega), ava_bit hax]
          simp -implicitDefEqProofs only [ob]
          rw [nB, cond_false, gI_ok (by omega) (by omega), Int.toNat_natCast, nT ((ez ()).trans (by rw [hd0]; rfl)), s_or1 (by omega) (by omega), gI_ok (by omega) (by omega), Int.toNat_natCast, nF hl, e_M_learnt_109, s_or1 (by omega) (by omega), zwc (by omega)]
          exact r2)
        (by
          intro y hy ih2
          have h100 : f_M_learnt_100 z e' (w : Int) (s : Int) (y : Int) (i : Int) P = some (r, P) := by
            rw [e_M_learnt_100, zwc (by omega)]
            exact ih2
          have hav := hno y hy
          rw [e_M_learnt_58, t_has he' (by omega) (by omega)]
          simp -implicitDefEqProofs only [ob]
          rw [nB]
          by_cases hb : s.testBit y = true
          · rw [hb, cond_true, h100]
          · have hb0 : s.testBit y = false := by cases h : s.testBit y with
              | false => rfl
              | true => exact absurd h hb
            have hsb : dff (ms y) s ≠ 0 := fun q => by
              have h1 := dff_0.mp q
              unfold ava at hav
              rw [hb0, h1] at hav
              exact absurd hav (by decide)
            have hd1 : ((dff (ms y) s : Nat) : Int) ≠ 0 := by omega
            have hy12 : y < 12 := by omega
            rw [hb0, cond_false, gI_ok (by omega) (by omega), Int.toNat_natCast, nF (fun q => hd1 (by rw [← z_dff (hms y hy12) hs, ← h130 y hy12]; exact q)), h100])
      exact key 0 (by omega)
theorem learnt_both {z : zZ} {d d' n : Nat} {v : Int} {A B : Nat → Nat} {μ ρ : Mu} (hd : 4 ≤ d) (hd' : 3 ≤ d') (hF : FIc A B n μ) (hR : FIr A B n ρ) : LQ z d d' 140 282 [(2, 0), (0, v)] [(2, 86), (0, v)] A B n μ ρ := by
  obtain ⟨e, rfl, he⟩ := pred_of (k := 3) hd
  obtain ⟨e', rfl, he'⟩ := pred_of (k := 2) hd'
  have hms : ∀ x, x < 12 → mS A B n x < 4096 := fun x hx => mS_lt n (fun k hk => (hF.2.2.1 k hk).1)
  obtain ⟨M, m1, m2, m3, m4, m5, m6⟩ := s_count (z := z) (d := e) he hF
  obtain ⟨P, Q, p1, q1, q2, q3, q4⟩ := t_ways (z := z) (d := e') he' hR
  have fin : ∀ r M P, mC z (e + 1) 140 [(2, 0), (0, v)] μ = some (r, M) → mC z (e' + 1) 282 [(2, 86), (0, v)] ρ = some (r, P) → FIc A B n M → LC μ M → LR ρ P → LQ z (e + 1) (e' + 1) 140 282 [(2, 0), (0, v)] [(2, 86), (0, v)] A B n μ ρ := fun r M P h1 h2 h3 h4 h5 => ⟨r, M, P, h1, h2, h3, h4, h5⟩
  have hc := c_W_learnt z e v μ
  have hr := c_M_learnt z e' v ρ
  rw [t_in (by omega)] at hr
  simp -implicitDefEqProofs only [ob] at hr
  rw [nB] at hr
  by_cases h1 : v = -1
  · rw [nT h1, m1] at hc
    rw [decide_eq_true (show (-1 : Int) ≤ v ∧ v ≤ 11 by omega), cond_true, p1] at hr
    simp -implicitDefEqProofs only [ob] at hc hr
    rw [q1] at hr
    simp -implicitDefEqProofs only [ob] at hr
    rw [nT h1] at hr
    exact fin _ _ _ hc hr m4 m5 q2
  · rw [nF h1, s_isLetter (by omega)] at hc
    simp -implicitDefEqProofs only [ob] at hc
    rw [nB] at hc
    by_cases h2 : 0 ≤ v ∧ v < 12
    · rw [decide_eq_true h2, cond_true, m1] at hc
      rw [decide_eq_true (show (-1 : Int) ≤ v ∧ v ≤ 11 by omega), cond_true, p1] at hr
      simp -implicitDefEqProofs only [ob] at hc hr
      rw [q1] at hr
      simp -implicitDefEqProofs only [ob] at hr
      rw [nF h1] at hr
      by_cases h3 : wy (mS A B n) 0 = 0
      · rw [nT (lcmp_0.mpr h3), e_W_learnt_51] at hc
        rw [nT (lcmp_0.mpr h3)] at hr
        exact fin _ _ _ hc hr m4 m5 q2
      · obtain ⟨w, rfl, hw⟩ : ∃ t : Nat, v = (t : Int) ∧ t < 12 := ⟨v.toNat, by omega, by omega⟩
        obtain ⟨e2, rfl, he2⟩ := pred_of (k := 2) he
        obtain ⟨r, r1, r2⟩ := first_go (z := z) (e := e2) (e' := e') (w := w) (ms := mS A B n) (M := M) (P := Q) (by omega) hw hms m3.1 q3 q4 h3 (w + 1) 0 0 (-1) 0 (by omega) (by omega) (by decide) (cls_0 _) (fun q => absurd q (by omega))
        rw [show ((0 : Nat) : Int) = 0 from rfl] at r1 r2
        rw [nF (fun q => h3 (lcmp_0.mp q)), c_Fig_firstRowAt, r1] at hc
        simp -implicitDefEqProofs only [ob] at hc
        rw [e_W_learnt_51] at hc
        rw [nF (fun q => h3 (lcmp_0.mp q)), e_M_learnt_40, r2] at hr
        exact fin _ _ _ hc hr m4 m5 q2
    · rw [decide_eq_false h2, cond_false] at hc
      rw [decide_eq_false (show ¬ ((-1 : Int) ≤ v ∧ v ≤ 11) by omega), cond_false] at hr
      exact fin _ _ _ hc hr hF (LC_refl μ) (LR_refl ρ)
