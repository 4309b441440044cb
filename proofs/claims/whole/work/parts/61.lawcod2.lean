/-! conditions of the reference, their values being 0 and 1 -/
def rstR1 (st tl : Row) (to lo hi dep : Nat) (F : Int → Option Int) : Prop := lo ≤ hi ∧ ∀ (z : zZ) (e n : Nat) (M : Mu), 2 ≤ e → M 104 = st → M 110 = tl → n + dep ≤ 220 → (M 109 n = 0 ∨ M 109 n = 1) → (∃ v M', F (M 109 n) = some v ∧ f_M_comesTo_16 z e (to : Int) ((n + 1 : Nat) : Int) 0 (lo : Int) M = f_M_comesTo_16 z e (to : Int) ((n + 1 : Nat) : Int) 0 (hi : Int) M' ∧ M' 109 n = v ∧ rsf n M M') ∨ (F (M 109 n) = none ∧ ∃ M', f_M_comesTo_16 z e (to : Int) ((n + 1 : Nat) : Int) 0 (lo : Int) M = some (0, M') ∧ rsf n M M')
theorem segR_mono {st tl : Row} {to lo hi d d' : Nat} {D : Option Int} (h : segR st tl to lo hi d D) (hd : d ≤ d') : segR st tl to lo hi d' D := ⟨h.1, fun z e n M he h1 h2 h3 => h.2 z e n M he h1 h2 (by omega)⟩
theorem rstR1_nil {st tl : Row} {to lo dep : Nat} : rstR1 st tl to lo lo dep (fun h => some h) := ⟨Nat.le_refl _, fun z e n M he h1 h2 h3 _ => Or.inl ⟨M 109 n, M, rfl, rfl, rfl, rsf_refl _ _⟩⟩
theorem segR_rest1 {st tl : Row} {to lo mid hi dep : Nat} {D : Option Int} {F : Int → Option Int} (h1 : segR st tl to lo mid dep D) (h2 : rstR1 st tl to mid hi dep F) (hD : is01 D) : segR st tl to lo hi dep (D.bind F) := by
  obtain ⟨l1, h1⟩ := h1
  obtain ⟨l2, h2⟩ := h2
  refine ⟨by omega, fun z e n M he g1 g2 g3 => ?_⟩
  rcases h1 z e n M he g1 g2 g3 with ⟨x, M1, c1, c2, c3, c4⟩ | ⟨c1, M1, c2, c3⟩
  · rcases h2 z e n M1 he (by rw [c4.1 104 (by omega)]; exact g1) (by rw [c4.1 110 (by omega)]; exact g2) g3 (by rw [c3]; exact hD x c1) with ⟨y, M2, k1, k2, k3, k4⟩ | ⟨k1, M2, k2, k3⟩
    · left
      rw [c3] at k1
      exact ⟨y, M2, by rw [c1]; exact k1, by rw [c2, k2], k3, rsf_trans c4 k4⟩
    · right
      rw [c3] at k1
      exact ⟨by rw [c1]; exact k1, M2, by rw [c2, k2], rsf_trans c4 k3⟩
  · right
    exact ⟨by rw [c1]; rfl, M1, c2, c3⟩
theorem rstR1_cons {st tl : Row} {to lo mid hi dep k t tr : Nat} {D : Option Int} {F : Int → Option Int} (hlo : lo < to) (hto : to ≤ 220) (hkt : (k = 4 ∧ t = 12) ∨ (k = 5 ∧ t = 11)) (hv : tr < 1048576) (hst : st lo = ((1048576 * t + tr : Nat) : Int)) (hth : thrR st to tr hi t) (h1 : segR st tl to (lo + 1) mid dep D) (h2 : rstR1 st tl to mid hi dep F) (hd1 : 1 ≤ dep) (hD : is01 D) : rstR1 st tl to lo hi dep (fun h => if (h ≠ 0 ↔ k = 4) then some h else D.bind F) := by
  have hseg := segR_rest1 h1 h2 hD
  have l1 := hseg.1
  refine ⟨by omega, fun z e n M he g1 g2 g3 g4 => ?_⟩
  have ht : t = 11 ∨ t = 12 := by omega
  have hj := t_runJ (z := z) (e := e) (n := n) (M := M) hlo hto ht hv (by omega) (by rw [g1]; exact hst)
  have hiff := jv_iff g4 hkt
  by_cases hc : M 109 n = jv t
  · left
    rw [if_pos hc, hth z e n M g1 (by omega) hc] at hj
    exact ⟨M 109 n, M, if_pos (hiff.mp hc), hj, rfl, rsf_refl _ _⟩
  · rw [if_neg hc] at hj
    have hc' : ¬ (M 109 n ≠ 0 ↔ k = 4) := fun h => hc (hiff.mpr h)
    rcases hseg.2 z e n M he g1 g2 g3 with ⟨y, M2, k1, k2, k3, k4⟩ | ⟨k1, M2, k2, k3⟩
    · left
      exact ⟨y, M2, (if_neg hc').trans k1, by rw [hj, k2], k3, k4⟩
    · right
      exact ⟨(if_neg hc').trans k1, M2, by rw [hj, k2], k3⟩
theorem cdR_seg {to n : Nat} {b st tl : Row} (hto : to ≤ 220) : ∀ (f m o p base tgt : Nat), (pz b n f m o p).1 = 0 → o ≤ 6 → cdR b st n to f m o p base tgt → base + ln b n f m o p ≤ to → (m = 0 → segR st tl to base (base + ln b n f m o p) (dS o) (dz b tl n f m o p 0)) ∧ (m = 1 → ∀ lo D, segR st tl to lo base (dS o) D → segR st tl to lo (base + ln b n f m o p) (dS o) (D.bind (dz b tl n f m o p))) ∧ (m = 2 → segR st tl to base (base + ln b n f m o p) (dS o - 1) (dz b tl n f m o p 0)) ∧ (m = 3 → ∀ lo D, segR st tl to lo base (dS o - 1) D → segR st tl to lo (base + ln b n f m o p) (dS o - 1) (D.bind (dz b tl n f m o p))) ∧ (m = 4 → segR st tl to base (base + ln b n f m o p) (dS o - 2) (dz b tl n f m o p 0)) ∧ (m = 5 ∨ m = 7 ∨ m = 9 → segR st tl to base (base + ln b n f m o p) (dS o + 1) (dz b tl n f m o p 0)) ∧ (m = 6 ∨ m = 8 → tgt = base + ln b n f m o p → rstR1 st tl to base tgt (dS o + 1) (dz b tl n f m o p)) := by
  intro f
  induction f with
  | zero => intro m o p base tgt hp ho hc; exact absurd hc (by simp [cdR])
  | succ f ih =>
    intro m o p base tgt hp ho hc hln
    have hdS : 4 ≤ dS o := by unfold dS; omega
    have hdS2 : o < 6 → dS (o + 1) + 3 = dS o := by intro _; unfold dS; omega
    refine ⟨fun hm => ?_, fun hm => ?_, fun hm => ?_, fun hm => ?_, fun hm => ?_, fun hm => ?_, fun hm => ?_⟩
    · subst hm
      simp only [pz, ln, dz, cdR, if_true] at hp hc hln ⊢
      by_cases h2 : (pz b n f 2 o p).1 = 0
      · rw [if_neg (by intro h; exact h h2)] at hp
        have s2 := (ih 2 o p base 0 h2 ho hc.1 (by omega)).2.2.1 rfl
        have s1 := (ih 1 o _ _ 0 hp ho hc.2 (by omega)).2.1 rfl base _ (segR_mono s2 (by omega))
        rw [Nat.add_assoc] at s1
        exact s1
      · rw [if_pos h2] at hp
        exact absurd hp h2
    · subst hm
      intro lo D hD
      simp only [pz, ln, cdR, Nat.one_ne_zero, if_false, if_true] at hp hc hln ⊢
      by_cases hs : tx b n p = 43 ∨ tx b n p = 45
      · simp only [if_pos hs] at hp hc hln ⊢
        by_cases h2 : (pz b n f 2 o (p + 1)).1 = 0
        · rw [if_neg (by intro h; exact h h2)] at hp
          have s2 := (ih 2 o (p + 1) base 0 h2 ho hc.1 (by omega)).2.2.1 rfl
          have hsg : 2 ≤ sgs (tx b n p) := by rcases hs with h | h <;> rw [h] <;> decide
          have sb := segR_bin (dep := dS o) (by omega) hto hsg (sgs_le _) hc.2.1 hD s2 (Nat.le_refl _) (by omega) (by omega)
          have s1 := (ih 1 o _ _ 0 hp ho hc.2.2 (by omega)).2.1 rfl lo _ sb
          rw [bind_as] at s1
          have e1 : base + (ln b n f 2 o (p + 1) + 1 + ln b n f 1 o (pz b n f 2 o (p + 1)).2) = base + ln b n f 2 o (p + 1) + 1 + ln b n f 1 o (pz b n f 2 o (p + 1)).2 := by omega
          have e2 : dz b tl n (f + 1) 1 o p = fun x => ((dz b tl n f 2 o (p + 1) 0).bind fun y => rck (sgs (tx b n p)) x y).bind (dz b tl n f 1 o (pz b n f 2 o (p + 1)).2) := by
            funext x
            simp only [dz, Nat.one_ne_zero, if_false, if_true, if_pos hs]
          rw [e1, e2]
          exact s1
        · rw [if_pos h2] at hp
          exact absurd hp h2
      · simp only [if_neg hs] at hln ⊢
        have e2 : dz b tl n (f + 1) 1 o p = fun x => some x := by
          funext x
          simp only [dz, Nat.one_ne_zero, if_false, if_true, if_neg hs]
        rw [e2, Nat.add_zero]
        cases D <;> exact hD
    · subst hm
      simp only [pz, ln, dz, cdR, Nat.reduceEqDiff, if_false, if_true] at hp hc hln ⊢
      by_cases h2 : (pz b n f 4 o p).1 = 0
      · rw [if_neg (by intro h; exact h h2)] at hp
        have s2 := (ih 4 o p base 0 h2 ho hc.1 (by omega)).2.2.2.2.1 rfl
        have s1 := (ih 3 o _ _ 0 hp ho hc.2 (by omega)).2.2.2.1 rfl base _ (segR_mono s2 (by omega))
        rw [Nat.add_assoc] at s1
        exact s1
      · rw [if_pos h2] at hp
        exact absurd hp h2
    · subst hm
      intro lo D hD
      simp only [pz, ln, cdR, Nat.reduceEqDiff, if_false, if_true] at hp hc hln ⊢
      by_cases hs : tx b n p = 42 ∨ tx b n p = 47 ∨ tx b n p = 37
      · simp only [if_pos hs] at hp hc hln ⊢
        by_cases h2 : (pz b n f 4 o (p + 1)).1 = 0
        · rw [if_neg (by intro h; exact h h2)] at hp
          have s2 := (ih 4 o (p + 1) base 0 h2 ho hc.1 (by omega)).2.2.2.2.1 rfl
          have hsg : 2 ≤ sgs (tx b n p) := by rcases hs with h | h | h <;> rw [h] <;> decide
          have sb := segR_bin (dep := dS o - 1) (by omega) hto hsg (sgs_le _) hc.2.1 hD s2 (Nat.le_refl _) (by omega) (by omega)
          have s1 := (ih 3 o _ _ 0 hp ho hc.2.2 (by omega)).2.2.2.1 rfl lo _ sb
          rw [bind_as] at s1
          have e1 : base + (ln b n f 4 o (p + 1) + 1 + ln b n f 3 o (pz b n f 4 o (p + 1)).2) = base + ln b n f 4 o (p + 1) + 1 + ln b n f 3 o (pz b n f 4 o (p + 1)).2 := by omega
          have e2 : dz b tl n (f + 1) 3 o p = fun x => ((dz b tl n f 4 o (p + 1) 0).bind fun y => rck (sgs (tx b n p)) x y).bind (dz b tl n f 3 o (pz b n f 4 o (p + 1)).2) := by
            funext x
            simp only [dz, Nat.reduceEqDiff, if_false, if_true, if_pos hs]
          rw [e1, e2]
          exact s1
        · rw [if_pos h2] at hp
          exact absurd hp h2
      · simp only [if_neg hs] at hln ⊢
        have e2 : dz b tl n (f + 1) 3 o p = fun x => some x := by
          funext x
          simp only [dz, Nat.reduceEqDiff, if_false, if_true, if_neg hs]
        rw [e2, Nat.add_zero]
        cases D <;> exact hD
    · subst hm
      simp only [pz, ln, dz, cdR, Nat.reduceEqDiff, if_false, if_true] at hp hc hln ⊢
      by_cases h91 : tx b n p = 91
      · simp only [if_pos h91] at hp hc hln ⊢
        by_cases h6 : 6 ≤ o
        · rw [if_pos h6] at hp
          simp only at hp
          omega
        · rw [if_neg h6] at hp
          by_cases h0 : (pz b n f 0 (o + 1) (p + 1)).1 = 0
          · have s0 := (ih 0 (o + 1) (p + 1) base 0 h0 (by omega) hc hln).1 rfl
            exact segR_mono s0 (by have := hdS2 (by omega); omega)
          · rw [if_pos h0] at hp
            exact absurd hp h0
      · simp only [if_neg h91] at hp hc hln ⊢
        by_cases hg : isg b n p = true
        · simp only [if_pos hg] at hc ⊢
          exact segR_mono (segR_num (by omega) hto (by omega) hc.2) (by omega)
        · simp only [if_neg hg] at hc ⊢
          have := tlx_lt (tx b n p)
          exact segR_mono (segR_told (by omega) hto (by omega) hc.2) (by omega)
    · rcases hm with hm | hm | hm
      · subst hm
        simp only [pz, ln, dz, cdR, Nat.reduceEqDiff, if_false, if_true] at hp hc hln ⊢
        by_cases h2 : (pz b n f 7 o p).1 = 0
        · rw [if_neg (by intro h; exact h h2)] at hp
          have s2 := (ih 7 o p base 0 h2 ho hc.1 (by omega)).2.2.2.2.2.1 (by omega)
          have s1 := (ih 6 o _ _ _ hp ho hc.2 (by omega)).2.2.2.2.2.2 (by omega) rfl
          have := segR_rest1 s2 s1 ((dz01 f 7 o p 0 h2).1 (by omega))
          rw [Nat.add_assoc] at this
          exact this
        · rw [if_pos h2] at hp
          exact absurd hp h2
      · subst hm
        simp only [pz, ln, dz, cdR, Nat.reduceEqDiff, if_false, if_true] at hp hc hln ⊢
        by_cases h2 : (pz b n f 9 o p).1 = 0
        · rw [if_neg (by intro h; exact h h2)] at hp
          have s2 := (ih 9 o p base 0 h2 ho hc.1 (by omega)).2.2.2.2.2.1 (by omega)
          have s1 := (ih 8 o _ _ _ hp ho hc.2 (by omega)).2.2.2.2.2.2 (by omega) rfl
          have := segR_rest1 s2 s1 ((dz01 f 9 o p 0 h2).1 (by omega))
          rw [Nat.add_assoc] at this
          exact this
        · rw [if_pos h2] at hp
          exact absurd hp h2
      · subst hm
        simp only [pz, ln, dz, cdR, Nat.reduceEqDiff, if_false, if_true] at hp hc hln ⊢
        by_cases h33 : tx b n p = 33
        · simp only [if_pos h33] at hp hc hln ⊢
          by_cases h6 : 6 ≤ o
          · rw [if_pos h6] at hp
            simp only at hp
            omega
          · rw [if_neg h6] at hp
            have s0 := (ih 9 (o + 1) (p + 1) base 0 hp (by omega) hc.1 (by omega)).2.2.2.2.2.1 (by omega)
            have := segR_not (by omega) hto hc.2 (segR_mono s0 (d' := dS o + 1) (by have := hdS2 (by omega); omega)) (by omega)
            rw [Nat.add_assoc] at this
            exact this
        · simp only [if_neg h33] at hp hc hln ⊢
          by_cases h40 : tx b n p = 40
          · simp only [if_pos h40] at hp hc hln ⊢
            by_cases h6 : 6 ≤ o
            · rw [if_pos h6] at hp
              simp only at hp
              omega
            · rw [if_neg h6] at hp
              by_cases h0 : (pz b n f 5 (o + 1) (p + 1)).1 = 0
              · have s0 := (ih 5 (o + 1) (p + 1) base 0 h0 (by omega) hc hln).2.2.2.2.2.1 (by omega)
                exact segR_mono s0 (by have := hdS2 (by omega); omega)
              · rw [if_pos h0] at hp
                exact absurd hp h0
          · simp only [if_neg h40] at hp hc hln ⊢
            by_cases h0 : (pz b n f 0 o p).1 = 0
            · rw [if_neg (by intro h; exact h h0)] at hp
              by_cases hs : tx b n (pz b n f 0 o p).2 = 60 ∨ tx b n (pz b n f 0 o p).2 = 62 ∨ tx b n (pz b n f 0 o p).2 = 61
              · rw [if_pos hs] at hp
                have s1 := (ih 0 o p base 0 h0 ho hc.1 (by omega)).1 rfl
                have s2 := (ih 0 o _ _ 0 hp ho hc.2.1 (by omega)).1 rfl
                have := segR_bin (dep := dS o + 1) (by omega) hto (by omega) (sgs_le _) hc.2.2.2 s1 s2 (by omega) (by omega) (by omega)
                have e1 : base + (ln b n f 0 o p + ln b n f 0 o ((pz b n f 0 o p).2 + 1) + 1) = base + ln b n f 0 o p + ln b n f 0 o ((pz b n f 0 o p).2 + 1) + 1 := by omega
                rw [e1]
                exact this
              · rw [if_neg hs] at hp
                simp only at hp
                omega
            · rw [if_pos h0] at hp
              exact absurd hp h0
    · intro htg
      rcases hm with hm | hm
      · subst hm
        simp only [pz, ln, cdR, Nat.reduceEqDiff, if_false, if_true] at hp hc hln htg ⊢
        by_cases hs : tx b n p = 124
        · simp only [if_pos hs] at hp hc hln htg ⊢
          by_cases h2 : (pz b n f 7 o (p + 1)).1 = 0
          · rw [if_neg (by intro h; exact h h2)] at hp
            have s2 := (ih 7 o (p + 1) (base + 1) 0 h2 ho hc.2.1 (by omega)).2.2.2.2.2.1 (by omega)
            have s1 := (ih 6 o _ _ tgt hp ho hc.2.2 (by omega)).2.2.2.2.2.2 (by omega) (by omega)
            obtain ⟨tr, t1, t2, t3⟩ := hc.1
            have := rstR1_cons (k := 4) (t := 12) (by omega) hto (Or.inl ⟨rfl, rfl⟩) t1 t2 t3 s2 s1 (by omega) ((dz01 f 7 o (p + 1) 0 h2).1 (by omega))
            have e2 : dz b tl n (f + 1) 6 o p = fun x => if (x ≠ 0 ↔ 4 = 4) then some x else (dz b tl n f 7 o (p + 1) 0).bind (dz b tl n f 6 o (pz b n f 7 o (p + 1)).2) := by
              funext x
              simp only [dz, Nat.reduceEqDiff, if_false, if_true, if_pos hs]
            rw [e2]
            exact this
          · rw [if_pos h2] at hp
            exact absurd hp h2
        · simp only [if_neg hs] at htg
          have e2 : dz b tl n (f + 1) 6 o p = fun x => some x := by
            funext x
            simp only [dz, Nat.reduceEqDiff, if_false, if_true, if_neg hs]
          rw [e2, htg, Nat.add_zero]
          exact rstR1_nil
      · subst hm
        simp only [pz, ln, cdR, Nat.reduceEqDiff, if_false, if_true] at hp hc hln htg ⊢
        by_cases hs : tx b n p = 38
        · simp only [if_pos hs] at hp hc hln htg ⊢
          by_cases h2 : (pz b n f 9 o (p + 1)).1 = 0
          · rw [if_neg (by intro h; exact h h2)] at hp
            have s2 := (ih 9 o (p + 1) (base + 1) 0 h2 ho hc.2.1 (by omega)).2.2.2.2.2.1 (by omega)
            have s1 := (ih 8 o _ _ tgt hp ho hc.2.2 (by omega)).2.2.2.2.2.2 (by omega) (by omega)
            obtain ⟨tr, t1, t2, t3⟩ := hc.1
            have := rstR1_cons (k := 5) (t := 11) (by omega) hto (Or.inr ⟨rfl, rfl⟩) t1 t2 t3 s2 s1 (by omega) ((dz01 f 9 o (p + 1) 0 h2).1 (by omega))
            have e2 : dz b tl n (f + 1) 8 o p = fun x => if (x ≠ 0 ↔ 5 = 4) then some x else (dz b tl n f 9 o (p + 1) 0).bind (dz b tl n f 8 o (pz b n f 9 o (p + 1)).2) := by
              funext x
              simp only [dz, Nat.reduceEqDiff, if_false, if_true, if_pos hs]
            rw [e2]
            exact this
          · rw [if_pos h2] at hp
            exact absurd hp h2
        · simp only [if_neg hs] at htg
          have e2 : dz b tl n (f + 1) 8 o p = fun x => some x := by
            funext x
            simp only [dz, Nat.reduceEqDiff, if_false, if_true, if_neg hs]
          rw [e2, htg, Nat.add_zero]
          exact rstR1_nil
