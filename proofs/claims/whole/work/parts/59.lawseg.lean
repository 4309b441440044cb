/-! the class's steps of a text come to what the text says -/
def dS (o : Nat) : Nat := 3 * (7 - o) + 1
theorem segC_mono {w : Nat} {st tl : Row} {sz lo hi d d' : Nat} {D : Option Int} (h : segC w st tl sz lo hi d D) (hd : d ≤ d') : segC w st tl sz lo hi d' D := ⟨h.1, fun z e i q M he h1 h2 h3 h4 h5 => h.2 z e i q M he h1 h2 h3 (by omega) h5⟩
theorem bind_as {D : Option Int} {F G : Int → Option Int} : (D.bind F).bind G = D.bind fun x => (F x).bind G := by cases D <;> rfl
theorem cdC_seg {w sz n : Nat} {b st tl : Row} (hw : isLw w) (hsz : sz ≤ 256) : ∀ (f m o p base tgt : Nat), (pz b n f m o p).1 = 0 → o ≤ 6 → cdC b st n f m o p base tgt → base + ln b n f m o p < sz → (m = 0 → segC w st tl sz base (base + ln b n f m o p) (dS o) (dz b tl n f m o p 0)) ∧ (m = 1 → ∀ lo D, segC w st tl sz lo base (dS o) D → segC w st tl sz lo (base + ln b n f m o p) (dS o) (D.bind (dz b tl n f m o p))) ∧ (m = 2 → segC w st tl sz base (base + ln b n f m o p) (dS o - 1) (dz b tl n f m o p 0)) ∧ (m = 3 → ∀ lo D, segC w st tl sz lo base (dS o - 1) D → segC w st tl sz lo (base + ln b n f m o p) (dS o - 1) (D.bind (dz b tl n f m o p))) ∧ (m = 4 → segC w st tl sz base (base + ln b n f m o p) (dS o - 2) (dz b tl n f m o p 0)) ∧ (m = 5 ∨ m = 7 ∨ m = 9 → segC w st tl sz base (base + ln b n f m o p) (dS o + 1) (dz b tl n f m o p 0)) ∧ (m = 6 ∨ m = 8 → tgt = base + ln b n f m o p → rstC w st tl sz base tgt (dS o + 1) (dz b tl n f m o p)) := by
  intro f
  induction f with
  | zero => intro m o p base tgt hp ho hc; exact absurd hc (by simp [cdC])
  | succ f ih =>
    intro m o p base tgt hp ho hc hln
    have hdS : 4 ≤ dS o := by unfold dS; omega
    have hdS2 : o < 6 → dS (o + 1) + 3 = dS o := by intro _; unfold dS; omega
    refine ⟨fun hm => ?_, fun hm => ?_, fun hm => ?_, fun hm => ?_, fun hm => ?_, fun hm => ?_, fun hm => ?_⟩
    · subst hm
      simp only [pz, ln, dz, cdC, if_true] at hp hc hln ⊢
      by_cases h2 : (pz b n f 2 o p).1 = 0
      · rw [if_neg (by intro h; exact h h2)] at hp
        have s2 := (ih 2 o p base 0 h2 ho hc.1 (by omega)).2.2.1 rfl
        have s1 := (ih 1 o _ _ 0 hp ho hc.2 (by omega)).2.1 rfl base _ (segC_mono s2 (by omega))
        rw [Nat.add_assoc] at s1
        exact s1
      · rw [if_pos h2] at hp
        exact absurd hp h2
    · subst hm
      intro lo D hD
      simp only [pz, ln, cdC, Nat.one_ne_zero, if_false, if_true] at hp hc hln ⊢
      by_cases hs : tx b n p = 43 ∨ tx b n p = 45
      · simp only [if_pos hs] at hp hc hln ⊢
        by_cases h2 : (pz b n f 2 o (p + 1)).1 = 0
        · rw [if_neg (by intro h; exact h h2)] at hp
          have s2 := (ih 2 o (p + 1) base 0 h2 ho hc.1 (by omega)).2.2.1 rfl
          have hsg : 2 ≤ sgs (tx b n p) := by rcases hs with h | h <;> rw [h] <;> decide
          have sb := segC_bin (dep := dS o) hw (by omega) hsz hsg (sgs_le _) hc.2.1 hD s2 (Nat.le_refl _) (by omega) (by omega)
          have s1 := (ih 1 o _ _ 0 hp ho hc.2.2 (by omega)).2.1 rfl lo _ sb
          rw [bind_as] at s1
          have e1 : base + (ln b n f 2 o (p + 1) + 1 + ln b n f 1 o (pz b n f 2 o (p + 1)).2) = base + ln b n f 2 o (p + 1) + 1 + ln b n f 1 o (pz b n f 2 o (p + 1)).2 := by omega
          have e2 : dz b tl n (f + 1) 1 o p = fun x => ((dz b tl n f 2 o (p + 1) 0).bind fun y => rck (sgs (tx b n p)) x y).bind (dz b tl n f 1 o (pz b n f 2 o (p + 1)).2) := by
            funext x
            simp only [dz, Nat.one_ne_zero, if_false, if_true, if_pos hs]
          rw [e1, e2]
          exact s1
        · rw [if_pos h2] at hp
          exact absurd hp h2
      · simp only [if_neg hs] at hln ⊢
        have e2 : dz b tl n (f + 1) 1 o p = fun x => some x := by
          funext x
          simp only [dz, Nat.one_ne_zero, if_false, if_true, if_neg hs]
        rw [e2, Nat.add_zero]
        cases D <;> exact hD
    · subst hm
      simp only [pz, ln, dz, cdC, Nat.reduceEqDiff, if_false, if_true] at hp hc hln ⊢
      by_cases h2 : (pz b n f 4 o p).1 = 0
      · rw [if_neg (by intro h; exact h h2)] at hp
        have s2 := (ih 4 o p base 0 h2 ho hc.1 (by omega)).2.2.2.2.1 rfl
        have s1 := (ih 3 o _ _ 0 hp ho hc.2 (by omega)).2.2.2.1 rfl base _ (segC_mono s2 (by omega))
        rw [Nat.add_assoc] at s1
        exact s1
      · rw [if_pos h2] at hp
        exact absurd hp h2
    · subst hm
      intro lo D hD
      simp only [pz, ln, cdC, Nat.reduceEqDiff, if_false, if_true] at hp hc hln ⊢
      by_cases hs : tx b n p = 42 ∨ tx b n p = 47 ∨ tx b n p = 37
      · simp only [if_pos hs] at hp hc hln ⊢
        by_cases h2 : (pz b n f 4 o (p + 1)).1 = 0
        · rw [if_neg (by intro h; exact h h2)] at hp
          have s2 := (ih 4 o (p + 1) base 0 h2 ho hc.1 (by omega)).2.2.2.2.1 rfl
          have hsg : 2 ≤ sgs (tx b n p) := by rcases hs with h | h | h <;> rw [h] <;> decide
          have sb := segC_bin (dep := dS o - 1) hw (by omega) hsz hsg (sgs_le _) hc.2.1 hD s2 (Nat.le_refl _) (by omega) (by omega)
          have s1 := (ih 3 o _ _ 0 hp ho hc.2.2 (by omega)).2.2.2.1 rfl lo _ sb
          rw [bind_as] at s1
          have e1 : base + (ln b n f 4 o (p + 1) + 1 + ln b n f 3 o (pz b n f 4 o (p + 1)).2) = base + ln b n f 4 o (p + 1) + 1 + ln b n f 3 o (pz b n f 4 o (p + 1)).2 := by omega
          have e2 : dz b tl n (f + 1) 3 o p = fun x => ((dz b tl n f 4 o (p + 1) 0).bind fun y => rck (sgs (tx b n p)) x y).bind (dz b tl n f 3 o (pz b n f 4 o (p + 1)).2) := by
            funext x
            simp only [dz, Nat.reduceEqDiff, if_false, if_true, if_pos hs]
          rw [e1, e2]
          exact s1
        · rw [if_pos h2] at hp
          exact absurd hp h2
      · simp only [if_neg hs] at hln ⊢
        have e2 : dz b tl n (f + 1) 3 o p = fun x => some x := by
          funext x
          simp only [dz, Nat.reduceEqDiff, if_false, if_true, if_neg hs]
        rw [e2, Nat.add_zero]
        cases D <;> exact hD
    · subst hm
      simp only [pz, ln, dz, cdC, Nat.reduceEqDiff, if_false, if_true] at hp hc hln ⊢
      by_cases h91 : tx b n p = 91
      · simp only [if_pos h91] at hp hc hln ⊢
        by_cases h6 : 6 ≤ o
        · rw [if_pos h6] at hp
          simp only at hp
          omega
        · rw [if_neg h6] at hp
          by_cases h0 : (pz b n f 0 (o + 1) (p + 1)).1 = 0
          · have s0 := (ih 0 (o + 1) (p + 1) base 0 h0 (by omega) hc hln).1 rfl
            exact segC_mono s0 (by have := hdS2 (by omega); omega)
          · rw [if_pos h0] at hp
            exact absurd hp h0
      · simp only [if_neg h91] at hp hc hln ⊢
        by_cases hg : isg b n p = true
        · simp only [if_pos hg] at hc ⊢
          exact segC_mono (segC_num hw (by omega) hsz (by omega) hc.2) (by omega)
        · simp only [if_neg hg] at hc ⊢
          have := tlx_lt (tx b n p)
          exact segC_mono (segC_told hw (by omega) hsz (by omega) hc.2) (by omega)
    · rcases hm with hm | hm | hm
      · subst hm
        simp only [pz, ln, dz, cdC, Nat.reduceEqDiff, if_false, if_true] at hp hc hln ⊢
        by_cases h2 : (pz b n f 7 o p).1 = 0
        · rw [if_neg (by intro h; exact h h2)] at hp
          have s2 := (ih 7 o p base 0 h2 ho hc.1 (by omega)).2.2.2.2.2.1 (by omega)
          have s1 := (ih 6 o _ _ _ hp ho hc.2 (by omega)).2.2.2.2.2.2 (by omega) rfl
          have := segC_rest hw s2 s1
          rw [Nat.add_assoc] at this
          exact this
        · rw [if_pos h2] at hp
          exact absurd hp h2
      · subst hm
        simp only [pz, ln, dz, cdC, Nat.reduceEqDiff, if_false, if_true] at hp hc hln ⊢
        by_cases h2 : (pz b n f 9 o p).1 = 0
        · rw [if_neg (by intro h; exact h h2)] at hp
          have s2 := (ih 9 o p base 0 h2 ho hc.1 (by omega)).2.2.2.2.2.1 (by omega)
          have s1 := (ih 8 o _ _ _ hp ho hc.2 (by omega)).2.2.2.2.2.2 (by omega) rfl
          have := segC_rest hw s2 s1
          rw [Nat.add_assoc] at this
          exact this
        · rw [if_pos h2] at hp
          exact absurd hp h2
      · subst hm
        simp only [pz, ln, dz, cdC, Nat.reduceEqDiff, if_false, if_true] at hp hc hln ⊢
        by_cases h33 : tx b n p = 33
        · simp only [if_pos h33] at hp hc hln ⊢
          by_cases h6 : 6 ≤ o
          · rw [if_pos h6] at hp
            simp only at hp
            omega
          · rw [if_neg h6] at hp
            have s0 := (ih 9 (o + 1) (p + 1) base 0 hp (by omega) hc.1 (by omega)).2.2.2.2.2.1 (by omega)
            have := segC_not hw (by omega) hsz hc.2 (segC_mono s0 (d' := dS o + 1) (by have := hdS2 (by omega); omega)) (by omega)
            rw [Nat.add_assoc] at this
            exact this
        · simp only [if_neg h33] at hp hc hln ⊢
          by_cases h40 : tx b n p = 40
          · simp only [if_pos h40] at hp hc hln ⊢
            by_cases h6 : 6 ≤ o
            · rw [if_pos h6] at hp
              simp only at hp
              omega
            · rw [if_neg h6] at hp
              by_cases h0 : (pz b n f 5 (o + 1) (p + 1)).1 = 0
              · have s0 := (ih 5 (o + 1) (p + 1) base 0 h0 (by omega) hc hln).2.2.2.2.2.1 (by omega)
                exact segC_mono s0 (by have := hdS2 (by omega); omega)
              · rw [if_pos h0] at hp
                exact absurd hp h0
          · simp only [if_neg h40] at hp hc hln ⊢
            by_cases h0 : (pz b n f 0 o p).1 = 0
            · rw [if_neg (by intro h; exact h h0)] at hp
              by_cases hs : tx b n (pz b n f 0 o p).2 = 60 ∨ tx b n (pz b n f 0 o p).2 = 62 ∨ tx b n (pz b n f 0 o p).2 = 61
              · rw [if_pos hs] at hp
                have s1 := (ih 0 o p base 0 h0 ho hc.1 (by omega)).1 rfl
                have s2 := (ih 0 o _ _ 0 hp ho hc.2.1 (by omega)).1 rfl
                have := segC_bin (dep := dS o + 1) hw (by omega) hsz (by omega) (sgs_le _) hc.2.2.2 s1 s2 (by omega) (by omega) (by omega)
                have e1 : base + (ln b n f 0 o p + ln b n f 0 o ((pz b n f 0 o p).2 + 1) + 1) = base + ln b n f 0 o p + ln b n f 0 o ((pz b n f 0 o p).2 + 1) + 1 := by omega
                rw [e1]
                exact this
              · rw [if_neg hs] at hp
                simp only at hp
                omega
            · rw [if_pos h0] at hp
              exact absurd hp h0
    · intro htg
      rcases hm with hm | hm
      · subst hm
        simp only [pz, ln, cdC, Nat.reduceEqDiff, if_false, if_true] at hp hc hln htg ⊢
        by_cases hs : tx b n p = 124
        · simp only [if_pos hs] at hp hc hln htg ⊢
          by_cases h2 : (pz b n f 7 o (p + 1)).1 = 0
          · rw [if_neg (by intro h; exact h h2)] at hp
            have s2 := (ih 7 o (p + 1) (base + 1) 0 h2 ho hc.2.1 (by omega)).2.2.2.2.2.1 (by omega)
            have s1 := (ih 6 o _ _ tgt hp ho hc.2.2 (by omega)).2.2.2.2.2.2 (by omega) (by omega)
            have := rstC_cons (k := 4) hw (by omega) hsz (Or.inl rfl) (by omega) hc.1 s2 s1 (by omega)
            have e2 : dz b tl n (f + 1) 6 o p = fun x => if (x ≠ 0 ↔ 4 = 4) then some x else (dz b tl n f 7 o (p + 1) 0).bind (dz b tl n f 6 o (pz b n f 7 o (p + 1)).2) := by
              funext x
              simp only [dz, Nat.reduceEqDiff, if_false, if_true, if_pos hs]
            rw [e2]
            exact this
          · rw [if_pos h2] at hp
            exact absurd hp h2
        · simp only [if_neg hs] at htg
          have e2 : dz b tl n (f + 1) 6 o p = fun x => some x := by
            funext x
            simp only [dz, Nat.reduceEqDiff, if_false, if_true, if_neg hs]
          rw [e2, htg, Nat.add_zero]
          exact rstC_nil
      · subst hm
        simp only [pz, ln, cdC, Nat.reduceEqDiff, if_false, if_true] at hp hc hln htg ⊢
        by_cases hs : tx b n p = 38
        · simp only [if_pos hs] at hp hc hln htg ⊢
          by_cases h2 : (pz b n f 9 o (p + 1)).1 = 0
          · rw [if_neg (by intro h; exact h h2)] at hp
            have s2 := (ih 9 o (p + 1) (base + 1) 0 h2 ho hc.2.1 (by omega)).2.2.2.2.2.1 (by omega)
            have s1 := (ih 8 o _ _ tgt hp ho hc.2.2 (by omega)).2.2.2.2.2.2 (by omega) (by omega)
            have := rstC_cons (k := 5) hw (by omega) hsz (Or.inr rfl) (by omega) hc.1 s2 s1 (by omega)
            have e2 : dz b tl n (f + 1) 8 o p = fun x => if (x ≠ 0 ↔ 5 = 4) then some x else (dz b tl n f 9 o (p + 1) 0).bind (dz b tl n f 8 o (pz b n f 9 o (p + 1)).2) := by
              funext x
              simp only [dz, Nat.reduceEqDiff, if_false, if_true, if_pos hs]
            rw [e2]
            exact this
          · rw [if_pos h2] at hp
            exact absurd hp h2
        · simp only [if_neg hs] at htg
          have e2 : dz b tl n (f + 1) 8 o p = fun x => some x := by
            funext x
            simp only [dz, Nat.reduceEqDiff, if_false, if_true, if_neg hs]
          rw [e2, htg, Nat.add_zero]
          exact rstC_nil
