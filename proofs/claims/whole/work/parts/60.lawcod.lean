/-! the reference's codes of a text come to what the text says -/
/-- the reference's codes of a piece of text, from base on; jumps of a rest lead on to tgt -/
def cdR (b st : Row) (n to : Nat) : Nat → Nat → Nat → Nat → Nat → Nat → Prop
  | 0, _, _, _, _, _ => False
  | f + 1, m, o, p, base, tgt =>
    if m = 0 then cdR b st n to f 2 o p base 0 ∧ cdR b st n to f 1 o (pz b n f 2 o p).2 (base + ln b n f 2 o p) 0
    else if m = 1 then (if tx b n p = 43 ∨ tx b n p = 45 then cdR b st n to f 2 o (p + 1) base 0 ∧ st (base + ln b n f 2 o (p + 1)) = ((1048576 * sgs (tx b n p) : Nat) : Int) ∧ cdR b st n to f 1 o (pz b n f 2 o (p + 1)).2 (base + ln b n f 2 o (p + 1) + 1) 0 else True)
    else if m = 2 then cdR b st n to f 4 o p base 0 ∧ cdR b st n to f 3 o (pz b n f 4 o p).2 (base + ln b n f 4 o p) 0
    else if m = 3 then (if tx b n p = 42 ∨ tx b n p = 47 ∨ tx b n p = 37 then cdR b st n to f 4 o (p + 1) base 0 ∧ st (base + ln b n f 4 o (p + 1)) = ((1048576 * sgs (tx b n p) : Nat) : Int) ∧ cdR b st n to f 3 o (pz b n f 4 o (p + 1)).2 (base + ln b n f 4 o (p + 1) + 1) 0 else True)
    else if m = 4 then (if tx b n p = 91 then cdR b st n to f 0 (o + 1) (p + 1) base 0 else if isg b n p = true then dgv b p (dgn b n p) < 100000 ∧ st base = ((dgv b p (dgn b n p) : Nat) : Int) else (0 ≤ tlx (tx b n p) ∧ st base = ((1048576 + (tlx (tx b n p)).toNat : Nat) : Int)))
    else if m = 5 then cdR b st n to f 7 o p base 0 ∧ cdR b st n to f 6 o (pz b n f 7 o p).2 (base + ln b n f 7 o p) (base + ln b n f 7 o p + ln b n f 6 o (pz b n f 7 o p).2)
    else if m = 6 then (if tx b n p = 124 then (∃ tr : Nat, tr < 1048576 ∧ st base = ((1048576 * 12 + tr : Nat) : Int) ∧ thrR st to tr tgt 12) ∧ cdR b st n to f 7 o (p + 1) (base + 1) 0 ∧ cdR b st n to f 6 o (pz b n f 7 o (p + 1)).2 (base + 1 + ln b n f 7 o (p + 1)) tgt else True)
    else if m = 7 then cdR b st n to f 9 o p base 0 ∧ cdR b st n to f 8 o (pz b n f 9 o p).2 (base + ln b n f 9 o p) (base + ln b n f 9 o p + ln b n f 8 o (pz b n f 9 o p).2)
    else if m = 8 then (if tx b n p = 38 then (∃ tr : Nat, tr < 1048576 ∧ st base = ((1048576 * 11 + tr : Nat) : Int) ∧ thrR st to tr tgt 11) ∧ cdR b st n to f 9 o (p + 1) (base + 1) 0 ∧ cdR b st n to f 8 o (pz b n f 9 o (p + 1)).2 (base + 1 + ln b n f 9 o (p + 1)) tgt else True)
    else (if tx b n p = 33 then cdR b st n to f 9 (o + 1) (p + 1) base 0 ∧ st (base + ln b n f 9 (o + 1) (p + 1)) = ((1048576 * 10 : Nat) : Int) else if tx b n p = 40 then cdR b st n to f 5 (o + 1) (p + 1) base 0 else cdR b st n to f 0 o p base 0 ∧ cdR b st n to f 0 o ((pz b n f 0 o p).2 + 1) (base + ln b n f 0 o p) 0 ∧ 7 ≤ sgs (tx b n (pz b n f 0 o p).2) ∧ st (base + ln b n f 0 o p + ln b n f 0 o ((pz b n f 0 o p).2 + 1)) = ((1048576 * sgs (tx b n (pz b n f 0 o p).2) : Nat) : Int))
def is01 (D : Option Int) : Prop := ∀ v, D = some v → v = 0 ∨ v = 1
theorem is01_bind {D : Option Int} {F : Int → Option Int} (h1 : is01 D) (h2 : ∀ x, x = 0 ∨ x = 1 → is01 (F x)) : is01 (D.bind F) := by
  intro v hv
  cases D with
  | none => cases hv
  | some x => exact h2 x (h1 x rfl) v hv
theorem rck01 {t : Nat} {x y : Int} (ht : 7 ≤ t) : is01 (rck t x y) := by
  intro v hv
  unfold rck at hv
  rw [if_neg (by omega), if_neg (by omega), if_neg (by omega), if_neg (by omega), if_neg (by omega)] at hv
  split at hv
  · split at hv <;> (cases hv; simp)
  · split at hv
    · split at hv <;> (cases hv; simp)
    · split at hv <;> (cases hv; simp)
theorem dz01 {b tl : Row} {n : Nat} : ∀ (f m o p : Nat) (x : Int), (pz b n f m o p).1 = 0 → (m = 5 ∨ m = 7 ∨ m = 9 → is01 (dz b tl n f m o p x)) ∧ (m = 6 ∨ m = 8 → x = 0 ∨ x = 1 → is01 (dz b tl n f m o p x)) := by
  intro f
  induction f with
  | zero => intro m o p x _; exact ⟨fun _ v hv => by simp [dz] at hv, fun _ _ v hv => by simp [dz] at hv⟩
  | succ f ih =>
    intro m o p x hp
    have hself : ∀ y : Int, y = 0 ∨ y = 1 → is01 (some y) := by
      intro y hy v hv
      cases hv
      exact hy
    refine ⟨fun hm => ?_, fun hm hx => ?_⟩
    · rcases hm with hm | hm | hm
      · subst hm
        simp only [pz, dz, Nat.reduceEqDiff, if_false, if_true] at hp ⊢
        by_cases h2 : (pz b n f 7 o p).1 = 0
        · rw [if_neg (by intro h; exact h h2)] at hp
          exact is01_bind ((ih 7 o p 0 h2).1 (by omega)) (fun y hy => (ih 6 o _ y hp).2 (by omega) hy)
        · rw [if_pos h2] at hp
          exact absurd hp h2
      · subst hm
        simp only [pz, dz, Nat.reduceEqDiff, if_false, if_true] at hp ⊢
        by_cases h2 : (pz b n f 9 o p).1 = 0
        · rw [if_neg (by intro h; exact h h2)] at hp
          exact is01_bind ((ih 9 o p 0 h2).1 (by omega)) (fun y hy => (ih 8 o _ y hp).2 (by omega) hy)
        · rw [if_pos h2] at hp
          exact absurd hp h2
      · subst hm
        simp only [pz, dz, Nat.reduceEqDiff, if_false, if_true] at hp ⊢
        by_cases h33 : tx b n p = 33
        · simp only [if_pos h33] at hp ⊢
          by_cases h6 : 6 ≤ o
          · rw [if_pos h6] at hp
            simp only at hp
            omega
          · rw [if_neg h6] at hp
            have h9 := (ih 9 (o + 1) (p + 1) 0 hp).1 (by omega)
            intro v hv
            cases hD : dz b tl n f 9 (o + 1) (p + 1) 0 with
            | none => rw [hD] at hv; cases hv
            | some y =>
              rw [hD] at hv
              cases hv
              rcases h9 y hD with h | h <;> subst h <;> decide
        · simp only [if_neg h33] at hp ⊢
          by_cases h40 : tx b n p = 40
          · simp only [if_pos h40] at hp ⊢
            by_cases h6 : 6 ≤ o
            · rw [if_pos h6] at hp
              simp only at hp
              omega
            · rw [if_neg h6] at hp
              by_cases h0 : (pz b n f 5 (o + 1) (p + 1)).1 = 0
              · exact (ih 5 (o + 1) (p + 1) 0 h0).1 (by omega)
              · rw [if_pos h0] at hp
                exact absurd hp h0
          · simp only [if_neg h40] at hp ⊢
            by_cases h0 : (pz b n f 0 o p).1 = 0
            · rw [if_neg (by intro h; exact h h0)] at hp
              by_cases hs : tx b n (pz b n f 0 o p).2 = 60 ∨ tx b n (pz b n f 0 o p).2 = 62 ∨ tx b n (pz b n f 0 o p).2 = 61
              · intro v hv
                have hsg : 7 ≤ sgs (tx b n (pz b n f 0 o p).2) := by rcases hs with h | h | h <;> rw [h] <;> decide
                cases hD : dz b tl n f 0 o p 0 with
                | none => rw [hD] at hv; cases hv
                | some y =>
                  rw [hD] at hv
                  cases hE : dz b tl n f 0 o ((pz b n f 0 o p).2 + 1) 0 with
                  | none => rw [hE] at hv; cases hv
                  | some w =>
                    rw [hE] at hv
                    exact rck01 hsg v hv
              · rw [if_neg hs] at hp
                simp only at hp
                omega
            · rw [if_pos h0] at hp
              exact absurd hp h0
    · rcases hm with hm | hm
      · subst hm
        simp only [pz, dz, Nat.reduceEqDiff, if_false, if_true] at hp ⊢
        by_cases hs : tx b n p = 124
        · simp only [if_pos hs] at hp ⊢
          by_cases h2 : (pz b n f 7 o (p + 1)).1 = 0
          · rw [if_neg (by intro h; exact h h2)] at hp
            split
            · exact hself x hx
            · exact is01_bind ((ih 7 o (p + 1) 0 h2).1 (by omega)) (fun y hy => (ih 6 o _ y hp).2 (by omega) hy)
          · rw [if_pos h2] at hp
            exact absurd hp h2
        · simp only [if_neg hs]
          exact hself x hx
      · subst hm
        simp only [pz, dz, Nat.reduceEqDiff, if_false, if_true] at hp ⊢
        by_cases hs : tx b n p = 38
        · simp only [if_pos hs] at hp ⊢
          by_cases h2 : (pz b n f 9 o (p + 1)).1 = 0
          · rw [if_neg (by intro h; exact h h2)] at hp
            split
            · exact hself x hx
            · exact is01_bind ((ih 9 o (p + 1) 0 h2).1 (by omega)) (fun y hy => (ih 8 o _ y hp).2 (by omega) hy)
          · rw [if_pos h2] at hp
            exact absurd hp h2
        · simp only [if_neg hs]
          exact hself x hx
