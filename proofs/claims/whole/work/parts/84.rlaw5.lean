/-! the reference reads a law's text: conditions -/
def JOK (r : Row) (to y tgt t : Nat) : Prop := ∃ tr : Nat, tr < 1048576 ∧ r y = ((1048576 * t + tr : Nat) : Int) ∧ thrR r to tr tgt t
def B9c (μ : Mu) (z : zZ) (e : Nat) (b : Row) (n f : Nat) : Prop := ∀ (o p q s : Nat) (P : List Nat) (st wt : Row) (m : Int), p ≤ n → o + P.length ≤ 6 → (∀ t, t ∈ P → t = 10) → pnd wt s P → wtop wt s ≠ 10 → 7 ≤ wtop wt (s + P.length) → 1 ≤ s → 8 * (n - p) + 4 ≤ f → q + P.length + (n - p) ≤ 210 → s + P.length + (n - p) ≤ 210 → ((pz b n f 9 (o + P.length) p).1 ≠ 0 → RF1 μ (C40 z e (UQ μ st wt (p : Int) (q : Int) ((s + P.length : Nat) : Int) ((o + P.length : Nat) : Int) m)) (pz b n f 9 (o + P.length) p).1) ∧ ((pz b n f 9 (o + P.length) p).1 = 0 → ∃ (st' wt' : Row) (m' : Int), C40 z e (UQ μ st wt (p : Int) (q : Int) ((s + P.length : Nat) : Int) ((o + P.length : Nat) : Int) m) = C92 z e (UQ μ st' wt' (((pz b n f 9 (o + P.length) p).2 : Nat) : Int) ((q + ln b n f 9 (o + P.length) p + P.length : Nat) : Int) (s : Int) (o : Int) m') ∧ (∀ j, j < q → st' j = st j) ∧ (∀ j, j < s → wt' j = wt j) ∧ (∀ i, i < P.length → st' (q + ln b n f 9 (o + P.length) p + i) = ((1048576 * 10 : Nat) : Int)) ∧ ∀ (r : Row) (to : Nat), to ≤ 220 → q + ln b n f 9 (o + P.length) p ≤ to → (∀ j, q ≤ j → j < q + ln b n f 9 (o + P.length) p → r j = st' j) → cdR b r n to f 9 (o + P.length) p q 0)
def B8c (μ : Mu) (z : zZ) (e : Nat) (b : Row) (n f : Nat) : Prop := ∀ (o p q s : Nat) (jn : Option Nat) (st wt : Row) (m : Int), p ≤ n → o ≤ 6 → 8 * (n - p) + 1 ≤ f → q + (n - p) ≤ 210 → s + (n - p) ≤ 210 → 1 ≤ s → wtop wt s ≠ 11 → PJ 11 st wt s q jn → ((pz b n f 8 o p).1 ≠ 0 → RF1 μ (C92 z e (UQ μ st wt (p : Int) (q : Int) ((s + oz jn : Nat) : Int) (o : Int) m)) (pz b n f 8 o p).1) ∧ ((pz b n f 8 o p).1 = 0 → ∃ (st' wt' : Row) (m' : Int) (jn' : Option Nat), C92 z e (UQ μ st wt (p : Int) (q : Int) ((s + oz jn : Nat) : Int) (o : Int) m) = C92 z e (UQ μ st' wt' (((pz b n f 8 o p).2 : Nat) : Int) ((q + ln b n f 8 o p : Nat) : Int) ((s + oz jn' : Nat) : Int) (o : Int) m') ∧ PJ 11 st' wt' s (q + ln b n f 8 o p) jn' ∧ (∀ y, jn' = some y → jn = some y ∨ q ≤ y) ∧ tx b n (pz b n f 8 o p).2 ≠ 38 ∧ (∀ j, j < q → jn ≠ some j → st' j = st j) ∧ (∀ j, j < s → wt' j = wt j) ∧ ∀ (r : Row) (to : Nat), to ≤ 220 → q + ln b n f 8 o p ≤ to → (∀ j, ((q ≤ j ∧ j < q + ln b n f 8 o p) ∨ jn = some j) → jn' ≠ some j → r j = st' j) → (∀ y, jn' = some y → JOK r to y (q + ln b n f 8 o p) 11) → cdR b r n to f 8 o p q (q + ln b n f 8 o p) ∧ ∀ y, jn = some y → JOK r to y (q + ln b n f 8 o p) 11)
def B7c (μ : Mu) (z : zZ) (e : Nat) (b : Row) (n f : Nat) : Prop := ∀ (o p q s : Nat) (st wt : Row) (m : Int), p ≤ n → o ≤ 6 → 8 * (n - p) + 5 ≤ f → q + (n - p) ≤ 210 → s + (n - p) ≤ 210 → 1 ≤ s → wtop wt s ≠ 10 → wtop wt s ≠ 11 → 7 ≤ wtop wt s → ((pz b n f 7 o p).1 ≠ 0 → RF1 μ (C40 z e (UQ μ st wt (p : Int) (q : Int) (s : Int) (o : Int) m)) (pz b n f 7 o p).1) ∧ ((pz b n f 7 o p).1 = 0 → ∃ (st' wt' : Row) (m' : Int) (jn' : Option Nat), C40 z e (UQ μ st wt (p : Int) (q : Int) (s : Int) (o : Int) m) = C92 z e (UQ μ st' wt' (((pz b n f 7 o p).2 : Nat) : Int) ((q + ln b n f 7 o p : Nat) : Int) ((s + oz jn' : Nat) : Int) (o : Int) m') ∧ PJ 11 st' wt' s (q + ln b n f 7 o p) jn' ∧ (∀ y, jn' = some y → q ≤ y) ∧ tx b n (pz b n f 7 o p).2 ≠ 38 ∧ (∀ j, j < q → st' j = st j) ∧ (∀ j, j < s → wt' j = wt j) ∧ ∀ (r : Row) (to : Nat), to ≤ 220 → q + ln b n f 7 o p ≤ to → (∀ j, q ≤ j → j < q + ln b n f 7 o p → jn' ≠ some j → r j = st' j) → (∀ y, jn' = some y → JOK r to y (q + ln b n f 7 o p) 11) → cdR b r n to f 7 o p q 0)
def B6c (μ : Mu) (z : zZ) (e : Nat) (b : Row) (n f : Nat) : Prop := ∀ (o p q s : Nat) (ji jn : Option Nat) (st wt : Row) (m : Int), p ≤ n → o ≤ 6 → 8 * (n - p) + 1 ≤ f → q + (n - p) ≤ 210 → s + (n - p) ≤ 210 → 1 ≤ s → wtop wt s = 13 → PJ 12 st wt s q ji → PJ 11 st wt (s + oz ji) q jn → (∀ y, ji = some y → jn ≠ some y) → tx b n p ≠ 38 → ((pz b n f 6 o p).1 ≠ 0 → RF1 μ (C92 z e (UQ μ st wt (p : Int) (q : Int) ((s + oz ji + oz jn : Nat) : Int) (o : Int) m)) (pz b n f 6 o p).1) ∧ ((pz b n f 6 o p).1 = 0 → ∃ (st' wt' : Row) (m' : Int) (ji' jn' : Option Nat), C92 z e (UQ μ st wt (p : Int) (q : Int) ((s + oz ji + oz jn : Nat) : Int) (o : Int) m) = C92 z e (UQ μ st' wt' (((pz b n f 6 o p).2 : Nat) : Int) ((q + ln b n f 6 o p : Nat) : Int) ((s + oz ji' + oz jn' : Nat) : Int) (o : Int) m') ∧ PJ 12 st' wt' s (q + ln b n f 6 o p) ji' ∧ PJ 11 st' wt' (s + oz ji') (q + ln b n f 6 o p) jn' ∧ (∀ y, ji' = some y → jn' ≠ some y) ∧ (∀ y, ji' = some y → ji = some y ∨ q ≤ y) ∧ (∀ y, jn' = some y → jn = some y ∨ q ≤ y) ∧ tx b n (pz b n f 6 o p).2 ≠ 38 ∧ tx b n (pz b n f 6 o p).2 ≠ 124 ∧ (∀ j, j < q → ji ≠ some j → jn ≠ some j → st' j = st j) ∧ (∀ j, j < s → wt' j = wt j) ∧ ∀ (r : Row) (to : Nat), to ≤ 220 → q + ln b n f 6 o p ≤ to → (∀ j, ((q ≤ j ∧ j < q + ln b n f 6 o p) ∨ ji = some j ∨ jn = some j) → ji' ≠ some j → jn' ≠ some j → r j = st' j) → (∀ y, ji' = some y → JOK r to y (q + ln b n f 6 o p) 12) → (∀ y, jn' = some y → JOK r to y (q + ln b n f 6 o p) 11) → cdR b r n to f 6 o p q (q + ln b n f 6 o p) ∧ (∀ y, ji = some y → JOK r to y (q + ln b n f 6 o p) 12) ∧ ∀ y, jn = some y → JOK r to y q 11)
def B5c (μ : Mu) (z : zZ) (e : Nat) (b : Row) (n f : Nat) : Prop := ∀ (o p q s : Nat) (st wt : Row) (m : Int), p ≤ n → o ≤ 6 → 8 * (n - p) + 6 ≤ f → q + (n - p) ≤ 210 → s + (n - p) ≤ 210 → 1 ≤ s → wtop wt s = 13 → ((pz b n f 5 o p).1 ≠ 0 → RF1 μ (C40 z e (UQ μ st wt (p : Int) (q : Int) (s : Int) (o : Int) m)) (pz b n f 5 o p).1) ∧ ((pz b n f 5 o p).1 = 0 → ∃ (st' wt' : Row) (m' : Int) (ji' jn' : Option Nat), C40 z e (UQ μ st wt (p : Int) (q : Int) (s : Int) (o : Int) m) = C92 z e (UQ μ st' wt' (((pz b n f 5 o p).2 : Nat) : Int) ((q + ln b n f 5 o p : Nat) : Int) ((s + oz ji' + oz jn' : Nat) : Int) (o : Int) m') ∧ PJ 12 st' wt' s (q + ln b n f 5 o p) ji' ∧ PJ 11 st' wt' (s + oz ji') (q + ln b n f 5 o p) jn' ∧ (∀ y, ji' = some y → jn' ≠ some y) ∧ (∀ y, ji' = some y → q ≤ y) ∧ (∀ y, jn' = some y → q ≤ y) ∧ tx b n (pz b n f 5 o p).2 ≠ 38 ∧ tx b n (pz b n f 5 o p).2 ≠ 124 ∧ (∀ j, j < q → st' j = st j) ∧ (∀ j, j < s → wt' j = wt j) ∧ ∀ (r : Row) (to : Nat), to ≤ 220 → q + ln b n f 5 o p ≤ to → (∀ j, q ≤ j → j < q + ln b n f 5 o p → ji' ≠ some j → jn' ≠ some j → r j = st' j) → (∀ y, ji' = some y → JOK r to y (q + ln b n f 5 o p) 12) → (∀ y, jn' = some y → JOK r to y (q + ln b n f 5 o p) 11) → cdR b r n to f 5 o p q 0)
theorem wtop_j {wt wt' : Row} {s t v : Nat} (h : ∀ j, j < s + 1 → wt' j = rup wt s ((1048576 * t + v : Nat) : Int) j) (ht : t < 100) (hv : v < 1048576) : wtop wt' (s + 1) = (t : Int) := wtop_s ht hv (by rw [h s (by omega), rup_same])
theorem b8 {μ : Mu} {z : zZ} {e n f : Nat} {b : Row} (he : 6 ≤ e) (hx : CX μ b n) (h9 : B9c μ z e b n f) (h8 : B8c μ z e b n f) : B8c μ z e b n (f + 1) := by
  intro o p q s jn st wt m hp ho hf hq hs hs1 h11 hj
  have hn := hx.2.1
  by_cases hsg : tx b n p = 38
  · have hpn : p < n := tx_lt hsg (by decide)
    have hl : ln b n (f + 1) 8 o p = 1 + ln b n f 9 o (p + 1) + ln b n f 8 o (pz b n f 9 o (p + 1)).2 := by simp only [ln, Nat.reduceEqDiff, if_false, if_true, if_pos hsg]
    have hcd : ∀ st to t, cdR b st n to (f + 1) 8 o p q t = ((∃ tr : Nat, tr < 1048576 ∧ st q = ((1048576 * 11 + tr : Nat) : Int) ∧ thrR st to tr t 11) ∧ cdR b st n to f 9 o (p + 1) (q + 1) 0 ∧ cdR b st n to f 8 o (pz b n f 9 o (p + 1)).2 (q + 1 + ln b n f 9 o (p + 1)) t) := fun st to t => by simp only [cdR, Nat.reduceEqDiff, if_false, if_true, if_pos hsg]
    have hjq : ∀ y, jn = some y → y < q := fun y hy => (hj y hy).2.1
    rw [C92_amp he hx hp (by omega) (by omega) hsg hj h11]
    have hA := h9 o (p + 1) (q + 1) (s + 1) [] (rup (pat1 st 11 q jn) q ((1048576 * 11 : Nat) : Int)) (rup wt s ((1048576 * 11 + q : Nat) : Int)) m hpn ho (fun t h => by cases h) trivial (by rw [wtop_j (t := 11) (v := q) (fun _ _ => rfl) (by decide) (by omega)]; decide) (by show 7 ≤ wtop _ (s + 1); rw [wtop_j (t := 11) (v := q) (fun _ _ => rfl) (by decide) (by omega)]; decide) (by omega) (by omega) (by show q + 1 + 0 + _ ≤ 210; omega) (by show s + 1 + 0 + _ ≤ 210; omega)
    simp -implicitDefEqProofs only [List.length_nil, Nat.add_zero] at hA
    by_cases hF : (pz b n f 9 o (p + 1)).1 = 0
    · have hz : pz b n (f + 1) 8 o p = pz b n f 8 o (pz b n f 9 o (p + 1)).2 := by
        simp only [pz, Nat.reduceEqDiff, if_false, if_true, if_pos hsg]
        rw [if_neg (by intro h; exact h hF)]
      have zl := pz_ln f 9 o (p + 1) hpn hF
      obtain ⟨st2, wt2, m2, r1, r2, r3, _, r5⟩ := hA.2 hF
      have r1' : C40 z e (UQ μ (rup (pat1 st 11 q jn) q ((1048576 * 11 : Nat) : Int)) (rup wt s ((1048576 * 11 + q : Nat) : Int)) ((p + 1 : Nat) : Int) ((q + 1 : Nat) : Int) ((s + 1 : Nat) : Int) (o : Int) m) = C92 z e (UQ μ st2 wt2 (((pz b n f 9 o (p + 1)).2 : Nat) : Int) ((q + 1 + ln b n f 9 o (p + 1) : Nat) : Int) ((s + oz (some q) : Nat) : Int) (o : Int) m2) := r1
      have hwt : ∀ j, j < s → wt2 j = wt j := fun j hj => by rw [r3 j (by omega), rup_ne (by omega)]
      have hB := h8 o (pz b n f 9 o (p + 1)).2 (q + 1 + ln b n f 9 o (p + 1)) s (some q) st2 wt2 m2 zl.1 ho (by omega) (by omega) (by omega) hs1 (by rw [wtop_congr hwt]; exact h11) (fun y hy => by
        have e1 : q = y := Option.some.inj hy
        subst e1
        exact ⟨by rw [r3 s (by omega), rup_same], by omega, by rw [r2 q (by omega), rup_same]⟩)
      rw [hz, hl, r1']
      refine ⟨hB.1, fun hG => ?_⟩
      obtain ⟨st', wt', m', jn', k1, k2, k3, k4, k5, k6, k7⟩ := hB.2 hG
      have eQ : q + 1 + ln b n f 9 o (p + 1) + ln b n f 8 o (pz b n f 9 o (p + 1)).2 = q + (1 + ln b n f 9 o (p + 1) + ln b n f 8 o (pz b n f 9 o (p + 1)).2) := by omega
      rw [eQ] at k1 k2 k7
      have hjn' : ∀ y, jn' = some y → y = q ∨ q + 1 + ln b n f 9 o (p + 1) ≤ y := fun y hy => by
        rcases k3 y hy with h | h
        · exact Or.inl (Option.some.inj h).symm
        · exact Or.inr h
      have hlow : ∀ j, j < q + 1 → j ≠ q → st' j = pat1 st 11 q jn j := fun j h1 h2 => by
        rw [k5 j (by omega) (fun e => h2 (Option.some.inj e).symm), r2 j h1, rup_ne h2]
      refine ⟨st', wt', m', jn', k1, k2, fun y hy => ?_, k4, fun j h1 h2 => by rw [hlow j (by omega) (by omega), pat1_ne h2], fun j h1 => by rw [k6 j h1, hwt j h1], fun r to ht hto hag hok => ?_⟩
      · rcases hjn' y hy with h | h
        · right; omega
        · right; omega
      · obtain ⟨c1, c2⟩ := k7 r to ht hto (fun j h1 h2 => hag j (by
          rcases h1 with h | h
          · left; omega
          · left; have := Option.some.inj h; omega) h2) hok
        have hq2 := c2 q rfl
        refine ⟨?_, fun y hy => ?_⟩
        · rw [hcd]
          refine ⟨hq2, r5 r to ht (by omega) (fun j h1 h2 => ?_), c1⟩
          rw [hag j (by left; omega) (fun e => by
            rcases hjn' j e with h | h <;> omega), k5 j (by omega) (fun e => by have := Option.some.inj e; omega)]
        · have hyq := hjq y hy
          obtain ⟨tr, t1, t2, t3⟩ := hq2
          refine ⟨q, by omega, ?_, thrR_jump (by omega) ht (Or.inl rfl) t1 t2 t3⟩
          rw [hag y (Or.inr hy) (fun e => by
            rcases hjn' y e with h | h <;> omega), hlow y (by omega) (by omega), hy]
          exact rup_same
    · have hz : pz b n (f + 1) 8 o p = pz b n f 9 o (p + 1) := by
        simp only [pz, Nat.reduceEqDiff, if_false, if_true, if_pos hsg]
        rw [if_pos hF]
      rw [hz]
      exact ⟨fun _ => hA.1 hF, fun h => absurd h hF⟩
  · have hz : pz b n (f + 1) 8 o p = (0, p) := by simp only [pz, Nat.reduceEqDiff, if_false, if_true, if_neg hsg]
    have hl : ln b n (f + 1) 8 o p = 0 := by simp only [ln, Nat.reduceEqDiff, if_false, if_true, if_neg hsg]
    rw [hz, hl]
    refine ⟨fun h => absurd rfl h, fun _ => ⟨st, wt, m, jn, rfl, hj, fun y hy => Or.inl hy, hsg, fun _ _ _ => rfl, fun _ _ => rfl, fun r to ht hto hag hok => ⟨?_, hok⟩⟩⟩
    simp only [cdR, Nat.reduceEqDiff, if_false, if_true, if_neg hsg]
theorem b7 {μ : Mu} {z : zZ} {e n f : Nat} {b : Row} (hx : CX μ b n) (h9 : B9c μ z e b n f) (h8 : B8c μ z e b n f) : B7c μ z e b n (f + 1) := by
  intro o p q s st wt m hp ho hf hq hs hs1 h10 h11 h7
  have hn := hx.2.1
  have hl : ln b n (f + 1) 7 o p = ln b n f 9 o p + ln b n f 8 o (pz b n f 9 o p).2 := by simp only [ln, Nat.reduceEqDiff, if_false, if_true]
  have hcd : ∀ st to, cdR b st n to (f + 1) 7 o p q 0 = (cdR b st n to f 9 o p q 0 ∧ cdR b st n to f 8 o (pz b n f 9 o p).2 (q + ln b n f 9 o p) (q + ln b n f 9 o p + ln b n f 8 o (pz b n f 9 o p).2)) := fun st to => by simp only [cdR, Nat.reduceEqDiff, if_false, if_true]
  have hA := h9 o p q s [] st wt m hp ho (fun t h => by cases h) trivial h10 h7 hs1 (by omega) (by show q + 0 + _ ≤ 210; omega) (by show s + 0 + _ ≤ 210; omega)
  simp -implicitDefEqProofs only [List.length_nil, Nat.add_zero] at hA
  by_cases hF : (pz b n f 9 o p).1 = 0
  · have hz : pz b n (f + 1) 7 o p = pz b n f 8 o (pz b n f 9 o p).2 := by
      simp only [pz, Nat.reduceEqDiff, if_false, if_true]
      rw [if_neg (by intro h; exact h hF)]
    have zl := pz_ln f 9 o p hp hF
    obtain ⟨st2, wt2, m2, r1, r2, r3, _, r5⟩ := hA.2 hF
    have r1' : C40 z e (UQ μ st wt (p : Int) (q : Int) (s : Int) (o : Int) m) = C92 z e (UQ μ st2 wt2 (((pz b n f 9 o p).2 : Nat) : Int) ((q + ln b n f 9 o p : Nat) : Int) ((s + oz none : Nat) : Int) (o : Int) m2) := r1
    have hB := h8 o (pz b n f 9 o p).2 (q + ln b n f 9 o p) s none st2 wt2 m2 zl.1 ho (by omega) (by omega) (by omega) hs1 (by rw [wtop_congr r3]; exact h11) (fun y hy => by cases hy)
    rw [hz, hl, r1']
    refine ⟨hB.1, fun hG => ?_⟩
    obtain ⟨st', wt', m', jn', k1, k2, k3, k4, k5, k6, k7⟩ := hB.2 hG
    rw [Nat.add_assoc] at k1 k2 k7
    have hjn' : ∀ y, jn' = some y → q + ln b n f 9 o p ≤ y := fun y hy => by
      rcases k3 y hy with h | h
      · cases h
      · exact h
    have hlow : ∀ j, j < q + ln b n f 9 o p → st' j = st2 j := fun j h1 => k5 j h1 (fun h => by cases h)
    refine ⟨st', wt', m', jn', k1, k2, fun y hy => by have := hjn' y hy; omega, k4, fun j h1 => by rw [hlow j (by omega), r2 j h1], fun j h1 => by rw [k6 j h1, r3 j h1], fun r to ht hto hag hok => ?_⟩
    obtain ⟨c1, c2⟩ := k7 r to ht hto (fun j h1 h2 => hag j (by
      rcases h1 with h | h
      · omega
      · cases h) (by
      rcases h1 with h | h
      · omega
      · cases h) h2) hok
    rw [hcd, Nat.add_assoc]
    refine ⟨r5 r to ht (by omega) (fun j h1 h2 => ?_), c1⟩
    rw [hag j h1 (by omega) (fun e => by have := hjn' j e; omega), hlow j h2]
  · have hz : pz b n (f + 1) 7 o p = pz b n f 9 o p := by
      simp only [pz, Nat.reduceEqDiff, if_false, if_true]
      rw [if_pos hF]
    rw [hz]
    exact ⟨fun _ => hA.1 hF, fun h => absurd h hF⟩
theorem b6 {μ : Mu} {z : zZ} {e n f : Nat} {b : Row} (he : 6 ≤ e) (hx : CX μ b n) (h7 : B7c μ z e b n f) (h6 : B6c μ z e b n f) : B6c μ z e b n (f + 1) := by
  intro o p q s ji jn st wt m hp ho hf hq hs hs1 h13 hi hj hij h38
  have hn := hx.2.1
  have hjq : ∀ y, jn = some y → y < q := fun y hy => (hj y hy).2.1
  have hiq : ∀ y, ji = some y → y < q := fun y hy => (hi y hy).2.1
  by_cases hsg : tx b n p = 124
  · have hpn : p < n := tx_lt hsg (by decide)
    have hl : ln b n (f + 1) 6 o p = 1 + ln b n f 7 o (p + 1) + ln b n f 6 o (pz b n f 7 o (p + 1)).2 := by simp only [ln, Nat.reduceEqDiff, if_false, if_true, if_pos hsg]
    have hcd : ∀ st to t, cdR b st n to (f + 1) 6 o p q t = ((∃ tr : Nat, tr < 1048576 ∧ st q = ((1048576 * 12 + tr : Nat) : Int) ∧ thrR st to tr t 12) ∧ cdR b st n to f 7 o (p + 1) (q + 1) 0 ∧ cdR b st n to f 6 o (pz b n f 7 o (p + 1)).2 (q + 1 + ln b n f 7 o (p + 1)) t) := fun st to t => by simp only [cdR, Nat.reduceEqDiff, if_false, if_true, if_pos hsg]
    rw [C92_bar he hx hp (by omega) (by omega) hsg hi hj hij (by omega) (by omega)]
    have hw12 : wtop (rup wt s ((1048576 * 12 + q : Nat) : Int)) (s + 1) = 12 := wtop_j (t := 12) (v := q) (fun _ _ => rfl) (by decide) (by omega)
    have hA := h7 o (p + 1) (q + 1) (s + 1) (rup (pat1 (pat1 st 11 q jn) 12 q ji) q ((1048576 * 12 : Nat) : Int)) (rup wt s ((1048576 * 12 + q : Nat) : Int)) m hpn ho (by omega) (by omega) (by omega) (by omega) (by omega) (by omega) (by omega)
    by_cases hF : (pz b n f 7 o (p + 1)).1 = 0
    · have hz : pz b n (f + 1) 6 o p = pz b n f 6 o (pz b n f 7 o (p + 1)).2 := by
        simp only [pz, Nat.reduceEqDiff, if_false, if_true, if_pos hsg]
        rw [if_neg (by intro h; exact h hF)]
      have zl := pz_ln f 7 o (p + 1) hpn hF
      obtain ⟨st2, wt2, m2, jn2, r1, r2, r3, r4, r5, r6, r7⟩ := hA.2 hF
      have r1' : C40 z e (UQ μ (rup (pat1 (pat1 st 11 q jn) 12 q ji) q ((1048576 * 12 : Nat) : Int)) (rup wt s ((1048576 * 12 + q : Nat) : Int)) ((p + 1 : Nat) : Int) ((q + 1 : Nat) : Int) ((s + 1 : Nat) : Int) (o : Int) m) = C92 z e (UQ μ st2 wt2 (((pz b n f 7 o (p + 1)).2 : Nat) : Int) ((q + 1 + ln b n f 7 o (p + 1) : Nat) : Int) ((s + oz (some q) + oz jn2 : Nat) : Int) (o : Int) m2) := r1
      have hwt : ∀ j, j < s → wt2 j = wt j := fun j hj => by rw [r6 j (by omega), rup_ne (by omega)]
      have hB := h6 o (pz b n f 7 o (p + 1)).2 (q + 1 + ln b n f 7 o (p + 1)) s (some q) jn2 st2 wt2 m2 zl.1 ho (by omega) (by omega) (by omega) hs1 (by rw [wtop_congr hwt]; exact h13) (fun y hy => by
        have e1 : q = y := Option.some.inj hy
        subst e1
        exact ⟨by rw [r6 s (by omega), rup_same], by omega, by rw [r5 q (by omega), rup_same]⟩) r2 (fun y hy hy2 => by
        have e1 : q = y := Option.some.inj hy
        have := r3 y hy2
        omega) r4
      rw [hz, hl, r1']
      refine ⟨hB.1, fun hG => ?_⟩
      obtain ⟨st', wt', m', ji', jn', k1, k2, k3, k4, k5, k6, k7, k8, k9, k10, k11⟩ := hB.2 hG
      have eQ : q + 1 + ln b n f 7 o (p + 1) + ln b n f 6 o (pz b n f 7 o (p + 1)).2 = q + (1 + ln b n f 7 o (p + 1) + ln b n f 6 o (pz b n f 7 o (p + 1)).2) := by omega
      rw [eQ] at k1 k2 k3 k11
      have hji' : ∀ y, ji' = some y → y = q ∨ q + 1 + ln b n f 7 o (p + 1) ≤ y := fun y hy => by
        rcases k5 y hy with h | h
        · exact Or.inl (Option.some.inj h).symm
        · exact Or.inr h
      have hjn2 : ∀ y, jn2 = some y → q + 1 ≤ y ∧ y < q + 1 + ln b n f 7 o (p + 1) := fun y hy => ⟨r3 y hy, (r2 y hy).2.1⟩
      have hjn' : ∀ y, jn' = some y → jn2 = some y ∨ q + 1 + ln b n f 7 o (p + 1) ≤ y := k6
      have hlow : ∀ j, j < q → st' j = pat1 (pat1 st 11 q jn) 12 q ji j := fun j h1 => by
        rw [k9 j (by omega) (fun e => by have := Option.some.inj e; omega) (fun e => by have := hjn2 j e; omega), r5 j (by omega), rup_ne (by omega)]
      refine ⟨st', wt', m', ji', jn', k1, k2, k3, k4, fun y hy => ?_, fun y hy => ?_, k7, k8, fun j h1 h2 h3 => by rw [hlow j h1, pat1_ne h2, pat1_ne h3], fun j h1 => by rw [k10 j h1, hwt j h1], fun r to ht hto hag hok1 hok2 => ?_⟩
      · right
        rcases hji' y hy with h | h <;> omega
      · right
        rcases hjn' y hy with h | h
        · have := hjn2 y h; omega
        · omega
      · obtain ⟨c1, c2, c3⟩ := k11 r to ht hto (fun j h1 h2 h3 => hag j (by
          rcases h1 with h | h | h
          · left; omega
          · left; have := Option.some.inj h; omega
          · left; have := hjn2 j h; omega) h2 h3) hok1 hok2
        have hq2 := c2 q rfl
        have hnot : ∀ y, y < q → ji' ≠ some y ∧ jn' ≠ some y := fun y hy => ⟨fun e => by rcases hji' y e with h | h <;> omega, fun e => by
          rcases hjn' y e with h | h
          · have := hjn2 y h; omega
          · omega⟩
        refine ⟨?_, fun y hy => ?_, fun y hy => ?_⟩
        · rw [hcd]
          refine ⟨hq2, r7 r to ht (by omega) (fun j h1 h2 h3 => ?_) c3, c1⟩
          rw [hag j (by left; omega) (fun e => by rcases hji' j e with h | h <;> omega) (fun e => by
            rcases hjn' j e with h | h
            · exact h3 h
            · omega), k9 j (by omega) (fun e => by have := Option.some.inj e; omega) h3]
        · have hyq := hiq y hy
          obtain ⟨tr, t1, t2, t3⟩ := hq2
          refine ⟨q, by omega, ?_, thrR_jump (by omega) ht (Or.inr rfl) t1 t2 t3⟩
          rw [hag y (Or.inr (Or.inl hy)) (hnot y hyq).1 (hnot y hyq).2, hlow y hyq, hy]
          exact rup_same
        · have hyq := hjq y hy
          refine ⟨q, by omega, ?_, thrR_here⟩
          rw [hag y (Or.inr (Or.inr hy)) (hnot y hyq).1 (hnot y hyq).2, hlow y hyq, pat1_ne (fun e => hij y e hy), hy]
          exact rup_same
    · have hz : pz b n (f + 1) 6 o p = pz b n f 7 o (p + 1) := by
        simp only [pz, Nat.reduceEqDiff, if_false, if_true, if_pos hsg]
        rw [if_pos hF]
      rw [hz]
      exact ⟨fun _ => hA.1 hF, fun h => absurd h hF⟩
  · have hz : pz b n (f + 1) 6 o p = (0, p) := by simp only [pz, Nat.reduceEqDiff, if_false, if_true, if_neg hsg]
    have hl : ln b n (f + 1) 6 o p = 0 := by simp only [ln, Nat.reduceEqDiff, if_false, if_true, if_neg hsg]
    rw [hz, hl]
    refine ⟨fun h => absurd rfl h, fun _ => ⟨st, wt, m, ji, jn, rfl, hi, hj, hij, fun y hy => Or.inl hy, fun y hy => Or.inl hy, h38, hsg, fun _ _ _ _ => rfl, fun _ _ => rfl, fun r to ht hto hag hok1 hok2 => ⟨?_, hok1, hok2⟩⟩⟩
    simp only [cdR, Nat.reduceEqDiff, if_false, if_true, if_neg hsg]
theorem b5 {μ : Mu} {z : zZ} {e n f : Nat} {b : Row} (hx : CX μ b n) (h7 : B7c μ z e b n f) (h6 : B6c μ z e b n f) : B5c μ z e b n (f + 1) := by
  intro o p q s st wt m hp ho hf hq hs hs1 h13
  have hn := hx.2.1
  have hl : ln b n (f + 1) 5 o p = ln b n f 7 o p + ln b n f 6 o (pz b n f 7 o p).2 := by simp only [ln, Nat.reduceEqDiff, if_false, if_true]
  have hcd : ∀ st to, cdR b st n to (f + 1) 5 o p q 0 = (cdR b st n to f 7 o p q 0 ∧ cdR b st n to f 6 o (pz b n f 7 o p).2 (q + ln b n f 7 o p) (q + ln b n f 7 o p + ln b n f 6 o (pz b n f 7 o p).2)) := fun st to => by simp only [cdR, Nat.reduceEqDiff, if_false, if_true]
  have hA := h7 o p q s st wt m hp ho (by omega) hq hs hs1 (by omega) (by omega) (by omega)
  by_cases hF : (pz b n f 7 o p).1 = 0
  · have hz : pz b n (f + 1) 5 o p = pz b n f 6 o (pz b n f 7 o p).2 := by
      simp only [pz, Nat.reduceEqDiff, if_false, if_true]
      rw [if_neg (by intro h; exact h hF)]
    have zl := pz_ln f 7 o p hp hF
    obtain ⟨st2, wt2, m2, jn2, r1, r2, r3, r4, r5, r6, r7⟩ := hA.2 hF
    have r1' : C40 z e (UQ μ st wt (p : Int) (q : Int) (s : Int) (o : Int) m) = C92 z e (UQ μ st2 wt2 (((pz b n f 7 o p).2 : Nat) : Int) ((q + ln b n f 7 o p : Nat) : Int) ((s + oz none + oz jn2 : Nat) : Int) (o : Int) m2) := r1
    have hB := h6 o (pz b n f 7 o p).2 (q + ln b n f 7 o p) s none jn2 st2 wt2 m2 zl.1 ho (by omega) (by omega) (by omega) hs1 (by rw [wtop_congr r6]; exact h13) (fun y hy => by cases hy) r2 (fun y hy => by cases hy) r4
    rw [hz, hl, r1']
    refine ⟨hB.1, fun hG => ?_⟩
    obtain ⟨st', wt', m', ji', jn', k1, k2, k3, k4, k5, k6, k7, k8, k9, k10, k11⟩ := hB.2 hG
    have eQ : q + ln b n f 7 o p + ln b n f 6 o (pz b n f 7 o p).2 = q + (ln b n f 7 o p + ln b n f 6 o (pz b n f 7 o p).2) := by omega
    rw [eQ] at k1 k2 k3 k11
    have hji' : ∀ y, ji' = some y → q + ln b n f 7 o p ≤ y := fun y hy => by
      rcases k5 y hy with h | h
      · cases h
      · exact h
    have hjn2 : ∀ y, jn2 = some y → q ≤ y ∧ y < q + ln b n f 7 o p := fun y hy => ⟨r3 y hy, (r2 y hy).2.1⟩
    refine ⟨st', wt', m', ji', jn', k1, k2, k3, k4, fun y hy => by have := hji' y hy; omega, fun y hy => ?_, k7, k8, fun j h1 => by rw [k9 j (by omega) (fun e => by cases e) (fun e => by have := hjn2 j e; omega), r5 j h1], fun j h1 => by rw [k10 j h1, r6 j h1], fun r to ht hto hag hok1 hok2 => ?_⟩
    · rcases k6 y hy with h | h
      · exact (hjn2 y h).1
      · omega
    · obtain ⟨c1, c2, c3⟩ := k11 r to ht hto (fun j h1 h2 h3 => hag j (by
        rcases h1 with h | h | h
        · omega
        · cases h
        · have := hjn2 j h; omega) (by
        rcases h1 with h | h | h
        · omega
        · cases h
        · have := hjn2 j h; omega) h2 h3) hok1 hok2
      rw [hcd, eQ]
      refine ⟨r7 r to ht (by omega) (fun j h1 h2 h3 => ?_) c3, c1⟩
      rw [hag j h1 (by omega) (fun e => by have := hji' j e; omega) (fun e => by
        rcases k6 j e with h | h
        · exact h3 h
        · omega), k9 j h2 (fun e => by cases e) h3]
  · have hz : pz b n (f + 1) 5 o p = pz b n f 7 o p := by
      simp only [pz, Nat.reduceEqDiff, if_false, if_true]
      rw [if_pos hF]
    rw [hz]
    exact ⟨fun _ => hA.1 hF, fun h => absurd h hF⟩
