/-! against: one word is as good as many -/
theorem cnt_imp {p q : Nat → Bool} : ∀ n, (∀ k, k < n → p k = true → q k = true) → cnt p n ≤ cnt q n := by
  intro n
  induction n with
  | zero => intro _; exact Nat.le_refl _
  | succ n ih =>
    intro h
    have h1 := ih (fun k hk => h k (by omega))
    have h2 := h n (by omega)
    rw [cnt_succ, cnt_succ]
    by_cases hp : p n = true
    · rw [if_pos hp, if_pos (h2 hp)]
      omega
    · rw [if_neg hp]
      omega
def nb1 (N' F' : Nat) (W' : Nat → Int) (r : Row) (c : Int) : Nat := cnt (fun v => F'.testBit v && ahd c (W' v) r) N'
def btT (N : Nat) (W W' : Nat → Int) (r : Row) (T v k : Nat) : Bool := !(allb (fun w => !(T.testBit w && ahd (W w) (W' v) r)) k)
def nbT (N N' F' : Nat) (W W' : Nat → Int) (r : Row) (T : Nat) : Nat := cnt (fun v => F'.testBit v && btT N W W' r T v N) N'
theorem btT_iff {N : Nat} {W W' : Nat → Int} {r : Row} {T v k : Nat} : btT N W W' r T v k = true ↔ ∃ w, w < k ∧ T.testBit w = true ∧ ahd (W w) (W' v) r = true := by
  unfold btT
  have h := allb_iff (fun w => !(T.testBit w && ahd (W w) (W' v) r)) k
  constructor
  · intro hb
    rw [Bool.not_eq_true'] at hb
    apply Classical.byContradiction
    intro hn
    have : allb (fun w => !(T.testBit w && ahd (W w) (W' v) r)) k = true := h.mpr (fun w hw => by
      cases h1 : T.testBit w
      · rfl
      · cases h2 : ahd (W w) (W' v) r
        · rfl
        · exact absurd ⟨w, hw, h1, h2⟩ hn)
    rw [hb] at this
    exact absurd this (by decide)
  · rintro ⟨w, h1, h2, h3⟩
    rw [Bool.not_eq_true']
    cases hq : allb (fun w => !(T.testBit w && ahd (W w) (W' v) r)) k
    · rfl
    · have := h.mp hq w h1
      rw [h2, h3] at this
      exact absurd this (by decide)
theorem ex_min (K : Nat → Int) (p : Nat → Bool) : ∀ n, (∃ w, w < n ∧ p w = true) → ∃ w, w < n ∧ p w = true ∧ ∀ v, v < n → p v = true → K w ≤ K v := by
  intro n
  induction n with
  | zero => rintro ⟨w, h, _⟩; omega
  | succ n ih =>
    rintro ⟨w, hw, hp⟩
    by_cases h : ∃ w, w < n ∧ p w = true
    · obtain ⟨u, u1, u2, u3⟩ := ih h
      by_cases hn : p n = true ∧ K n < K u
      · refine ⟨n, by omega, hn.1, fun v hv hpv => ?_⟩
        by_cases e : v = n
        · subst e; exact Int.le_refl _
        · have := u3 v (by omega) hpv
          omega
      · refine ⟨u, by omega, u2, fun v hv hpv => ?_⟩
        by_cases e : v = n
        · subst e
          apply Int.not_lt.mp
          exact fun hh => hn ⟨hpv, hh⟩
        · exact u3 v (by omega) hpv
    · have e : w = n := by
        apply Classical.byContradiction
        intro hne
        exact h ⟨w, by omega, hp⟩
      subst e
      refine ⟨w, hw, hp, fun v hv hpv => ?_⟩
      by_cases e : v = w
      · subst e; exact Int.le_refl _
      · exact absurd ⟨v, by omega, hpv⟩ h
theorem ex_bit {T N : Nat} (hT : T < 2 ^ N) (h : T ≠ 0) : ∃ w, w < N ∧ T.testBit w = true := by
  apply Classical.byContradiction
  intro hn
  refine h (Nat.eq_of_testBit_eq (fun w => ?_))
  rw [Nat.zero_testBit]
  cases hb : T.testBit w
  · rfl
  · exact absurd ⟨w, bit_lt hT hb, hb⟩ hn
theorem nbT_le {N N' F' T b : Nat} {W W' : Nat → Int} {r : Row} (hT : T < 2 ^ N) (hne : T ≠ 0) (h : ∀ w, w < N → T.testBit w = true → nb1 N' F' W' r (W w) ≤ b) : nbT N N' F' W W' r T ≤ b := by
  obtain ⟨w, w1, w2, w3⟩ := ex_min (fun w => kf (dig (W w) r) 8) (fun w => T.testBit w) N (ex_bit hT hne)
  refine Nat.le_trans (cnt_imp _ (fun v _ hv => ?_)) (h w w1 w2)
  rw [Bool.and_eq_true, btT_iff] at hv
  obtain ⟨hF, u, u1, u2, u3⟩ := hv
  have h1 := w3 u u1 u2
  have h2 := of_decide_eq_true u3
  rw [hF, Bool.true_and]
  exact decide_eq_true (by omega)
theorem nbT_0 {N N' F' : Nat} {W W' : Nat → Int} {r : Row} : nbT N N' F' W W' r 0 = 0 := by
  have h : nbT N N' F' W W' r 0 ≤ cnt (fun _ => false) N' := cnt_imp _ (fun v _ hv => by
    rw [Bool.and_eq_true, btT_iff] at hv
    obtain ⟨_, u, _, u2, _⟩ := hv
    rw [Nat.zero_testBit] at u2
    exact absurd u2 (by decide))
  have h2 := cnt_ext (p := fun _ => false) (n := 0) (N := N') (by omega) (fun _ _ => rfl)
  rw [h2] at h
  exact Nat.le_zero.mp h
theorem nbT_1 {N N' F' k : Nat} {W W' : Nat → Int} {r : Row} (hk : k < N) : nbT N N' F' W W' r (2 ^ k) = nb1 N' F' W' r (W k) := by
  refine cnt_congr (fun v _ => ?_)
  have : btT N W W' r (2 ^ k) v N = ahd (W k) (W' v) r := by
    cases h : ahd (W k) (W' v) r
    · cases hb : btT N W W' r (2 ^ k) v N
      · rfl
      · obtain ⟨w, _, w2, w3⟩ := btT_iff.mp hb
        rw [Nat.testBit_two_pow] at w2
        have := of_decide_eq_true w2
        subst this
        rw [h] at w3
        exact absurd w3 (by decide)
    · exact btT_iff.mpr ⟨k, hk, by rw [Nat.testBit_two_pow]; exact decide_eq_true rfl, h⟩
  rw [this]
/-- the class's choice -/
def agL (p : Nat → Bool) (g : Nat → Nat) : Nat → Nat × Nat
  | 0 => (0, 0)
  | k + 1 => if p k = true ∧ (agL p g k).1 < g k then (g k, 2 ^ k) else agL p g k
theorem agL_ge (p : Nat → Bool) (g : Nat → Nat) : ∀ k w, w < k → p w = true → g w ≤ (agL p g k).1 := by
  intro k
  induction k with
  | zero => intro w h; omega
  | succ k ih =>
    intro w hw hp
    unfold agL
    by_cases h : p k = true ∧ (agL p g k).1 < g k
    · rw [if_pos h]
      by_cases e : w = k
      · subst e; exact Nat.le_refl _
      · have := ih w (by omega) hp
        show g w ≤ g k
        omega
    · rw [if_neg h]
      by_cases e : w = k
      · subst e
        exact Nat.le_of_not_lt (fun q => h ⟨hp, q⟩)
      · exact ih w (by omega) hp
theorem cnt_pow {j : Nat} (hj : j < 12) : cnt (2 ^ j).testBit 12 = 1 := by
  have h := cnt_point (p := (2 ^ j).testBit) (q := (0 : Nat).testBit) (w := j) (by rw [Nat.testBit_two_pow]; exact decide_eq_true rfl) (Nat.zero_testBit j) (fun k hk => by rw [Nat.testBit_two_pow, Nat.zero_testBit]; exact decide_eq_false (fun h => hk h.symm)) 12 hj
  rw [h, cnt_zero]
theorem agL_bits (p : Nat → Bool) (g : Nat → Nat) : ∀ k, k ≤ 12 → cnt (agL p g k).2.testBit 12 ≤ 1 ∧ (agL p g k).2 < 2 ^ k := by
  intro k
  induction k with
  | zero =>
    intro _
    have h0 : (agL p g 0).2 = 0 := rfl
    rw [h0, cnt_zero]
    exact ⟨Nat.zero_le _, Nat.pow_pos (by decide)⟩
  | succ k ih =>
    intro hk
    have h1 := ih (by omega)
    have h2 : 2 ^ k < 2 ^ (k + 1) := Nat.pow_lt_pow_right (by omega) (by omega)
    have hc := cnt_pow (j := k) (by omega)
    unfold agL
    generalize 2 ^ (k + 1) = y at *
    generalize 2 ^ k = x at *
    by_cases h : p k = true ∧ (agL p g k).1 < g k
    · rw [if_pos h]
      dsimp only
      exact ⟨Nat.le_of_eq hc, h2⟩
    · rw [if_neg h]
      exact ⟨h1.1, Nat.lt_trans h1.2 h2⟩
theorem smT_ge {val : Nat → Int} {T w : Nat} (h : ∀ v, 0 ≤ val v) (hb : T.testBit w = true) : ∀ k, w < k → val w ≤ smT val T k := fun k hk => by
  have h1 := smT_s val T w
  rw [if_pos hb] at h1
  have h2 := smT_nn (val := val) (T := T) w (fun v _ => h v)
  have h3 := smT_mono (val := val) (T := T) (k := w + 1) h k (by omega)
  omega
theorem cnt_pos {p : Nat → Bool} {w n : Nat} (hw : w < n) (hp : p w = true) : 1 ≤ cnt p n := by
  have := cnt_lt (p := p) hw hp
  omega
/-- a word of a set that can be formed can be formed alone -/
theorem okT_cfb {N f T w : Nat} {W : Nat → Int} {h : Row} {b : Nat} (hN : N ≤ 12) (hw : w < N) (hT : T.testBit w = true) (hok : okT (fun w => decide (w < N) && !f.testBit w) (fun _ => 0) (fun w => tms (W w) 8) (6 - cnt f.testBit 12) (fun x => h (b + x)) 0 T 12) : cfb f w (W w) h b = true := by
  obtain ⟨h1, h2, h3⟩ := hok
  have hc := cnt_pos (p := T.testBit) (show w < 12 by omega) hT
  have hu := (h2 w (by omega) hT).1
  rw [Bool.and_eq_true] at hu
  unfold cfb
  rw [hu.2, Bool.true_and, decide_eq_true (show cnt f.testBit 12 < 6 by omega), Bool.true_and, allb_iff]
  intro j hj
  unfold pf
  by_cases hn : 1 ≤ nib (W w) j ∧ nib (W w) j ≤ 12
  · have h4 := h3 (nib (W w) j - 1) (by omega)
    have h5 := smT_ge (val := fun w => tms (W w) 8 (nib (W w) j - 1)) (T := T) (w := w) (fun v => (tms_rg (W v) 8 _).1) hT 12 (by omega)
    have h6 : tms (W w) 8 (nib (W w) j - 1) = ((cnt (fun i => decide (nib (W w) i = nib (W w) j)) 8 : Nat) : Int) := by
      unfold tms
      rw [show nib (W w) j - 1 + 1 = nib (W w) j by omega]
    have h7 : tms (W w) 8 (nib (W w) j - 1) ≤ smT (fun v => tms (W v) 8 (nib (W w) j - 1)) T 12 := smT_ge (val := fun v => tms (W v) 8 (nib (W w) j - 1)) (fun v => (tms_rg (W v) 8 _).1) hT 12 (by omega)
    have h8 : smT (fun v => tms (W v) 8 (nib (W w) j - 1)) T 12 ≤ h (b + (nib (W w) j - 1)) := h4
    rw [decide_eq_true (show ((cnt (fun i => decide (nib (W w) i = nib (W w) j)) 8 : Nat) : Int) ≤ h (b + (nib (W w) j - 1)) by omega), Bool.or_true]
  · rw [decide_eq_false hn]
    rfl
theorem cfb_okT {N f k n : Nat} {W : Nat → Int} {h : Row} {b : Nat} (hN : N ≤ 12) (hk : k < N) (hW : isW (W k) n) (hh : hr h) (hc : cfb f k (W k) h b = true) : okT (fun w => decide (w < N) && !f.testBit w) (fun _ => 0) (fun w => tms (W w) 8) (6 - cnt f.testBit 12) (fun x => h (b + x)) 0 (2 ^ k) 12 := by
  unfold cfb at hc
  rw [Bool.and_eq_true, Bool.and_eq_true, allb_iff] at hc
  obtain ⟨h1, h2, h3⟩ := hc
  have h2' := of_decide_eq_true h2
  refine ⟨by rw [cnt_pow (by omega)]; omega, fun w hw ht => ?_, fun x hx => ?_⟩
  · rw [Nat.testBit_two_pow] at ht
    have := of_decide_eq_true ht
    subst this
    exact ⟨by show (decide (_ < N) && !f.testBit _) = true; rw [h1, decide_eq_true hk]; rfl, Nat.zero_and _, fun v _ _ _ => Nat.zero_testBit v⟩
  · have e1 : smT (fun w => tms (W w) 8 x) (2 ^ k) 12 = tms (W k) 8 x := by
      have q1 := smT_high (val := fun w => tms (W w) 8 x) (i := 0) (k := k) (Nat.pow_pos (by decide))
      rw [Nat.add_zero, smT_0 _ (cnt_zero k), Int.zero_add] at q1
      rw [smT_N (N := k + 1) (Nat.pow_lt_pow_right (by omega) (by omega)) 12 (by omega)]
      exact q1
    show smT (fun w => tms (W w) 8 x) (2 ^ k) 12 ≤ h (b + x)
    rw [e1]
    have h0 := (hh (b + x)).1
    by_cases hz : ∃ j, j < 8 ∧ nib (W k) j = x + 1
    · obtain ⟨j, j1, j2⟩ := hz
      have h4 := h3 j j1
      unfold pf at h4
      rw [j2, decide_eq_true (show 1 ≤ x + 1 ∧ x + 1 ≤ 12 by omega)] at h4
      exact of_decide_eq_true h4
    · have : cnt (fun j => decide (nib (W k) j = x + 1)) 8 = 0 := by
        have h5 := cnt_ext (p := fun j => decide (nib (W k) j = x + 1)) (n := 0) (N := 8) (by omega) (fun j _ => by
          apply decide_eq_false
          intro hj
          by_cases h8 : j < 8
          · exact hz ⟨j, h8, hj⟩
          · rw [hW.2.2.2 j (by have := hW.2.1; omega)] at hj
            omega)
        exact h5
      unfold tms
      rw [this]
      exact h0
theorem cnt_two {k T : Nat} (hk : k < 12) (h1 : 2 ^ k < T) (h2 : T < 2 ^ (k + 1)) : 2 ≤ cnt T.testBit 12 := by
  have e : 2 ^ (k + 1) = 2 ^ k + 2 ^ k := by rw [Nat.pow_succ]; omega
  obtain ⟨i, rfl⟩ : ∃ i, T = 2 ^ k + i := ⟨T - 2 ^ k, by omega⟩
  have hi : i < 2 ^ k := by omega
  obtain ⟨w, w1, w2⟩ := ex_bit hi (by omega)
  have hc := cnt_pos (p := i.testBit) (show w < 12 by omega) w2
  have := cnt_point (p := (2 ^ k + i).testBit) (q := i.testBit) (w := k) (by rw [two_bit hi, if_neg (by omega)]; exact decide_eq_true rfl) (by
    cases hb : i.testBit k
    · rfl
    · have := bit_lt hi hb; omega) (fun j hj => by
    rw [two_bit hi]
    by_cases hjk : j < k
    · rw [if_pos hjk]
    · rw [if_neg hjk, decide_eq_false hj]
      cases hb : i.testBit j
      · rfl
      · have := bit_lt hi hb; omega) 12 hk
  omega
