/-! sets that can be formed: the reference -/
theorem tms_s (c : Int) (q x : Nat) : tms c (q + 1) x = tms c q x + (if nib c q = x + 1 then 1 else 0) := by
  unfold tms
  rw [cnt_succ]
  by_cases h : nib c q = x + 1
  · rw [if_pos (decide_eq_true h), if_pos h]
    omega
  · rw [if_neg (by simpa using h), if_neg h]
    omega
theorem tms_mono (c : Int) {q p : Nat} (x : Nat) (h : q ≤ p) : tms c q x ≤ tms c p x := by
  have := cnt_mono (fun j => decide (nib c j = x + 1)) h
  unfold tms
  omega
theorem tms_len {c : Int} {n : Nat} (h : isW c n) (x : Nat) : tms c n x = tms c 8 x := by
  unfold tms
  rw [cnt_ext h.2.1 (fun k hk => by rw [h.2.2.2 k hk]; exact decide_eq_false (by omega))]
theorem t_cbf1 {z : zZ} {e s w T N : Nat} {W : Row} {L : Nat → Nat} {B : Nat → Int} {ρ : Mu} (he : 1 ≤ e) (hs : s < 2) (hx : lexR ρ s N W L) (hw : w < N) (hT : T < 4096) (hb : T.testBit w = true) (hB : ∀ x, x < 12 → 0 ≤ B x ∧ B x ≤ 200) : ∀ (j q : Nat) (h : Row), j + q = L w → (∀ x, x < 12 → h x = B x + tms (W w) q x ∧ h x ≤ ρ 90 (12 * s + x)) → ∃ h', (f_M_canBeFormed_65 z e (s : Int) (T : Int) (w : Int) (q : Int) (zrow ρ 122 h) = f_M_canBeFormed_145 z e (s : Int) (T : Int) (w : Int) (zrow ρ 122 h') ∧ ∀ x, x < 12 → h' x = B x + tms (W w) 8 x ∧ h' x ≤ ρ 90 (12 * s + x)) ∨ (f_M_canBeFormed_65 z e (s : Int) (T : Int) (w : Int) (q : Int) (zrow ρ 122 h) = some (0, zrow ρ 122 h') ∧ ∃ x, x < 12 ∧ ρ 90 (12 * s + x) < B x + tms (W w) 8 x) := by
  obtain ⟨x1, x2, x3⟩ := hx.2.2 w hw
  have n8 := x3.1.2.1
  have h12 := hx.2.1
  intro j
  induction j with
  | zero =>
    intro q h hj hI
    have : q = L w := by omega
    subst this
    refine ⟨h, Or.inl ⟨?_, fun x hx => by rw [← tms_len x3.1 x]; exact hI x hx⟩⟩
    rw [e_M_canBeFormed_65, t_longOf he hs (by omega), zrow_ne (by omega), x2]
    simp -implicitDefEqProofs only [ob]
    rw [cT (by omega)]
  | succ j ih =>
    intro q h hj hI
    have hn := x3.1.2.2.1 q (by omega)
    have hl : ρ 94 (8 * (12 * s + w) + q) = ((nib (W w) q - 1 : Nat) : Int) := by rw [x3.2 q (by omega)]; omega
    obtain ⟨y, hy⟩ : ∃ y, nib (W w) q = y + 1 := ⟨nib (W w) q - 1, by omega⟩
    rw [hy, Nat.add_sub_cancel] at hl
    have hy12 : y < 12 := by omega
    have hI1 := hI y hy12
    have hz94 : zrow ρ 122 h 94 = ρ 94 := zrow_ne (by omega)
    have hz90 : zrow ρ 122 h 90 = ρ 90 := zrow_ne (by omega)
    have hB1 := hB y hy12
    have ht1 := tms_rg (W w) q y
    rw [e_M_canBeFormed_65, t_longOf he hs (by omega), zrow_ne (by omega), x2]
    simp -implicitDefEqProofs only [ob]
    rw [cF (by omega), t_has he (by omega) (by omega)]
    simp -implicitDefEqProofs only [ob]
    rw [hb, bi_t, cF (by decide), t_beginOf he hs (by omega)]
    simp -implicitDefEqProofs only [ob]
    have hz122 : zrow ρ 122 h 122 = h := zrow_same
    have hzu : ∀ v, zup (zrow ρ 122 h) 122 y v = zrow ρ 122 (rup h y v) := fun v => by rw [zupr, zrow_same, zrow_zrow]
    generalize zrow ρ 122 h = M at hz94 hz90 hz122 hzu ⊢
    rw [zwa (by omega), gI_ok (by omega) (by omega), Int.toNat_natCast]
    rw [← hz94] at hl
    simp -implicitDefEqProofs only [hl]
    rw [gI_ok (by omega) (by omega), gI_ok (by omega) (by omega), gI_ok (by omega) (by omega), zi12 (by omega) (by omega), gI_ok (by omega) (by omega), Int.toNat_natCast, Int.toNat_natCast, zup_hit, hz90, hz122, hzu, zw_id (x := h y + 1) (by omega) (by omega)]
    by_cases hc : h y + 1 ≤ ρ 90 (12 * s + y)
    · rw [cT hc, e_M_canBeFormed_139, zwc (by omega)]
      refine ih (q + 1) _ (by omega) (fun x hx => ?_)
      have hIx := hI x hx
      by_cases e1 : x = y
      · subst e1
        rw [rup_same, tms_s, if_pos hy]
        omega
      · rw [rup_ne e1, tms_s, if_neg (by omega)]
        omega
    · rw [cF hc]
      refine ⟨_, Or.inr ⟨rfl, y, hy12, ?_⟩⟩
      have hm := tms_mono (W w) y (show q + 1 ≤ 8 by omega)
      rw [tms_s, if_pos hy] at hm
      omega
theorem smT_s (val : Nat → Int) (T k : Nat) : smT val T (k + 1) = smT val T k + (if T.testBit k = true then val k else 0) := rfl
theorem smT_mono {val : Nat → Int} {T k : Nat} (h : ∀ w, 0 ≤ val w) : ∀ n, k ≤ n → smT val T k ≤ smT val T n := by
  intro n
  induction n with
  | zero => intro hk; have : k = 0 := by omega
            subst this; exact Int.le_refl _
  | succ n ih =>
    intro hk
    by_cases e : k = n + 1
    · subst e; exact Int.le_refl _
    · have h1 := ih (by omega)
      have h2 := h n
      rw [smT_s]
      split <;> omega
theorem smT_le {val : Nat → Int} {T : Nat} {b : Int} (h : ∀ w, 0 ≤ val w ∧ val w ≤ b) : ∀ n : Nat, smT val T n ≤ n * b := by
  intro n
  induction n with
  | zero => show (0 : Int) ≤ ((0 : Nat) : Int) * b; rw [Int.natCast_zero, Int.zero_mul]; exact Int.le_refl _
  | succ n ih =>
    have h2 := h n
    rw [smT_s, Int.natCast_add, Int.add_mul, Int.natCast_one, Int.one_mul]
    split <;> omega
theorem smT_N {val : Nat → Int} {T N : Nat} (hT : T < 2 ^ N) : ∀ n, N ≤ n → smT val T n = smT val T N := by
  intro n
  induction n with
  | zero => intro hk; have : N = 0 := by omega
            subst this; rfl
  | succ n ih =>
    intro hk
    by_cases e : N = n + 1
    · rw [e]
    · rw [smT_s, ih (by omega), if_neg, Int.add_zero]
      intro hb
      have := bit_lt hT hb
      omega
theorem t_cbf2 {z : zZ} {e s T N : Nat} {W : Row} {L : Nat → Nat} {ρ : Mu} (he : 1 ≤ e) (hs : s < 2) (hx : lexR ρ s N W L) (hT : T < 4096) : ∀ (j k : Nat) (h : Row), j + k = N → (∀ x, x < 12 → h x = smT (fun w => tms (W w) 8 x) T k ∧ h x ≤ ρ 90 (12 * s + x)) → ∃ (h' : Row) (b : Bool), f_M_canBeFormed_53 z e (s : Int) (T : Int) (k : Int) (zrow ρ 122 h) = some (bi b, zrow ρ 122 h') ∧ (b = true ↔ ∀ x, x < 12 → smT (fun w => tms (W w) 8 x) T N ≤ ρ 90 (12 * s + x)) := by
  have h12 := hx.2.1
  have hnn : ∀ x w, 0 ≤ tms (W w) 8 x ∧ tms (W w) 8 x ≤ 8 := fun x w => tms_rg (W w) 8 x
  intro j
  induction j with
  | zero =>
    intro k h hj hI
    have : k = N := by omega
    subst this
    refine ⟨h, true, ?_, fun _ x hx => by rw [← (hI x hx).1]; exact (hI x hx).2, fun _ => rfl⟩
    rw [e_M_canBeFormed_53, t_manyOf he hs, zrow_ne (by omega), hx.1]
    simp -implicitDefEqProofs only [ob]
    rw [cT (by omega), bi_t]
  | succ j ih =>
    intro k h hj hI
    obtain ⟨x1, x2, x3⟩ := hx.2.2 k (by omega)
    have h53 : f_M_canBeFormed_53 z e (s : Int) (T : Int) (k : Int) (zrow ρ 122 h) = f_M_canBeFormed_65 z e (s : Int) (T : Int) (k : Int) ((0 : Nat) : Int) (zrow ρ 122 h) := by
      rw [e_M_canBeFormed_53, t_manyOf he hs, zrow_ne (by omega), hx.1]
      simp -implicitDefEqProofs only [ob]
      rw [cF (by omega)]
      rfl
    rw [h53]
    by_cases hb : T.testBit k = true
    · have hB : ∀ x, x < 12 → 0 ≤ smT (fun w => tms (W w) 8 x) T k ∧ smT (fun w => tms (W w) 8 x) T k ≤ 200 := fun x _ => by
        have q1 := smT_nn (val := fun w => tms (W w) 8 x) (T := T) k (fun w _ => (hnn x w).1)
        have q2 := smT_le (val := fun w => tms (W w) 8 x) (T := T) (b := 8) (fun w => hnn x w) k
        omega
      obtain ⟨h', hc | hc⟩ := t_cbf1 (z := z) (e := e) he hs hx (by omega : k < N) hT hb hB (L k) 0 h (by omega) (fun x hx => by have := hI x hx; rw [show tms (W k) 0 x = 0 from rfl]; omega)
      · obtain ⟨q1, q2⟩ := hc
        rw [q1, e_M_canBeFormed_145, zwc (by omega)]
        exact ih (k + 1) h' (by omega) (fun x hx => by rw [smT_s, if_pos hb]; exact q2 x hx)
      · obtain ⟨q1, y, q2, q3⟩ := hc
        rw [q1]
        refine ⟨h', false, rfl, fun hh => absurd hh (by decide), fun hh => ?_⟩
        have h1 := hh y q2
        have h2 := smT_mono (val := fun w => tms (W w) 8 y) (T := T) (k := k + 1) (fun w => (hnn y w).1) N (by omega)
        rw [smT_s, if_pos hb] at h2
        omega
    · have hb' : T.testBit k = false := by simpa using hb
      have h65 : f_M_canBeFormed_65 z e (s : Int) (T : Int) (k : Int) ((0 : Nat) : Int) (zrow ρ 122 h) = f_M_canBeFormed_53 z e (s : Int) (T : Int) ((k + 1 : Nat) : Int) (zrow ρ 122 h) := by
        rw [e_M_canBeFormed_65, t_longOf he hs (by omega), zrow_ne (by omega), x2]
        simp -implicitDefEqProofs only [ob]
        rw [cF (by omega), t_has he (by omega) (by omega)]
        simp -implicitDefEqProofs only [ob]
        rw [hb', bi_f, cT rfl, e_M_canBeFormed_145, zwc (by omega)]
      rw [h65]
      exact ih (k + 1) h (by omega) (fun x hx => by rw [smT_s, hb', if_neg (by decide), Int.add_zero]; exact hI x hx)
theorem t_canBeFormed {z : zZ} {d s N f T : Nat} {W : Row} {L : Nat → Nat} {ρ : Mu} (hd : 2 ≤ d) (hs : s < 2) (hx : lexR ρ s N W L) (hf : ρ 86 (16 + s) = (f : Int)) (h4 : f < 2 ^ N) (h6 : cnt f.testBit 12 ≤ 6) (hT : T < 2 ^ N) (hh : hr (ρ 90)) : ∃ (h' : Row) (b : Bool), mC z d 264 [(2, 86), (0, (s : Int)), (0, (T : Int))] ρ = some (bi b, zrow ρ 122 h') ∧ (b = true ↔ okT (fun w => decide (w < N) && !f.testBit w) (fun _ => 0) (fun w => tms (W w) 8) (6 - cnt f.testBit 12) (fun x => ρ 90 (12 * s + x)) 0 T 12) := by
  obtain ⟨e, rfl, he⟩ := pred_of hd
  have h12 := hx.2.1
  have hf4 := f4096 h4 h12
  have hT4 := f4096 hT h12
  have hle : T &&& f ≤ T := Nat.and_le_left
  have hus : T &&& f = 0 ↔ ∀ w, w < 12 → T.testBit w = true → (decide (w < N) && !f.testBit w) = true := by
    rw [and0]
    constructor
    · intro h w hw ht
      have h1 := h w
      rw [ht, Bool.true_and] at h1
      rw [h1, decide_eq_true (bit_lt hT ht)]
      rfl
    · intro h w
      cases ht : T.testBit w
      · rfl
      · have h1 := h w (by have := bit_lt hT ht; omega) ht
        rw [Bool.and_eq_true] at h1
        have h2 : f.testBit w = false := by simpa using h1.2
        rw [h2]
        rfl
  rw [c_M_canBeFormed, t_fieldOf (by omega) hs, hf]
  simp -implicitDefEqProofs only [ob]
  rw [z_and_nat (by omega) (by omega)]
  by_cases hz : T &&& f = 0
  · rw [nT (by omega), t_bits (by omega) (by omega)]
    simp -implicitDefEqProofs only [ob]
    rw [t_fieldOf (by omega) hs, hf]
    simp -implicitDefEqProofs only [ob]
    rw [t_bits (by omega) (by omega)]
    simp -implicitDefEqProofs only [ob]
    have hc1 := cnt_le T.testBit 12
    have hc2 := cnt_le f.testBit 12
    rw [zwa (by omega)]
    by_cases hc : cnt T.testBit 12 + cnt f.testBit 12 ≤ 6
    · rw [cT (by omega), e_M_canBeFormed_30]
      have H := down (n := 12) (P := fun k => f_M_canBeFormed_32 z e (s : Int) (T : Int) (k : Int) (zrow ρ 122 (fil (ρ 122) 0 k)) = f_M_canBeFormed_53 z e (s : Int) (T : Int) ((0 : Nat) : Int) (zrow ρ 122 (fil (ρ 122) 0 12)))
        (by rw [e_M_canBeFormed_32, cT (by omega)]; rfl)
        (by
          intro k hk ih
          rw [e_M_canBeFormed_32, cF (by omega), gI_ok (by omega) (by omega), Int.toNat_natCast, zupr, zrow_same, zrow_zrow, fil_step, zwc (by omega)]
          exact ih) 0 (by omega)
      rw [fil_0, zrow_id] at H
      simp -implicitDefEqProofs only [Int.natCast_zero] at H
      rw [H]
      obtain ⟨h', b, q1, q2⟩ := t_cbf2 (z := z) (e := e) (by omega) hs hx hT4 N 0 (fil (ρ 122) 0 12) (by omega) (fun x hx => ⟨by unfold fil; rw [if_pos hx]; rfl, by unfold fil; rw [if_pos hx]; exact (hh _).1⟩)
      simp -implicitDefEqProofs only [Int.natCast_zero] at q1
      refine ⟨h', b, q1, q2.trans ⟨fun h => ⟨by omega, fun w hw ht => ⟨hus.mp hz w hw ht, Nat.zero_and _, fun v _ _ _ => Nat.zero_testBit v⟩, fun x hx => by rw [smT_N hT 12 h12]; exact h x hx⟩, fun h x hx => by have := h.2.2 x hx; rw [smT_N hT 12 h12] at this; exact this⟩⟩
    · rw [cF (by omega), e_M_canBeFormed_28]
      refine ⟨ρ 122, false, by rw [zrow_id, bi_f], fun h => absurd h (by decide), fun h => ?_⟩
      have := h.1
      omega
  · rw [nF (by omega), e_M_canBeFormed_28]
    exact ⟨ρ 122, false, by rw [zrow_id, bi_f], fun h => absurd h (by decide), fun h => absurd (hus.mpr (fun w hw ht => (h.2.1 w hw ht).1)) hz⟩
