/-! the same letters in both: a side's part of a row -/
def pt (g : Row) (b : Nat) (h : Row) (c : Nat) : Prop := ∀ k, k < 12 → g (b + k) = h (c + k)
theorem addN_ne {h : Row} {i j : Nat} {n : Int} (hj : j ≠ i) : addN h i n j = h j := by unfold addN; exact rup_ne hj
theorem addN_at {h : Row} {i : Nat} {n : Int} : addN h i n i = if h i + n < 999 then h i + n else 999 := by unfold addN; exact rup_same
theorem addN_pt {g h : Row} {b c k : Nat} {n : Int} (hp : pt g b h c) (hk : k < 12) : pt (addN g (b + k) n) b (addN h (c + k) n) c := by
  intro j hj
  by_cases e : j = k
  · subst e
    rw [addN_at, addN_at, hp j hj]
  · rw [addN_ne (by omega), addN_ne (by omega)]
    exact hp j hj
theorem rup_pt {g h : Row} {b c k : Nat} {v w : Int} (hp : pt g b h c) (hv : v = w) : pt (rup g (b + k) v) b (rup h (c + k) w) c := by
  intro j hj
  by_cases e : j = k
  · subst e
    rw [rup_same, rup_same, hv]
  · rw [rup_ne (by omega), rup_ne (by omega)]
    exact hp j hj
theorem pt_out {g g' h : Row} {b c : Nat} (hp : pt g b h c) (hg : ∀ k, k < 12 → g' (b + k) = g (b + k)) : pt g' b h c := fun k hk => by rw [hg k hk]; exact hp k hk
theorem pt_out2 {g h h' : Row} {b c : Nat} (hp : pt g b h c) (hg : ∀ k, k < 12 → h' (c + k) = h (c + k)) : pt g b h' c := fun k hk => by rw [hg k hk]; exact hp k hk
theorem homeB_pt {g h : Row} {b c : Nat} {x : Int} (hp : pt g b h c) : ∀ m, pt (homeB g b x m) b (homeB h c x m) c := by
  intro m
  induction m with
  | zero => exact hp
  | succ m ih =>
    unfold homeB
    by_cases hn : 1 ≤ nib x m ∧ nib x m ≤ 12
    · rw [if_pos hn, if_pos hn]
      exact addN_pt ih (by omega)
    · rw [if_neg hn, if_neg hn]
      exact ih
theorem homeB_out {h : Row} {b j : Nat} {x : Int} (hj : j < b ∨ b + 12 ≤ j) : ∀ m, homeB h b x m j = h j := by
  intro m
  induction m with
  | zero => rfl
  | succ m ih =>
    unfold homeB
    by_cases hn : 1 ≤ nib x m ∧ nib x m ≤ 12
    · rw [if_pos hn, addN_ne (by omega)]
      exact ih
    · rw [if_neg hn]
      exact ih
theorem takeB_pt {g h : Row} {b c : Nat} {x : Int} (hp : pt g b h c) : ∀ m, pt (takeB g b x m) b (takeB h c x m) c := by
  intro m
  induction m with
  | zero => exact hp
  | succ m ih =>
    unfold takeB
    by_cases hn : 1 ≤ nib x m ∧ nib x m ≤ 12
    · rw [if_pos hn, if_pos hn]
      exact rup_pt ih (by rw [ih (nib x m - 1) (by omega)])
    · rw [if_neg hn, if_neg hn]
      exact ih
theorem takeB_out {h : Row} {b j : Nat} {x : Int} (hj : j < b ∨ b + 12 ≤ j) : ∀ m, takeB h b x m j = h j := by
  intro m
  induction m with
  | zero => rfl
  | succ m ih =>
    unfold takeB
    by_cases hn : 1 ≤ nib x m ∧ nib x m ≤ 12
    · rw [if_pos hn, rup_ne (by omega)]
      exact ih
    · rw [if_neg hn]
      exact ih
theorem pf_pt {g h : Row} {b c : Nat} {x : Int} (hp : pt g b h c) (k : Nat) : pf x g b k = pf x h c k := by
  unfold pf
  by_cases hn : 1 ≤ nib x k ∧ nib x k ≤ 12
  · rw [hp (nib x k - 1) (by omega)]
  · have : decide (1 ≤ nib x k ∧ nib x k ≤ 12) = false := decide_eq_false hn
    rw [this]
    rfl
theorem cfb_pt {g h : Row} {b c f w : Nat} {x : Int} (hp : pt g b h c) : cfb f w x g b = cfb f w x h c := by
  unfold cfb
  rw [allb_congr (fun k _ => pf_pt hp k)]
theorem takeB_cnt {h : Row} {b y : Nat} {x : Int} (hy : y < 12) : ∀ m, takeB h b x m (b + y) = h (b + y) - ((cnt (fun j => decide (nib x j = y + 1)) m : Nat) : Int) := by
  intro m
  induction m with
  | zero => simp [takeB, cnt]
  | succ m ih =>
    rw [cnt_succ]
    unfold takeB
    by_cases hn : 1 ≤ nib x m ∧ nib x m ≤ 12
    · rw [if_pos hn]
      by_cases e : nib x m = y + 1
      · have e1 : nib x m - 1 = y := by omega
        rw [e1, rup_same, ih, if_pos (by simp [e])]
        omega
      · rw [rup_ne (by omega), ih, if_neg (by simp [e])]
        omega
    · rw [if_neg hn, ih, if_neg (by simp; omega)]
      omega
theorem hr_takeB {h : Row} {b : Nat} {x : Int} (hh : hr h) (ha : allb (pf x h b) 8 = true) : hr (takeB h b x 8) := by
  intro j
  by_cases hj : j < b ∨ b + 12 ≤ j
  · rw [takeB_out hj]; exact hh j
  · obtain ⟨y, rfl⟩ : ∃ y, j = b + y := ⟨j - b, by omega⟩
    have hy : y < 12 := by omega
    rw [takeB_cnt hy]
    have h1 := hh (b + y)
    refine ⟨?_, by omega⟩
    by_cases hc : ∃ k, k < 8 ∧ nib x k = y + 1
    · obtain ⟨k, hk, hn⟩ := hc
      have h2 := (allb_iff _ _).mp ha k hk
      unfold pf at h2
      rw [hn] at h2
      have h3 : decide (1 ≤ y + 1 ∧ y + 1 ≤ 12) = true := decide_eq_true (by omega)
      rw [h3, Bool.not_true, Bool.false_or] at h2
      have h4 := of_decide_eq_true h2
      rw [show y + 1 - 1 = y by omega] at h4
      omega
    · have : cnt (fun j => decide (nib x j = y + 1)) 8 = 0 := by
        have h5 : ∀ n, n ≤ 8 → cnt (fun j => decide (nib x j = y + 1)) n = 0 := by
          intro n
          induction n with
          | zero => intro _; rfl
          | succ n ih =>
            intro hn
            rw [cnt_succ, ih (by omega), if_neg (by simp; intro e; exact hc ⟨n, by omega, e⟩)]
        exact h5 8 (Nat.le_refl _)
      rw [this]
      omega
/-- one word more, one less -/
theorem cnt_point {p q : Nat → Bool} {w : Nat} (hw : p w = true) (hq : q w = false) (h : ∀ k, k ≠ w → p k = q k) : ∀ n, w < n → cnt p n = cnt q n + 1 := by
  intro n hn
  induction n with
  | zero => omega
  | succ n ih =>
    rw [cnt_succ, cnt_succ]
    by_cases e : n = w
    · subst e
      rw [hw, hq, cnt_congr (fun k hk => h k (by omega))]
      simp
    · rw [h n e, ih (by omega)]
      omega
theorem or_bit {f w k : Nat} : (f ||| 2 ^ w).testBit k = (f.testBit k || decide (k = w)) := by
  rw [Nat.testBit_or]
  by_cases e : k = w
  · subst e
    rw [Nat.testBit_two_pow_self]
    simp
  · rw [Nat.testBit_two_pow_of_ne (by omega)]
    simp [e]
theorem cnt_or {f w : Nat} (hw : w < 12) (h : f.testBit w = false) : cnt (f ||| 2 ^ w).testBit 12 = cnt f.testBit 12 + 1 := cnt_point (w := w) (by rw [or_bit]; simp) h (fun k hk => by rw [or_bit]; simp [hk]) 12 hw
theorem cnt_clr {f w : Nat} (hf : f < 4096) (hw : w < 12) (h : f.testBit w = true) : cnt f.testBit 12 = cnt (fclr f w).testBit 12 + 1 := cnt_point (w := w) h (by rw [fclr_bit _ _ _ hf]; simp) (fun k hk => by rw [fclr_bit _ _ _ hf]; simp [hk]) 12 hw
theorem bit_lt {f N k : Nat} (hf : f < 2 ^ N) (h : f.testBit k = true) : k < N := by
  rcases Nat.lt_or_ge k N with h1 | h1
  · exact h1
  · rw [Nat.testBit_lt_two_pow (Nat.lt_of_lt_of_le hf (Nat.pow_le_pow_right (by decide) h1))] at h
    exact absurd h (by decide)
theorem f4096 {f N : Nat} (hf : f < 2 ^ N) (hN : N ≤ 12) : f < 4096 := Nat.lt_of_lt_of_le hf (by have := Nat.pow_le_pow_right (show 0 < 2 by decide) hN; exact this)
theorem or_lt2 {f w N : Nat} (hf : f < 2 ^ N) (hw : w < N) : f ||| 2 ^ w < 2 ^ N := Nat.or_lt_two_pow hf (Nat.pow_lt_pow_right (by decide) hw)
theorem fclr_lt2 {f w N : Nat} (hf : f < 2 ^ N) (hN : N ≤ 12) : fclr f w < 2 ^ N := by
  refine Nat.lt_pow_two_of_testBit _ (fun i hi => ?_)
  rw [fclr_bit _ _ _ (f4096 hf hN)]
  have : f.testBit i = false := Nat.testBit_lt_two_pow (Nat.lt_of_lt_of_le hf (Nat.pow_le_pow_right (by decide) hi))
  rw [this]
  rfl
/-- losses: graves and prisoners -/
def loB (h : Row) (b : Nat) (c : Int) (i : Nat) : Nat → Row
  | 0 => h
  | k + 1 => addN (loB h b c i k) (b + (nib c (i + k) - 1)) 1
theorem hr_loB {h : Row} {b : Nat} {c : Int} {i : Nat} (hh : hr h) (k : Nat) : hr (loB h b c i k) := by
  induction k with
  | zero => exact hh
  | succ k ih => exact hr_addN ih (by omega)
theorem loB_pt {g h : Row} {b c i n : Nat} {x : Int} (hx : isW x n) (hp : pt g b h c) : ∀ m, i + m ≤ n → pt (loB g b x i m) b (loB h c x i m) c := by
  intro m
  induction m with
  | zero => intro _; exact hp
  | succ m ih =>
    intro hm
    have := hx.2.2.1 (i + m) (by omega)
    exact addN_pt (ih (by omega)) (by omega)
theorem loB_out {h : Row} {b j i n : Nat} {x : Int} (hx : isW x n) (hj : j < b ∨ b + 12 ≤ j) : ∀ m, i + m ≤ n → loB h b x i m j = h j := by
  intro m
  induction m with
  | zero => intro _; rfl
  | succ m ih =>
    intro hm
    have := hx.2.2.1 (i + m) (by omega)
    show addN (loB h b x i m) _ 1 j = h j
    rw [addN_ne (by omega)]
    exact ih (by omega)
theorem lsB_res {h : Row} {c : Int} {n ff i j : Nat} (hc : isW c n) (hj : j < 12) : ∀ m, i + m ≤ n → lsB h c ff i m j = h j := by
  intro m
  induction m with
  | zero => intro _; rfl
  | succ m ih =>
    intro hm
    have := hc.2.2.1 (i + m) (by omega)
    show addN (lsB h c ff i m) _ 1 j = h j
    rw [addN_ne (by split <;> omega)]
    exact ih (by omega)
theorem lsB_pri {h : Row} {c : Int} {n ff i : Nat} (hc : isW c n) (hi : i ≤ ff) : ∀ m, i + m ≤ n → pt (lsB h c ff i m) 24 (loB h 24 c i (if i + m ≤ ff then m else ff - i)) 24 := by
  intro m
  induction m with
  | zero => intro _; rw [if_pos (by omega)]; intro k _; rfl
  | succ m ih =>
    intro hm
    have hn := hc.2.2.1 (i + m) (by omega)
    have h0 := ih (by omega)
    by_cases h1 : i + m < ff
    · rw [if_pos (by omega)] at h0 ⊢
      show pt (addN (lsB h c ff i m) ((if i + m < ff then 24 else 12) + (nib c (i + m) - 1)) 1) 24 (addN (loB h 24 c i m) (24 + (nib c (i + m) - 1)) 1) 24
      rw [if_pos h1]
      exact addN_pt h0 (by omega)
    · have e1 : (if i + m ≤ ff then m else ff - i) = ff - i := by split <;> omega
      rw [e1] at h0
      rw [if_neg (by omega)]
      intro k hk
      show addN (lsB h c ff i m) ((if i + m < ff then 24 else 12) + (nib c (i + m) - 1)) 1 (24 + k) = _
      rw [if_neg h1, addN_ne (by omega)]
      exact h0 k hk
theorem lsB_gra {h : Row} {c : Int} {n ff i : Nat} (hc : isW c n) (hi : i ≤ ff) : ∀ m, i + m ≤ n → pt (lsB h c ff i m) 12 (loB h 12 c ff (i + m - ff)) 12 := by
  intro m
  induction m with
  | zero => intro _; rw [show i + 0 - ff = 0 by omega]; intro k _; rfl
  | succ m ih =>
    intro hm
    have hn := hc.2.2.1 (i + m) (by omega)
    have h0 := ih (by omega)
    by_cases h1 : i + m < ff
    · rw [show i + m - ff = 0 by omega] at h0
      rw [show i + (m + 1) - ff = 0 by omega]
      intro k hk
      show addN (lsB h c ff i m) ((if i + m < ff then 24 else 12) + (nib c (i + m) - 1)) 1 (12 + k) = _
      rw [if_pos h1, addN_ne (by omega)]
      exact h0 k hk
    · rw [show i + (m + 1) - ff = (i + m - ff) + 1 by omega]
      show pt (addN (lsB h c ff i m) ((if i + m < ff then 24 else 12) + (nib c (i + m) - 1)) 1) 12 (addN (loB h 12 c ff (i + m - ff)) (12 + (nib c (ff + (i + m - ff)) - 1)) 1) 12
      rw [if_neg h1, show ff + (i + m - ff) = i + m by omega]
      exact addN_pt h0 (by omega)
