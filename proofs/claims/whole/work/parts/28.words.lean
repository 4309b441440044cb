/-! the class's words and small tests -/
def bi (b : Bool) : Int := if b then 1 else 0
theorem bi01 (b : Bool) : bi b = 0 ∨ bi b = 1 := by cases b <;> simp [bi]
theorem g01b {b : Bool} {A : mR} : g01 (bi b) A = A := g01_ok (bi01 b)
theorem g01_0 {A : mR} : g01 0 A = A := g01_ok (Or.inl rfl)
theorem g01_1 {A : mR} : g01 1 A = A := g01_ok (Or.inr rfl)
theorem cB {α : Type} {b : Bool} {x y : α} : (bif decide (bi b = 0) then x else y) = bif b then y else x := by cases b <;> simp [bi]
theorem nB {α : Type} {b : Bool} {x y : α} : (bif !decide (bi b = 0) then x else y) = bif b then x else y := by cases b <;> simp [bi]
theorem bi_t : bi true = 1 := rfl
theorem bi_f : bi false = 0 := rfl
theorem bi_dt {p : Prop} [Decidable p] (h : p) : bi (decide p) = 1 := by simp [bi, h]
theorem bi_df {p : Prop} [Decidable p] (h : ¬ p) : bi (decide p) = 0 := by simp [bi, h]
def letc (c k : Int) : Int := if 0 ≤ k ∧ k < 8 then (nib c k.toNat : Int) - 1 else -1
theorem letc_nat {c : Int} {k : Nat} (h : k < 8) : letc c (k : Int) = (nib c k : Int) - 1 := by
  unfold letc
  rw [if_pos (by omega), tn rfl]
theorem letc_out {c k : Int} (h : ¬ (0 ≤ k ∧ k < 8)) : letc c k = -1 := by
  unfold letc
  rw [if_neg h]
theorem letc_rg (c k : Int) : -1 ≤ letc c k ∧ letc c k < 15 := by
  unfold letc
  have := nib_lt c k.toNat
  split <;> omega
theorem s_letterAt {z : zZ} {d : Nat} {c k : Int} {μ : Mu} (hd : 1 ≤ d) : mC z d 41 [(0, c), (0, k)] μ = some (letc c k, μ) := by
  obtain ⟨e, rfl, he⟩ := pred_of hd
  rw [c_Wrd_letterAt]
  by_cases h : 0 ≤ k ∧ k < 8
  · have h1 : zw (4 * k) = ((4 * k.toNat : Nat) : Int) := by rw [zw_id (by omega) (by omega)]; omega
    have h2 := nib_lt c k.toNat
    rw [cF (by omega), cF (by omega), e_Wrd_letterAt_24, h1, z_nib (by omega), zw_id (by omega) (by omega)]
    unfold letc
    rw [if_pos h]
  · rw [letc_out h]
    by_cases h1 : k < 0
    · rw [cT h1, e_Wrd_letterAt_23, e_Wrd_letterAt_24]
    · rw [cF h1, cT (by omega), e_Wrd_letterAt_23, e_Wrd_letterAt_24]
theorem s_isLetter {z : zZ} {d : Nat} {l : Int} {μ : Mu} (hd : 1 ≤ d) : mC z d 13 [(0, l)] μ = some (bi (decide (0 ≤ l ∧ l < 12)), μ) := by
  obtain ⟨e, rfl, he⟩ := pred_of hd
  rw [c_W_isLetter]
  by_cases h : 0 ≤ l ∧ l < 12
  · rw [cF (by omega), cF (by omega), e_W_isLetter_15, g01_1, bi_dt h]
  · rw [bi_df h]
    by_cases h1 : l < 0
    · rw [cT h1, e_W_isLetter_14, e_W_isLetter_15, g01_0]
    · rw [cF h1, cT (by omega), e_W_isLetter_14, e_W_isLetter_15, g01_0]
theorem s_isSide {z : zZ} {d : Nat} {l : Int} {μ : Mu} (hd : 1 ≤ d) : mC z d 15 [(0, l)] μ = some (bi (decide (l = 0 ∨ l = 1)), μ) := by
  obtain ⟨e, rfl, he⟩ := pred_of hd
  rw [c_W_isSide]
  by_cases h : l = 0
  · rw [cT h, e_W_isSide_9, e_W_isSide_14, g01_1, bi_dt (Or.inl h)]
  · by_cases h1 : l = 1
    · rw [cF h, nT h1, e_W_isSide_9, e_W_isSide_14, g01_1, bi_dt (Or.inr h1)]
    · rw [cF h, nF h1, e_W_isSide_14, g01_0, bi_df (by omega)]
theorem s_has {z : zZ} {d x k : Nat} {μ : Mu} (hd : 1 ≤ d) (hx : x < 2147483648) (hk : k < 32) : mC z d 23 [(0, (x : Int)), (0, (k : Int))] μ = some (bi (x.testBit k), μ) := by
  obtain ⟨e, rfl, he⟩ := pred_of hd
  rw [c_W_has, z_bit hx hk]
  cases h : x.testBit k
  · rw [if_neg (by decide), cT rfl, e_W_has_13, g01_0, bi_f]
  · rw [if_pos rfl, cF (by decide), e_W_has_13, g01_1, bi_t]
/-- a word of n letters -/
def isW (c : Int) (n : Nat) : Prop := rg c ∧ n ≤ 8 ∧ (∀ k, k < n → 1 ≤ nib c k ∧ nib c k ≤ 12) ∧ ∀ k, n ≤ k → nib c k = 0
theorem isW_len {c : Int} {n m : Nat} (h1 : isW c n) (h2 : isW c m) : n = m := by
  apply Nat.le_antisymm
  · apply Nat.le_of_not_lt
    intro h
    have a := h2.2.2.2 m (Nat.le_refl _)
    have b := (h1.2.2.1 m h).1
    omega
  · apply Nat.le_of_not_lt
    intro h
    have a := h1.2.2.2 n (Nat.le_refl _)
    have b := (h2.2.2.1 n h).1
    omega
theorem s_sizeOf {z : zZ} {d n : Nat} {c : Int} {μ : Mu} (hd : 2 ≤ d) (hc : isW c n) : mC z d 68 [(0, c)] μ = some ((n : Int), μ) := by
  obtain ⟨e, rfl, he⟩ := pred_of hd
  have h8 := hc.2.1
  rw [c_Wrd_sizeOf]
  have H := down (n := n) (P := fun k => f_Wrd_sizeOf_2 z e c (k : Int) μ = some ((n : Int), μ))
    (by
      rw [e_Wrd_sizeOf_2]
      by_cases h : n < 8
      · rw [cF (by omega), s_letterAt he, letc_nat h, hc.2.2.2 n (Nat.le_refl _)]
        simp only [ob]
        rw [cT (by omega), e_Wrd_sizeOf_23]
      · rw [cT (by omega), e_Wrd_sizeOf_23])
    (by
      intro k hk ih
      have h1 := hc.2.2.1 k hk
      rw [e_Wrd_sizeOf_2, cF (by omega), s_letterAt he, letc_nat (by omega)]
      simp only [ob]
      rw [cF (by omega), zwc (by omega)]
      exact ih)
  exact H 0 (by omega)
theorem s_times {z : zZ} {d : Nat} {c l : Int} {μ : Mu} (hd : 2 ≤ d) : mC z d 75 [(0, c), (0, l)] μ = some (((cnt (fun k => decide ((nib c k : Int) - 1 = l)) 8 : Nat) : Int), μ) := by
  obtain ⟨e, rfl, he⟩ := pred_of hd
  rw [c_Wrd_times]
  have H := down (n := 8) (P := fun k => f_Wrd_times_4 z e c l ((cnt (fun k => decide ((nib c k : Int) - 1 = l)) k : Nat) : Int) (k : Int) μ = some (((cnt (fun k => decide ((nib c k : Int) - 1 = l)) 8 : Nat) : Int), μ))
    (by rw [e_Wrd_times_4, cT (by omega)])
    (by
      intro k hk ih
      have hc := cnt_le (fun k => decide ((nib c k : Int) - 1 = l)) k
      rw [e_Wrd_times_4, cF (by omega), s_letterAt he, letc_nat hk]
      simp only [ob]
      by_cases h : (nib c k : Int) - 1 = l
      · rw [nT h, e_Wrd_times_22, zwc (by omega), zwc (by omega)]
        simpa [cnt, h] using ih
      · rw [nF h, e_Wrd_times_22, zwc (by omega)]
        simpa [cnt, h] using ih)
  exact H 0 (by omega)
theorem s_unlike {z : zZ} {d : Nat} {c l : Int} {μ : Mu} (hd : 2 ≤ d) : mC z d 136 [(0, c), (0, l)] μ = some (((cnt (fun k => decide (nib c k ≠ nib l k)) 8 : Nat) : Int), μ) := by
  obtain ⟨e, rfl, he⟩ := pred_of hd
  rw [c_Wrd_unlike]
  have H := down (n := 8) (P := fun k => f_Wrd_unlike_4 z e c l ((cnt (fun k => decide (nib c k ≠ nib l k)) k : Nat) : Int) (k : Int) μ = some (((cnt (fun k => decide (nib c k ≠ nib l k)) 8 : Nat) : Int), μ))
    (by rw [e_Wrd_unlike_4, cT (by omega)])
    (by
      intro k hk ih
      have hc := cnt_le (fun k => decide (nib c k ≠ nib l k)) k
      rw [e_Wrd_unlike_4, cF (by omega), s_letterAt he, letc_nat hk]
      simp only [ob]
      rw [s_letterAt he, letc_nat hk]
      simp only [ob]
      by_cases h : nib c k = nib l k
      · rw [cT (by omega), e_Wrd_unlike_26, zwc (by omega)]
        simpa [cnt, h] using ih
      · rw [cF (by omega), e_Wrd_unlike_26, zwc (by omega), zwc (by omega)]
        simpa [cnt, h] using ih)
  exact H 0 (by omega)
theorem s_changed {z : zZ} {d k : Nat} {c l : Int} {μ : Mu} (hd : 1 ≤ d) (hk : k < 8) (h0 : 0 ≤ l) (h1 : l < 15) : mC z d 31 [(0, c), (0, (k : Int)), (0, l)] μ = some (wset c k l, μ) := by
  obtain ⟨e, rfl, he⟩ := pred_of hd
  have h2 : zw (4 * (k : Int)) = ((4 * k : Nat) : Int) := by rw [zw_id (by omega) (by omega)]; omega
  rw [c_Wrd_changed, h2, zw_id (x := l + 1) (by omega) (by omega)]
  rfl
def wfirst (c : Int) (k : Nat) : Int := if k < 8 then z_and c (zw (z_shl 1 ((4 * k : Nat) : Int) - 1)) else c
theorem s_firstOf {z : zZ} {d k : Nat} {c : Int} {μ : Mu} (hd : 1 ≤ d) (hk : k ≤ 8) : mC z d 94 [(0, c), (0, (k : Int))] μ = some (wfirst c k, μ) := by
  obtain ⟨e, rfl, he⟩ := pred_of hd
  have h2 : zw (4 * (k : Int)) = ((4 * k : Nat) : Int) := by rw [zw_id (by omega) (by omega)]; omega
  rw [c_Wrd_firstOf, h2]
  unfold wfirst
  by_cases h : k < 8
  · rw [cT (by omega), if_pos h, e_Wrd_firstOf_19]
  · rw [cF (by omega), if_neg h, e_Wrd_firstOf_19]
theorem nib_wfirst {c : Int} {k j : Nat} (hk : k ≤ 8) : nib (wfirst c k) j = if j < k then nib c j else 0 := by
  unfold wfirst
  by_cases h : k < 8
  · rw [if_pos h, nib_first h]
  · rw [if_neg h]
    by_cases h2 : j < k
    · rw [if_pos h2]
    · rw [if_neg h2, nib_8 (by omega)]
theorem rg_wfirst {c : Int} {k : Nat} (hc : rg c) : rg (wfirst c k) := by
  unfold wfirst
  split
  · exact rg_to _
  · exact hc
theorem isW_wfirst {c : Int} {n k : Nat} (hc : isW c n) (hk : k ≤ n) : isW (wfirst c k) k := by
  have h8 := hc.2.1
  refine ⟨rg_wfirst hc.1, by omega, fun j hj => ?_, fun j hj => ?_⟩
  · rw [nib_wfirst (by omega), if_pos hj]; exact hc.2.2.1 j (by omega)
  · rw [nib_wfirst (by omega), if_neg (by omega)]
/-- a word turned -/
def wbk (c : Int) (n : Nat) : Nat → Int
  | 0 => 0
  | k + 1 => wset (wbk c n k) (n - 1 - k) ((nib c k : Int) - 1)
theorem rg_wbk (c : Int) (n k : Nat) : rg (wbk c n k) := by
  cases k with
  | zero => unfold rg wbk; omega
  | succ k => exact rg_wset _ _ _
theorem nib_wbk {c : Int} {n : Nat} (hc : isW c n) (j : Nat) : ∀ k, k ≤ n → nib (wbk c n k) j = if n - k ≤ j ∧ j < n then nib c (n - 1 - j) else 0 := by
  intro k
  have h8 := hc.2.1
  induction k with
  | zero => intro hk; rw [if_neg (by omega)]; exact nib_zero j
  | succ k ih =>
    intro hk
    have h1 := hc.2.2.1 k (by omega)
    unfold wbk
    rw [nib_wset (by omega) (by omega) (by omega), ih (by omega)]
    by_cases h2 : j = n - 1 - k
    · rw [if_pos h2, if_pos (by omega)]
      have h3 : n - 1 - j = k := by omega
      rw [h3]; omega
    · rw [if_neg h2]
      by_cases h3 : n - k ≤ j ∧ j < n
      · rw [if_pos h3, if_pos (by omega)]
      · rw [if_neg h3, if_neg (by omega)]
theorem isW_wbk {c : Int} {n : Nat} (hc : isW c n) : isW (wbk c n n) n := by
  refine ⟨rg_wbk _ _ _, hc.2.1, fun j hj => ?_, fun j hj => ?_⟩
  · rw [nib_wbk hc j n (Nat.le_refl _), if_pos (by omega)]; exact hc.2.2.1 _ (by omega)
  · rw [nib_wbk hc j n (Nat.le_refl _), if_neg (by omega)]
theorem s_backwards {z : zZ} {d n : Nat} {c : Int} {μ : Mu} (hd : 3 ≤ d) (hc : isW c n) : mC z d 77 [(0, c)] μ = some (wbk c n n, μ) := by
  obtain ⟨e, rfl, he⟩ := pred_of hd
  have h8 := hc.2.1
  rw [c_Wrd_backwards, s_sizeOf (by omega) hc]
  simp only [ob]
  have H := down (n := n) (P := fun k => f_Wrd_backwards_9 z e c (n : Int) (wbk c n k) (k : Int) μ = some (wbk c n n, μ))
    (by rw [e_Wrd_backwards_9, cT (by omega)])
    (by
      intro k hk ih
      have h1 := hc.2.2.1 k hk
      have h2 : zw (zw ((n : Int) - 1) - (k : Int)) = ((n - 1 - k : Nat) : Int) := by
        rw [zw_id (x := (n : Int) - 1) (by omega) (by omega), zw_id (by omega) (by omega)]; omega
      rw [e_Wrd_backwards_9, cF (by omega), s_letterAt (by omega), letc_nat (by omega)]
      simp only [ob]
      rw [h2, s_changed (by omega) (by omega) (by omega) (by omega)]
      simp only [ob]
      rw [zwc (by omega)]
      exact ih)
  exact H 0 (by omega)
/-- keys: eight digits -/
def kf (g : Nat → Int) : Nat → Int
  | 0 => 0
  | k + 1 => 16 * kf g k + g k
theorem kf_rg {g : Nat → Int} (h : ∀ k, 0 ≤ g k ∧ g k < 16) (n : Nat) : 0 ≤ kf g n ∧ kf g n < 16 ^ n := by
  induction n with
  | zero => simp [kf]
  | succ n ih =>
    unfold kf
    have h1 := h n
    have h2 : (16 : Int) ^ (n + 1) = 16 ^ n * 16 := Int.pow_succ _ _
    omega
theorem kf_eq {g g' : Nat → Int} {n : Nat} (h : ∀ j, j < n → g j = g' j) : kf g n = kf g' n := by
  induction n with
  | zero => rfl
  | succ n ih => unfold kf; rw [ih (fun j hj => h j (by omega)), h n (by omega)]
theorem kf_lt {g g' : Nat → Int} (hg : ∀ k, 0 ≤ g k ∧ g k < 16) (hg' : ∀ k, 0 ≤ g' k ∧ g' k < 16) {k : Nat} (h1 : ∀ j, j < k → g j = g' j) (h2 : g k < g' k) : ∀ n, k < n → kf g n < kf g' n := by
  intro n
  induction n with
  | zero => intro h; omega
  | succ n ih =>
    intro h
    unfold kf
    have a := hg n
    have b := hg' n
    by_cases e : k = n
    · subst e
      have := kf_eq h1
      omega
    · have := ih (by omega)
      omega
def dig (c : Int) (r : Row) (k : Nat) : Int := if 1 ≤ nib c k ∧ nib c k ≤ 12 then r (nib c k - 1) + 1 else 0
theorem dig_rg {c : Int} {r : Row} (hr : ∀ j, 0 ≤ r j ∧ r j < 12) (k : Nat) : 0 ≤ dig c r k ∧ dig c r k < 16 := by
  unfold dig
  have := hr (nib c k - 1)
  split <;> omega
