/-! orders that are learnt: rows that are begun, pure -/
def wsh (ms : Nat → Nat) (pb : Row) (s : Nat) : Nat → Row
  | 0 => pb
  | x + 1 => if ava ms s x = true then rup (wsh ms pb s x) (s ||| 2 ^ x) (wsh ms pb s x (s ||| 2 ^ x) + pb s) else wsh ms pb s x
def bgn (ms : Nat → Nat) : Nat → Row
  | 0 => rup (fun _ => 0) 0 1
  | k + 1 => wsh ms (bgn ms k) k 12
theorem wsh_lo {ms : Nat → Nat} {pb : Row} {s t : Nat} (h : t ≤ s) : ∀ x, wsh ms pb s x t = pb t := by
  intro x
  induction x with
  | zero => rfl
  | succ x ih =>
    unfold wsh
    by_cases h1 : ava ms s x = true
    · have := or_gt (ava_bit h1)
      rw [if_pos h1, rup_ne (by omega)]
      exact ih
    · rw [if_neg h1]; exact ih
theorem wsh_mono {ms : Nat → Nat} {pb : Row} {s : Nat} (h0 : 0 ≤ pb s) (t : Nat) : ∀ x y, x ≤ y → wsh ms pb s x t ≤ wsh ms pb s y t := by
  intro x y hxy
  induction y with
  | zero => rw [show x = 0 by omega]; exact Int.le_refl _
  | succ y ih =>
    by_cases e : x = y + 1
    · subst e; exact Int.le_refl _
    · have h1 := ih (by omega)
      show wsh ms pb s x t ≤ (if ava ms s y = true then rup (wsh ms pb s y) (s ||| 2 ^ y) (wsh ms pb s y (s ||| 2 ^ y) + pb s) else wsh ms pb s y) t
      by_cases h2 : ava ms s y = true
      · rw [if_pos h2]
        by_cases e2 : t = s ||| 2 ^ y
        · subst e2
          rw [rup_same]
          omega
        · rw [rup_ne e2]; exact h1
      · rw [if_neg h2]; exact h1
theorem bgn_nn {ms : Nat → Nat} : ∀ k t, 0 ≤ bgn ms k t := by
  intro k
  induction k with
  | zero =>
    intro t
    show 0 ≤ rup (fun _ => 0) 0 1 t
    by_cases e : t = 0
    · subst e; rw [rup_same]; decide
    · rw [rup_ne e]; exact Int.le_refl _
  | succ k ih =>
    intro t
    have h1 := wsh_mono (ms := ms) (pb := bgn ms k) (s := k) (ih k) t 0 12 (by omega)
    have h2 := ih t
    show 0 ≤ wsh ms (bgn ms k) k 12 t
    have h3 : wsh ms (bgn ms k) k 0 t = bgn ms k t := rfl
    omega
theorem bgn_st {ms : Nat → Nat} {t : Nat} : ∀ i, bgn ms (t + i) t = bgn ms t t := by
  intro i
  induction i with
  | zero => rfl
  | succ i ih =>
    show wsh ms (bgn ms (t + i)) (t + i) 12 t = _
    rw [wsh_lo (by omega)]
    exact ih
theorem bgn_mono {ms : Nat → Nat} {t : Nat} : ∀ k i, bgn ms k t ≤ bgn ms (k + i) t := by
  intro k i
  induction i with
  | zero => exact Int.le_refl _
  | succ i ih =>
    have h1 := wsh_mono (ms := ms) (pb := bgn ms (k + i)) (s := k + i) (bgn_nn _ _) t 0 12 (by omega)
    have h2 : wsh ms (bgn ms (k + i)) (k + i) 0 t = bgn ms (k + i) t := rfl
    show _ ≤ wsh ms (bgn ms (k + i)) (k + i) 12 t
    omega
/-- the sum from a set on -/
def tls (f : Nat → Int) (k : Nat) : Int := sm (fun i => if k ≤ i then f i else 0) 4096
theorem tls_next {f : Nat → Int} {k : Nat} (hk : k < 4096) : tls f k = f k + tls f (k + 1) := by
  unfold tls
  have h1 : sm (fun i => if k ≤ i then f i else 0) 4096 = sm (fun i => (if k = i then f i else 0) + (if k + 1 ≤ i then f i else 0)) 4096 := sm_congr (fun i hi => by
    by_cases e : k = i
    · subst e; rw [if_pos (Nat.le_refl _), if_pos rfl, if_neg (by omega)]; omega
    · by_cases e2 : k ≤ i
      · rw [if_pos e2, if_neg e, if_pos (by omega)]; omega
      · rw [if_neg e2, if_neg e, if_neg (by omega)]; rfl)
  rw [h1, sm_add, sm_one f k 4096, if_pos hk]
theorem tls_congr {f g : Nat → Int} {k : Nat} (h : ∀ i, k ≤ i → i < 4096 → f i = g i) : tls f k = tls g k := sm_congr (fun i hi => by
  by_cases e : k ≤ i
  · rw [if_pos e, if_pos e]; exact h i e hi
  · rw [if_neg e, if_neg e])
theorem tls_end {f : Nat → Int} : tls f 4096 = 0 := by
  unfold tls
  rw [sm_congr (g := fun _ => 0) (fun i hi => by rw [if_neg (by omega)]), sm_zero]
/-- one push, under a weight -/
theorem tls_wsh {ms : Nat → Nat} {pb V : Row} {s : Nat} (hs : s < 4096) : ∀ x, x ≤ 12 → tls (fun t => wsh ms pb s x t * V t) (s + 1) = tls (fun t => pb t * V t) (s + 1) + pb s * sm (fun y => if ava ms s y = true then V (s ||| 2 ^ y) else 0) x := by
  intro x
  induction x with
  | zero =>
    intro _
    show _ = _ + pb s * 0
    rw [Int.mul_zero, Int.add_zero]
    rfl
  | succ x ih =>
    intro hx
    have hsm : sm (fun y => if ava ms s y = true then V (s ||| 2 ^ y) else 0) (x + 1) = sm (fun y => if ava ms s y = true then V (s ||| 2 ^ y) else 0) x + (if ava ms s x = true then V (s ||| 2 ^ x) else 0) := rfl
    rw [hsm, Int.mul_add]
    by_cases h : ava ms s x = true
    · have h1 := or_gt (ava_bit h)
      have h2 := or_lt hs (show x < 12 by omega)
      rw [if_pos h]
      have h3 : tls (fun t => wsh ms pb s (x + 1) t * V t) (s + 1) = tls (fun t => wsh ms pb s x t * V t) (s + 1) + pb s * V (s ||| 2 ^ x) := by
        unfold tls
        rw [sm_congr (g := fun i => (if s + 1 ≤ i then wsh ms pb s x i * V i else 0) + (if s ||| 2 ^ x = i then pb s * V i else 0)) (fun i hi => ?_), sm_add, sm_one (fun i => pb s * V i) (s ||| 2 ^ x) 4096, if_pos h2]
        show (if s + 1 ≤ i then wsh ms pb s (x + 1) i * V i else 0) = _
        have h4 : wsh ms pb s (x + 1) = rup (wsh ms pb s x) (s ||| 2 ^ x) (wsh ms pb s x (s ||| 2 ^ x) + pb s) := by
          show (if ava ms s x = true then _ else _) = _
          rw [if_pos h]
        rw [h4]
        by_cases e : s ||| 2 ^ x = i
        · subst e
          rw [if_pos (by omega), if_pos (by omega), if_pos rfl, rup_same, Int.add_mul]
        · rw [if_neg e, rup_ne (Ne.symm e), Int.add_zero]
      rw [h3, ih (by omega)]
      omega
    · have h4 : wsh ms pb s (x + 1) = wsh ms pb s x := by
        show (if ava ms s x = true then _ else _) = _
        rw [if_neg h]
      rw [if_neg h, h4, ih (by omega), Int.mul_zero, Int.add_zero]
theorem tls_bgn {ms : Nat → Nat} {V : Row} {k : Nat} (hk : k < 4096) : tls (fun t => bgn ms k t * V t) k = bgn ms k k * V k - bgn ms k k * sm (fun y => if ava ms k y = true then V (k ||| 2 ^ y) else 0) 12 + tls (fun t => bgn ms (k + 1) t * V t) (k + 1) := by
  rw [tls_next hk]
  have h := tls_wsh (ms := ms) (pb := bgn ms k) (V := V) hk 12 (by omega)
  have h2 : tls (fun t => bgn ms (k + 1) t * V t) (k + 1) = tls (fun t => wsh ms (bgn ms k) k 12 t * V t) (k + 1) := rfl
  rw [h2, h]
  omega
theorem tls_0 {ms : Nat → Nat} {V : Row} : tls (fun t => bgn ms 0 t * V t) 0 = V 0 := by
  rw [tls_next (by omega), tls_congr (g := fun _ => 0) (fun i h1 h2 => ?_)]
  · show rup (fun _ => 0) 0 1 0 * V 0 + _ = _
    rw [rup_same]
    unfold tls
    rw [sm_congr (g := fun _ => 0) (fun i hi => by split <;> rfl), sm_zero, Int.one_mul, Int.add_zero]
  · show rup (fun _ => 0) 0 1 i * V i = 0
    rw [rup_ne (by omega), Int.zero_mul]
/-- all rows -/
theorem bgn_all {ms : Nat → Nat} : bgn ms 4096 4095 = wy ms 0 := by
  have key : ∀ k, k ≤ 4095 → tls (fun t => bgn ms k t * wy ms t) k = wy ms 0 := by
    intro k
    induction k with
    | zero => intro _; exact tls_0
    | succ k ih =>
      intro hk
      have h1 := ih (by omega)
      rw [tls_bgn (by omega), wy_eq (show k < 4096 by omega), if_neg (by omega), Int.zero_add] at h1
      omega
  have h1 := key 4095 (by omega)
  rw [tls_next (by omega), tls_end, Int.add_zero, wy_full, Int.mul_one] at h1
  rw [← h1]
  exact bgn_st 1
/-- each number of rows is small -/
theorem bgn_le {ms : Nat → Nat} {t : Nat} (ht : t < 4096) (k : Nat) (hk : k ≤ 4096) : bgn ms k t ≤ 479001600 := by
  have key : ∀ k, k ≤ 4095 → tls (fun t => bgn ms k t * fac (12 - cnt t.testBit 12)) k ≤ 479001600 := by
    intro k
    induction k with
    | zero =>
      intro _
      have := tls_0 (ms := ms) (V := fun t => fac (12 - cnt t.testBit 12))
      rw [this]
      have h2 := fac_mono (show 12 - cnt (0 : Nat).testBit 12 ≤ 12 by omega)
      rw [fac12] at h2
      exact h2
    | succ k ih =>
      intro hk
      have h1 := ih (by omega)
      have h2 := tls_bgn (ms := ms) (V := fun t => fac (12 - cnt t.testBit 12)) (show k < 4096 by omega)
      have h3 := ava_fac (ms := ms) (show k < 4096 by omega) (by omega)
      have h4 := Int.mul_le_mul_of_nonneg_left h3 (bgn_nn (ms := ms) k k)
      have h5 : bgn ms k k * sm (fun y => if ava ms k y = true then (fun t => fac (12 - cnt t.testBit 12)) (k ||| 2 ^ y) else 0) 12 ≤ bgn ms k k * fac (12 - cnt k.testBit 12) := h4
      omega
  have fin : ∀ k, k ≤ 4095 → k ≤ t → bgn ms k t ≤ 479001600 := by
    intro k hk hkt
    have h1 := key k hk
    have hnn : ∀ i, i < 4096 → 0 ≤ (if k ≤ i then bgn ms k i * fac (12 - cnt i.testBit 12) else 0) := fun i _ => by
      split
      · exact Int.mul_nonneg (bgn_nn k i) (by have := fac_pos (12 - cnt i.testBit 12); omega)
      · exact Int.le_refl _
    have h2 := sm_le_at (g := fun i => if k ≤ i then bgn ms k i * fac (12 - cnt i.testBit 12) else 0) (n := 4096) hnn ht
    have h3 : (if k ≤ t then bgn ms k t * fac (12 - cnt t.testBit 12) else 0) ≤ 479001600 := Int.le_trans h2 h1
    rw [if_pos hkt] at h3
    have h4 := Int.mul_le_mul_of_nonneg_left (fac_pos (12 - cnt t.testBit 12)) (bgn_nn (ms := ms) k t)
    rw [Int.mul_one] at h4
    omega
  by_cases h : k ≤ t
  · exact fin k (by omega) h
  · have := bgn_st (ms := ms) (t := t) (k - t)
    rw [show t + (k - t) = k by omega] at this
    rw [this]
    exact fin t (by omega) (Nat.le_refl _)
theorem bgn_up {ms : Nat → Nat} {s x : Nat} (hs : s < 4096) (hx : x < 12) (h : ava ms s x = true) (h0 : bgn ms 4096 s ≠ 0) : bgn ms 4096 (s ||| 2 ^ x) ≠ 0 := by
  have h1 : bgn ms 4096 s = bgn ms s s := by
    have := bgn_st (ms := ms) (t := s) (4096 - s)
    rw [show s + (4096 - s) = 4096 by omega] at this
    exact this
  rw [h1] at h0
  have h2 := bgn_nn (ms := ms) s s
  have hgt := or_gt (ava_bit h)
  have h3 : bgn ms s s ≤ wsh ms (bgn ms s) s (x + 1) (s ||| 2 ^ x) := by
    show _ ≤ (if ava ms s x = true then rup (wsh ms (bgn ms s) s x) (s ||| 2 ^ x) (wsh ms (bgn ms s) s x (s ||| 2 ^ x) + bgn ms s s) else wsh ms (bgn ms s) s x) (s ||| 2 ^ x)
    rw [if_pos h, rup_same]
    have h4 := wsh_mono (ms := ms) (pb := bgn ms s) (s := s) h2 (s ||| 2 ^ x) 0 x (by omega)
    have h5 : wsh ms (bgn ms s) s 0 (s ||| 2 ^ x) = bgn ms s (s ||| 2 ^ x) := rfl
    have h6 := bgn_nn (ms := ms) s (s ||| 2 ^ x)
    omega
  have h4 := wsh_mono (ms := ms) (pb := bgn ms s) (s := s) h2 (s ||| 2 ^ x) (x + 1) 12 (by omega)
  have h5 : wsh ms (bgn ms s) s 12 (s ||| 2 ^ x) = bgn ms (s + 1) (s ||| 2 ^ x) := rfl
  have h6 := bgn_mono (ms := ms) (t := s ||| 2 ^ x) (s + 1) (4096 - (s + 1))
  rw [show s + 1 + (4096 - (s + 1)) = 4096 by omega] at h6
  omega
/-- one letter must be ahead of another one, too -/
def mwt (ms : Nat → Nat) (a b : Nat) : Nat → Nat := fun x => if x = b then ms b ||| 2 ^ a else ms x
theorem sbs_or {m a s : Nat} (ha : a < 12) : sbs (m ||| 2 ^ a) s = (sbs m s && s.testBit a) := by
  cases h : (sbs m s && s.testBit a) with
  | true =>
    rw [Bool.and_eq_true] at h
    unfold sbs at h ⊢
    rw [allb_iff] at h ⊢
    intro k hk
    rw [or_bit]
    by_cases e : k = a
    · subst e; rw [h.2]; simp
    · simp only [e, decide_false, Bool.or_false]
      exact h.1 k hk
  | false =>
    cases h2 : sbs (m ||| 2 ^ a) s with
    | false => rfl
    | true =>
      exfalso
      unfold sbs at h2
      rw [allb_iff] at h2
      have h3 : s.testBit a = true := by
        have := h2 a ha
        rw [or_bit] at this
        simpa using this
      have h4 : sbs m s = true := by
        unfold sbs
        rw [allb_iff]
        intro k hk
        have := h2 k hk
        rw [or_bit] at this
        by_cases e : k = a
        · subst e; rw [h3]; simp
        · simpa [e] using this
      rw [h3, h4] at h
      exact absurd h (by decide)
theorem ava_mwt {ms : Nat → Nat} {a b s x : Nat} (ha : a < 12) : ava (mwt ms a b) s x = (ava ms s x && (!decide (x = b) || s.testBit a)) := by
  unfold ava mwt
  by_cases e : x = b
  · subst e
    rw [if_pos rfl, sbs_or ha]
    cases s.testBit x <;> cases sbs (ms x) s <;> cases s.testBit a <;> simp
  · rw [if_neg e]
    simp [e]
theorem bit_or {s x a : Nat} : (s ||| 2 ^ x).testBit a = (s.testBit a || decide (a = x)) := or_bit
/-- with one of both in the set, nothing more is asked -/
theorem wy_in {ms : Nat → Nat} {a b : Nat} (ha : a < 12) : ∀ s, s < 4096 → (s.testBit a = true ∨ s.testBit b = true) → wy (mwt ms a b) s = wy ms s := by
  apply setdown
  intro s hs ih hab
  rw [wy_eq hs, wy_eq (ms := ms) hs]
  congr 1
  apply sm_congr
  intro x hx
  have h1 : ava (mwt ms a b) s x = ava ms s x := by
    rw [ava_mwt ha]
    rcases hab with h | h
    · rw [h]; simp
    · by_cases e : x = b
      · subst e
        have : ava ms s x = false := by unfold ava; rw [h]; rfl
        rw [this]; rfl
      · simp [e]
  rw [h1]
  by_cases h : ava ms s x = true
  · rw [if_pos h, if_pos h]
    refine ih _ (or_gt (ava_bit h)) (or_lt hs hx) ?_
    rcases hab with h2 | h2
    · left; rw [bit_or, h2]; rfl
    · right; rw [bit_or, h2]; rfl
  · rw [if_neg h, if_neg h]
theorem sm_two {f g h : Nat → Int} {n a b : Nat} (hab : a ≠ b) (ha : a < n) (hb : b < n) (hf : ∀ x, x < n → x ≠ a → x ≠ b → f x = g x + h x) (h1 : f a = g a ∧ h a = 0) (h2 : f b = h b ∧ g b = 0) : sm f n = sm g n + sm h n := by
  rw [← sm_add]
  apply sm_congr
  intro x hx
  by_cases e1 : x = a
  · subst e1; rw [h1.1, h1.2]; omega
  · by_cases e2 : x = b
    · subst e2; rw [h2.1, h2.2]; omega
    · exact hf x hx e1 e2
/-- either one stands ahead, or the other one does -/
theorem wy_both {ms : Nat → Nat} {a b : Nat} (ha : a < 12) (hb : b < 12) (hab : a ≠ b) : ∀ s, s < 4096 → s.testBit a = false → s.testBit b = false → wy ms s = wy (mwt ms a b) s + wy (mwt ms b a) s := by
  apply setdown
  intro s hs ih h1 h2
  have hne : s ≠ 4095 := by
    intro e
    subst e
    have := ava_full (ms := fun _ => 0) ha
    have e2 : (4095 : Nat).testBit a = true := by
      have : (4095 : Nat) = 2 ^ 12 - 1 := rfl
      rw [this, Nat.testBit_two_pow_sub_one, decide_eq_true ha]
    rw [h1] at e2
    exact absurd e2 (by decide)
  rw [wy_eq hs, wy_eq (ms := mwt ms a b) hs, wy_eq (ms := mwt ms b a) hs, if_neg hne, Int.zero_add, Int.zero_add, Int.zero_add]
  refine sm_two hab ha hb (fun x hx q1 q2 => ?_) ⟨?_, ?_⟩ ⟨?_, ?_⟩
  · have e1 : ava (mwt ms a b) s x = ava ms s x := by rw [ava_mwt ha]; simp [q2]
    have e2 : ava (mwt ms b a) s x = ava ms s x := by rw [ava_mwt hb]; simp [q1]
    rw [e1, e2]
    by_cases h : ava ms s x = true
    · rw [if_pos h, if_pos h, if_pos h]
      exact ih _ (or_gt (ava_bit h)) (or_lt hs hx) (by rw [bit_or, h1]; simp; omega) (by rw [bit_or, h2]; simp; omega)
    · rw [if_neg h, if_neg h, if_neg h]; rfl
  · have e1 : ava (mwt ms a b) s a = ava ms s a := by rw [ava_mwt ha]; simp [hab]
    rw [e1]
    by_cases h : ava ms s a = true
    · rw [if_pos h, if_pos h]
      exact (wy_in ha _ (or_lt hs ha) (Or.inl (by rw [bit_or]; simp))).symm
    · rw [if_neg h, if_neg h]
  · have e2 : ava (mwt ms b a) s a = false := by rw [ava_mwt hb, h2]; simp
    rw [e2, if_neg (by decide)]
  · have e1 : ava (mwt ms b a) s b = ava ms s b := by rw [ava_mwt hb]; simp [Ne.symm hab]
    rw [e1]
    by_cases h : ava ms s b = true
    · rw [if_pos h, if_pos h]
      exact (wy_in hb _ (or_lt hs hb) (Or.inl (by rw [bit_or]; simp))).symm
    · rw [if_neg h, if_neg h]
  · have e2 : ava (mwt ms a b) s b = false := by rw [ava_mwt ha, h1]; simp
    rw [e2, if_neg (by decide)]
/-- the rows in which a follows a set without b -/
def rwS (ms : Nat → Nat) (a b k : Nat) : Int := sm (fun s => if (ava ms s a && !s.testBit b) = true then bgn ms 4096 s * wy ms (s ||| 2 ^ a) else 0) k
theorem rwS_nn {ms : Nat → Nat} {a b : Nat} (ha : a < 12) : ∀ s, s < 4096 → 0 ≤ if (ava ms s a && !s.testBit b) = true then bgn ms 4096 s * wy ms (s ||| 2 ^ a) else 0 := by
  intro s hs
  split
  · exact Int.mul_nonneg (bgn_nn _ _) (wy_nn _ (or_lt hs ha))
  · exact Int.le_refl _
theorem rwS_all {ms : Nat → Nat} {a b : Nat} (ha : a < 12) (hb : b < 12) (hab : a ≠ b) : rwS ms a b 4096 = wy (mwt ms a b) 0 := by
  have key : ∀ k, k ≤ 4096 → tls (fun t => bgn ms k t * (if t.testBit a = true ∨ t.testBit b = true then 0 else wy (mwt ms a b) t)) k + rwS ms a b k = wy (mwt ms a b) 0 := by
    intro k
    induction k with
    | zero =>
      intro _
      have := tls_0 (ms := ms) (V := fun t => if t.testBit a = true ∨ t.testBit b = true then 0 else wy (mwt ms a b) t)
      rw [this, if_neg (by simp)]
      show _ + 0 = _
      rw [Int.add_zero]
    | succ k ih =>
      intro hk
      have hk4 : k < 4096 := by omega
      have h1 := ih (by omega)
      have h2 := tls_bgn (ms := ms) (V := fun t => if t.testBit a = true ∨ t.testBit b = true then 0 else wy (mwt ms a b) t) hk4
      have h3 : rwS ms a b (k + 1) = rwS ms a b k + (if (ava ms k a && !k.testBit b) = true then bgn ms 4096 k * wy ms (k ||| 2 ^ a) else 0) := rfl
      have hbk : bgn ms 4096 k = bgn ms k k := by
        have := bgn_st (ms := ms) (t := k) (4096 - k)
        rw [show k + (4096 - k) = 4096 by omega] at this
        exact this
      rw [h3, hbk]
      rw [h2] at h1
      have h4 : bgn ms k k * (if k.testBit a = true ∨ k.testBit b = true then 0 else wy (mwt ms a b) k) - bgn ms k k * sm (fun y => if ava ms k y = true then (fun t => if t.testBit a = true ∨ t.testBit b = true then 0 else wy (mwt ms a b) t) (k ||| 2 ^ y) else 0) 12 = if (ava ms k a && !k.testBit b) = true then bgn ms k k * wy ms (k ||| 2 ^ a) else 0 := by
        by_cases hin : k.testBit a = true ∨ k.testBit b = true
        · have h5 : (ava ms k a && !k.testBit b) = false := by
            rcases hin with h | h
            · have : ava ms k a = false := by unfold ava; rw [h]; rfl
              rw [this]; rfl
            · rw [h]; simp
          rw [if_pos hin, h5, if_neg (by decide), sm_congr (g := fun _ => 0) (fun y hy => ?_), sm_zero, Int.mul_zero]
          · rfl
          · show (if ava ms k y = true then (if (k ||| 2 ^ y).testBit a = true ∨ (k ||| 2 ^ y).testBit b = true then 0 else wy (mwt ms a b) (k ||| 2 ^ y)) else 0) = 0
            rw [if_pos (show (k ||| 2 ^ y).testBit a = true ∨ (k ||| 2 ^ y).testBit b = true from hin.elim (fun h => Or.inl (by rw [bit_or, h]; rfl)) (fun h => Or.inr (by rw [bit_or, h]; rfl)))]
            split <;> rfl
        · have ha0 : k.testBit a = false := by cases h : k.testBit a with
            | false => rfl
            | true => exact absurd (Or.inl h) hin
          have hb0 : k.testBit b = false := by cases h : k.testBit b with
            | false => rfl
            | true => exact absurd (Or.inr h) hin
          have hne : k ≠ 4095 := by
            intro e
            subst e
            have e2 : (4095 : Nat).testBit a = true := by
              have : (4095 : Nat) = 2 ^ 12 - 1 := rfl
              rw [this, Nat.testBit_two_pow_sub_one, decide_eq_true ha]
            rw [ha0] at e2
            exact absurd e2 (by decide)
          rw [if_neg hin, hb0, Bool.not_false, Bool.and_true, wy_eq hk4, if_neg hne, Int.zero_add]
          have h6 : sm (fun x => if ava (mwt ms a b) k x = true then wy (mwt ms a b) (k ||| 2 ^ x) else 0) 12 = sm (fun y => if ava ms k y = true then (fun t => if t.testBit a = true ∨ t.testBit b = true then 0 else wy (mwt ms a b) t) (k ||| 2 ^ y) else 0) 12 + (if ava ms k a = true then wy ms (k ||| 2 ^ a) else 0) := by
            have h7 := sm_one (fun _ => if ava ms k a = true then wy ms (k ||| 2 ^ a) else 0) a 12
            rw [if_pos ha] at h7
            rw [← h7, ← sm_add]
            apply sm_congr
            intro x hx
            show (if ava (mwt ms a b) k x = true then wy (mwt ms a b) (k ||| 2 ^ x) else 0) = (if ava ms k x = true then (if (k ||| 2 ^ x).testBit a = true ∨ (k ||| 2 ^ x).testBit b = true then 0 else wy (mwt ms a b) (k ||| 2 ^ x)) else 0) + (if a = x then (if ava ms k a = true then wy ms (k ||| 2 ^ a) else 0) else 0)
            by_cases e1 : a = x
            · subst e1
              have e2 : ava (mwt ms a b) k a = ava ms k a := by rw [ava_mwt ha]; simp [hab]
              rw [e2, if_pos rfl, if_pos (show (k ||| 2 ^ a).testBit a = true ∨ (k ||| 2 ^ a).testBit b = true from Or.inl (by rw [bit_or]; simp))]
              by_cases h : ava ms k a = true
              · rw [if_pos h, if_pos h, if_pos h, Int.zero_add]
                exact wy_in ha _ (or_lt hk4 ha) (Or.inl (by rw [bit_or]; simp))
              · rw [if_neg h, if_neg h, if_neg h]; rfl
            · rw [if_neg e1, Int.add_zero]
              by_cases e2 : x = b
              · subst e2
                have e3 : ava (mwt ms a x) k x = false := by rw [ava_mwt ha, ha0]; simp
                rw [e3, if_neg (by decide), if_pos (show (k ||| 2 ^ x).testBit a = true ∨ (k ||| 2 ^ x).testBit x = true from Or.inr (by rw [bit_or]; simp))]
                split <;> rfl
              · have e3 : ava (mwt ms a b) k x = ava ms k x := by rw [ava_mwt ha]; simp [e2]
                have e4 : ¬ ((k ||| 2 ^ x).testBit a = true ∨ (k ||| 2 ^ x).testBit b = true) := by
                  rw [bit_or, bit_or, ha0, hb0]
                  simp
                  omega
                rw [e3, if_neg e4]
          rw [h6, Int.mul_add]
          by_cases h : ava ms k a = true
          · rw [if_pos h, if_pos h]; omega
          · rw [if_neg h, if_neg h]; omega
      dsimp only at h1 h4 ⊢
      omega
  have h1 := key 4096 (Nat.le_refl _)
  rw [tls_end] at h1
  omega
theorem rwS_rg {ms : Nat → Nat} {a b k : Nat} (ha : a < 12) (hb : b < 12) (hab : a ≠ b) (hk : k ≤ 4096) : 0 ≤ rwS ms a b k ∧ rwS ms a b k ≤ 479001600 := by
  refine ⟨sm_nn (fun s hs => rwS_nn ha s (by omega)), ?_⟩
  have h1 : rwS ms a b k ≤ rwS ms a b 4096 := sm_part (fun s hs => rwS_nn ha s hs) hk
  have h2 := (wy_rg (ms := mwt ms a b) (s := 0) (by omega)).2
  rw [rwS_all ha hb hab] at h1
  omega
/-- where there is a row at all, every set that can stand first can be gone on with -/
theorem wy_reach {ms : Nat → Nat} : ∀ s, s < 4096 → wy ms s ≠ 0 → ∀ t, t < 4096 → (∀ x, x < 12 → t.testBit x = true → sbs (ms x) t = true) → (∀ x, s.testBit x = true → t.testBit x = true) → wy ms t ≠ 0 := by
  apply setdown (Q := fun s => wy ms s ≠ 0 → ∀ t, t < 4096 → (∀ x, x < 12 → t.testBit x = true → sbs (ms x) t = true) → (∀ x, s.testBit x = true → t.testBit x = true) → wy ms t ≠ 0)
  intro s hs ih h0 t ht hcl hst
  by_cases hne : s = 4095
  · have : t = 4095 := by
      apply Nat.eq_of_testBit_eq
      intro i
      have e : (4095 : Nat) = 2 ^ 12 - 1 := rfl
      by_cases hi : i < 12
      · rw [hst i (by rw [hne, e, Nat.testBit_two_pow_sub_one, decide_eq_true hi]), e, Nat.testBit_two_pow_sub_one, decide_eq_true hi]
      · rw [Nat.testBit_lt_two_pow (Nat.lt_of_lt_of_le ht (by have := Nat.pow_le_pow_right (show 0 < 2 by decide) (show 12 ≤ i by omega); exact this)), e, Nat.testBit_two_pow_sub_one, decide_eq_false hi]
    rw [this, wy_full]
    decide
  · -- some letter can follow s
    have hex : ∃ x, x < 12 ∧ ava ms s x = true ∧ wy ms (s ||| 2 ^ x) ≠ 0 := by
      rcases Classical.em (∃ x, x < 12 ∧ ava ms s x = true ∧ wy ms (s ||| 2 ^ x) ≠ 0) with h | h
      · exact h
      · exfalso
        apply h0
        rw [wy_eq hs, if_neg hne, sm_congr (g := fun _ => 0) (fun x hx => ?_), sm_zero]
        · rfl
        · show (if ava ms s x = true then wy ms (s ||| 2 ^ x) else 0) = 0
          by_cases h1 : ava ms s x = true
          · rw [if_pos h1]
            rcases Classical.em (wy ms (s ||| 2 ^ x) = 0) with h2 | h2
            · exact h2
            · exact absurd ⟨x, hx, h1, h2⟩ h
          · rw [if_neg h1]
    obtain ⟨x, hx, hav, hw⟩ := hex
    have hgt := or_gt (ava_bit hav)
    have hlt := or_lt hs hx
    by_cases htx : t.testBit x = true
    · exact ih _ hgt hlt hw t ht hcl (fun y hy => by
        rw [bit_or, Bool.or_eq_true, decide_eq_true_eq] at hy
        rcases hy with h | h
        · exact hst y h
        · subst h; exact htx)
    · have htx0 : t.testBit x = false := by cases h : t.testBit x with
        | false => rfl
        | true => exact absurd h htx
      have hsub : sbs (ms x) t = true := by
        unfold ava at hav
        rw [Bool.and_eq_true] at hav
        have h1 := hav.2
        unfold sbs at h1 ⊢
        rw [allb_iff] at h1 ⊢
        intro k hk
        have h2 := h1 k hk
        rw [Bool.or_eq_true] at h2 ⊢
        rcases h2 with h2 | h2
        · left; exact h2
        · right; exact hst k h2
      have havt : ava ms t x = true := by unfold ava; rw [htx0, hsub]; rfl
      have hw2 : wy ms (t ||| 2 ^ x) ≠ 0 := ih _ hgt hlt hw _ (or_lt ht hx) (fun y hy hty => by
        have hm : ∀ z', t.testBit z' = true → (t ||| 2 ^ x).testBit z' = true := fun z' hz => by rw [bit_or, hz]; rfl
        have hup : ∀ m, sbs m t = true → sbs m (t ||| 2 ^ x) = true := fun m hm2 => by
          unfold sbs at hm2 ⊢
          rw [allb_iff] at hm2 ⊢
          intro k hk
          have h3 := hm2 k hk
          rw [Bool.or_eq_true] at h3 ⊢
          rcases h3 with h3 | h3
          · left; exact h3
          · right; exact hm k h3
        rw [bit_or, Bool.or_eq_true, decide_eq_true_eq] at hty
        rcases hty with h | h
        · exact hup _ (hcl y hy h)
        · subst h; exact hup _ hsub) (fun y hy => by
        rw [bit_or, Bool.or_eq_true, decide_eq_true_eq] at hy ⊢
        rcases hy with h | h
        · left; exact hst y h
        · right; exact h)
      have h5 := wy_nn (ms := ms) _ (or_lt ht hx)
      rw [wy_eq ht]
      have h6 := sm_le_at (g := fun x => if ava ms t x = true then wy ms (t ||| 2 ^ x) else 0) (n := 12) (fun y hy => by
        show 0 ≤ if ava ms t y = true then wy ms (t ||| 2 ^ y) else 0
        split
        · exact wy_nn _ (or_lt ht hy)
        · exact Int.le_refl _) hx
      have h7 : (if ava ms t x = true then wy ms (t ||| 2 ^ x) else 0) ≤ sm (fun x => if ava ms t x = true then wy ms (t ||| 2 ^ x) else 0) 12 := h6
      rw [if_pos havt] at h7
      split <;> omega
