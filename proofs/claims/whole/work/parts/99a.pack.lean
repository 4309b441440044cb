/-! letters packed in long numbers -/
def pkr (st : Nat → Int) (f : Nat) : Nat → Int
  | 0 => 0
  | n + 1 => st f + 256 * pkr st (f + 1) n
theorem pkr_congr {a b : Nat → Int} : ∀ (n f : Nat), (∀ i, i < n → a (f + i) = b (f + i)) → pkr a f n = pkr b f n := by
  intro n
  induction n with
  | zero => intro f _; rfl
  | succ n ih =>
    intro f h
    unfold pkr
    rw [ih (f + 1) (fun i hi => by have := h (i + 1) (by omega); rw [show f + 1 + i = f + (i + 1) by omega]; exact this)]
    have := h 0 (by omega)
    rw [Nat.add_zero] at this
    rw [this]
theorem pkr_sub (a b : Nat → Int) : ∀ (n f : Nat), pkr a f n - pkr b f n = pkr (fun x => a x - b x) f n := by
  intro n
  induction n with
  | zero => intro f; rfl
  | succ n ih =>
    intro f
    unfold pkr
    have := ih (f + 1)
    omega
theorem pkr_one (g : Nat → Int) : ∀ (n f i : Nat) (v : Int), i < n → pkr (fun x => g x + (if x = f + i then v else 0)) f n = pkr g f n + v * 256 ^ i := by
  intro n
  induction n with
  | zero => intro f i v h; omega
  | succ n ih =>
    intro f i v h
    unfold pkr
    cases i with
    | zero =>
      rw [if_pos (by omega)]
      have h2 : pkr (fun x => g x + (if x = f + 0 then v else 0)) (f + 1) n = pkr g (f + 1) n := pkr_congr n (f + 1) (fun i hi => by rw [if_neg (by omega)]; omega)
      rw [h2]
      simp only [Int.pow_zero]
      omega
    | succ i =>
      rw [if_neg (by omega)]
      have h2 := ih (f + 1) i v (by omega)
      rw [show f + 1 + i = f + (i + 1) by omega] at h2
      rw [h2, Int.pow_succ]
      have : v * (256 ^ i * 256) = 256 * (v * 256 ^ i) := by rw [← Int.mul_assoc, Int.mul_comm]
      omega
theorem pkr_rg {g : Nat → Int} : ∀ (n f : Nat), (∀ i, i < n → 0 ≤ g (f + i) ∧ g (f + i) ≤ 255) → 0 ≤ pkr g f n ∧ pkr g f n < 256 ^ n := by
  intro n
  induction n with
  | zero => intro f _; exact ⟨Int.le_refl 0, by show (0 : Int) < 256 ^ 0; decide⟩
  | succ n ih =>
    intro f h
    have h0 := h 0 (by omega)
    rw [Nat.add_zero] at h0
    have h1 := ih (f + 1) (fun i hi => by have := h (i + 1) (by omega); rw [show f + 1 + i = f + (i + 1) by omega]; exact this)
    unfold pkr
    rw [Int.pow_succ]
    generalize (256 : Int) ^ n = y at h1
    omega
/-- bytes of a packed number, as bits -/
def pkN (g : Nat → Nat) (f : Nat) : Nat → Nat
  | 0 => 0
  | n + 1 => g f + 256 * pkN g (f + 1) n
theorem pkN_cast {st : Nat → Int} : ∀ (n f : Nat), (∀ i, i < n → 0 ≤ st (f + i)) → pkr st f n = ((pkN (fun x => (st x).toNat) f n : Nat) : Int) := by
  intro n
  induction n with
  | zero => intro f _; rfl
  | succ n ih =>
    intro f h
    have h0 := h 0 (by omega)
    rw [Nat.add_zero] at h0
    unfold pkr pkN
    rw [ih (f + 1) (fun i hi => by have := h (i + 1) (by omega); rw [show f + 1 + i = f + (i + 1) by omega]; exact this)]
    omega
theorem pkN_bit {g : Nat → Nat} : ∀ (n f i : Nat), i < n → (∀ j, j < n → g (f + j) < 256) → (pkN g f n).testBit (8 * i + 7) = decide (128 ≤ g (f + i)) := by
  intro n
  induction n with
  | zero => intro f i h; omega
  | succ n ih =>
    intro f i h hg
    have h0 := hg 0 (by omega)
    rw [Nat.add_zero] at h0
    unfold pkN
    have hb := Nat.testBit_two_pow_mul_add (i := 8) (b := g f) (pkN g (f + 1) n) (by omega) (8 * i + 7)
    rw [show g f + 256 * pkN g (f + 1) n = 2 ^ 8 * pkN g (f + 1) n + g f by omega, hb]
    cases i with
    | zero =>
      rw [if_pos (by omega), Nat.testBit_eq_decide_div_mod_eq]
      simp only [Nat.add_zero]
      apply decide_eq_decide.mpr
      show g f / 128 % 2 = 1 ↔ _
      omega
    | succ i =>
      rw [if_neg (by omega), show 8 * (i + 1) + 7 - 8 = 8 * i + 7 by omega, ih (f + 1) i (by omega) (fun j hj => by have := hg (j + 1) (by omega); rw [show f + 1 + j = f + (j + 1) by omega]; exact this), show f + 1 + i = f + (i + 1) by omega]
theorem grd_bit : ∀ j, j < 48 → (141289400074368 : Nat).testBit j = true → j % 8 = 7 := by decide
theorem grd_hi {j : Nat} (h : (141289400074368 : Nat).testBit j = true) : j < 48 := by
  rcases Nat.lt_or_ge j 48 with h1 | h1
  · exact h1
  · rw [Nat.testBit_lt_two_pow (Nat.lt_of_lt_of_le (show 141289400074368 < 2 ^ 48 by decide) (Nat.pow_le_pow_right (by decide) h1))] at h
    exact absurd h (by decide)
theorem grd_at : ∀ i, i < 6 → (141289400074368 : Nat).testBit (8 * i + 7) = true := by decide
theorem pkN_and {g h : Nat → Nat} (hg : ∀ j, j < 6 → g j < 256) (hh : ∀ j, j < 6 → h (6 + j) < 256) : (pkN g 0 6 &&& pkN h 6 6 &&& 141289400074368 = 141289400074368) ↔ ∀ i, i < 6 → 128 ≤ g i ∧ 128 ≤ h (6 + i) := by
  have b1 := fun i (hi : i < 6) => pkN_bit (g := g) 6 0 i hi (fun j hj => by rw [Nat.zero_add]; exact hg j hj)
  have b2 := fun i (hi : i < 6) => pkN_bit (g := h) 6 6 i hi hh
  constructor
  · intro heq i hi
    have h1 : (pkN g 0 6 &&& pkN h 6 6 &&& 141289400074368).testBit (8 * i + 7) = true := by rw [heq]; exact grd_at i hi
    rw [Nat.testBit_and, Nat.testBit_and, b1 i hi, b2 i hi, Bool.and_eq_true, Bool.and_eq_true] at h1
    have h2 := of_decide_eq_true h1.1.1
    rw [Nat.zero_add] at h2
    exact ⟨h2, of_decide_eq_true h1.1.2⟩
  · intro hall
    apply Nat.eq_of_testBit_eq
    intro j
    rw [Nat.testBit_and, Nat.testBit_and]
    cases hj : (141289400074368 : Nat).testBit j
    · rw [Bool.and_false]
    · have h48 := grd_hi hj
      have h7 := grd_bit j h48 hj
      have e : j = 8 * (j / 8) + 7 := by omega
      have hi : j / 8 < 6 := by omega
      have := hall (j / 8) hi
      rw [e, b1 _ hi, b2 _ hi, decide_eq_true (by rw [Nat.zero_add]; exact this.1), decide_eq_true this.2]
      rfl
def stk (st : Nat → Int) (f : Nat) : Int := pkr (fun x => 128 + st x) f 6
theorem stk_rg {st : Nat → Int} {f : Nat} (h : ∀ i, i < 6 → -128 ≤ st (f + i) ∧ st (f + i) < 128) : 0 ≤ stk st f ∧ stk st f < 281474976710656 := by
  have := pkr_rg (g := fun x => 128 + st x) 6 f (fun i hi => by have := h i hi; omega)
  exact ⟨this.1, by have h2 := this.2; rw [show (256 : Int) ^ 6 = 281474976710656 by decide] at h2; exact h2⟩
theorem s_fits {z : zZ} {d : Nat} {st : Nat → Int} {μ : Mu} (hd : 1 ≤ d) (h : ∀ x, x < 12 → -128 ≤ st x ∧ st x < 128) : mC z d 112 [(1, stk st 0), (1, stk st 6)] μ = some (bi (allb (fun x => decide (0 ≤ st x)) 12), μ) := by
  obtain ⟨e, rfl, he⟩ := pred_of hd
  have c1 := pkN_cast (st := fun x => 128 + st x) 6 0 (fun i hi => by have := h (0 + i) (by omega); omega)
  have c2 := pkN_cast (st := fun x => 128 + st x) 6 6 (fun i hi => by have := h (6 + i) (by omega); omega)
  have r1 := stk_rg (st := st) (f := 0) (fun i hi => h (0 + i) (by omega))
  have r2 := stk_rg (st := st) (f := 6) (fun i hi => h (6 + i) (by omega))
  unfold stk at r1 r2 ⊢
  rw [c1] at r1 ⊢
  rw [c2] at r2 ⊢
  have hand := pkN_and (g := fun x => (128 + st x).toNat) (h := fun x => (128 + st x).toNat) (fun j hj => by have := h j (by omega); omega) (fun j hj => by have := h (6 + j) (by omega); omega)
  generalize pkN (fun x => (128 + st x).toNat) 0 6 = a at *
  generalize pkN (fun x => (128 + st x).toNat) 6 6 = b at *
  have e1 : z_land (z_land (a : Int) (b : Int)) 141289400074368 = ((a &&& b &&& 141289400074368 : Nat) : Int) := by
    rw [z_land_nat (by omega) (by omega)]
    have := Nat.and_le_left (n := a) (m := b)
    exact z_land_nat (b := 141289400074368) (by omega) (by decide)
  have hiff : (a &&& b &&& 141289400074368 = 141289400074368) ↔ allb (fun x => decide (0 ≤ st x)) 12 = true := by
    rw [hand, allb_iff]
    constructor
    · intro q k hk
      apply decide_eq_true
      by_cases h6 : k < 6
      · have := (q k h6).1; omega
      · have := (q (k - 6) (by omega)).2; rw [show 6 + (k - 6) = k by omega] at this; omega
    · intro q i hi
      have q1 := of_decide_eq_true (q i (by omega))
      have q2 := of_decide_eq_true (q (6 + i) (by omega))
      omega
  rw [c_Cho_fits, e1]
  unfold z_lcmp
  generalize a &&& b &&& 141289400074368 = y at hiff
  by_cases hy : y = 141289400074368
  · rw [hiff.mp hy, if_neg (by omega), if_pos (by omega), nT rfl, e_Cho_fits_19, g01_1]
    rfl
  · have hf : allb (fun x => decide (0 ≤ st x)) 12 = false := by
      cases hq : allb (fun x => decide (0 ≤ st x)) 12
      · rfl
      · exact absurd (hiff.mpr hq) hy
    rw [hf]
    by_cases hlt : (y : Int) < 141289400074368
    · rw [if_pos hlt, nF (by decide), e_Cho_fits_19, g01_0]
      rfl
    · rw [if_neg hlt, if_neg (by omega), nF (by decide), e_Cho_fits_19, g01_0]
      rfl
/-- how often a word has a letter -/
def tms (c : Int) (k : Nat) (x : Nat) : Int := ((cnt (fun j => decide (nib c j = x + 1)) k : Nat) : Int)
theorem tms_rg (c : Int) (k x : Nat) : 0 ≤ tms c k x ∧ tms c k x ≤ k := by
  have := cnt_le (fun j => decide (nib c j = x + 1)) k
  unfold tms
  omega
theorem pk_sh {i : Nat} (hi : i < 6) : z_lshl 1 (zw (8 * (i : Int))) = 256 ^ i := by
  have h : i = 0 ∨ i = 1 ∨ i = 2 ∨ i = 3 ∨ i = 4 ∨ i = 5 := by omega
  rcases h with h | h | h | h | h | h <;> subst h <;> decide
theorem s_needs {z : zZ} {d f : Nat} {c : Int} {μ : Mu} (hd : 2 ≤ d) (hf : f = 0 ∨ f = 6) : mC z d 108 [(0, c), (0, (f : Int))] μ = some (pkr (tms c 8) f 6, μ) := by
  obtain ⟨e, rfl, he⟩ := pred_of hd
  have hrg : ∀ k, k ≤ 8 → 0 ≤ pkr (tms c k) f 6 ∧ pkr (tms c k) f 6 < 281474976710656 := fun k hk => by
    have := pkr_rg (g := tms c k) 6 f (fun i hi => by have := tms_rg c k (f + i); omega)
    exact ⟨this.1, by have h2 := this.2; rw [show (256 : Int) ^ 6 = 281474976710656 by decide] at h2; exact h2⟩
  have H := down (n := 8) (P := fun k => f_Wrd_needs_5 z e c (f : Int) (pkr (tms c k) f 6) (k : Int) μ = some (pkr (tms c 8) f 6, μ))
    (by rw [e_Wrd_needs_5, cT (by omega)])
    (by
      intro k hk ih
      have hn := nib_lt c k
      have hl : letc c (k : Int) = (nib c k : Int) - 1 := letc_nat hk
      have r1 := hrg k (by omega)
      have r2 := hrg (k + 1) (by omega)
      rw [e_Wrd_needs_5, cF (by omega), s_letterAt he]
      simp -implicitDefEqProofs only [ob]
      rw [hl, e_Wrd_needs_44, e_Wrd_needs_44, zwc (by omega), zw_id (x := (nib c k : Int) - 1 - (f : Int)) (by omega) (by omega)]
      by_cases h0 : (nib c k : Int) - 1 - (f : Int) < 0
      · rw [cT h0]
        have e1 : pkr (tms c k) f 6 = pkr (tms c (k + 1)) f 6 := pkr_congr 6 f (fun i hi => by
          unfold tms
          rw [cnt_succ, if_neg (by simp; omega)]
          omega)
        rw [e1]
        exact ih
      · rw [cF h0]
        by_cases h6 : 6 ≤ (nib c k : Int) - 1 - (f : Int)
        · rw [cT h6]
          have e1 : pkr (tms c k) f 6 = pkr (tms c (k + 1)) f 6 := pkr_congr 6 f (fun i hi => by
            unfold tms
            rw [cnt_succ, if_neg (by simp; omega)]
            omega)
          rw [e1]
          exact ih
        · rw [cF h6]
          have ei : (nib c k : Int) - 1 - (f : Int) = ((nib c k - 1 - f : Nat) : Int) := by omega
          have e1 : pkr (tms c k) f 6 + 256 ^ (nib c k - 1 - f) = pkr (tms c (k + 1)) f 6 := by
            have h1 := pkr_one (tms c k) 6 f (nib c k - 1 - f) 1 (by omega)
            rw [Int.one_mul] at h1
            rw [← h1]
            refine pkr_congr 6 f (fun i hi => ?_)
            unfold tms
            rw [cnt_succ]
            by_cases hx : i = nib c k - 1 - f
            · rw [if_pos (by omega), if_pos (by simp; omega)]
              omega
            · rw [if_neg (by omega), if_neg (by simp; omega)]
              omega
          rw [ei, pk_sh (by omega), e1, zwl_id (by omega) (by omega)]
          exact ih) 0 (by omega)
  have h0 : pkr (tms c 0) f 6 = 0 := by
    have : ∀ n f, pkr (tms c 0) f n = 0 := by
      intro n
      induction n with
      | zero => intro f; rfl
      | succ n ih => intro f; unfold pkr; rw [ih]; rfl
    exact this 6 f
  rw [h0] at H
  rw [c_Wrd_needs]
  exact H
