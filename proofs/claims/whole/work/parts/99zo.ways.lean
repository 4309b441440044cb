/-! orders that are learnt: counting ways, pure -/
def sbs (a s : Nat) : Bool := allb (fun k => !a.testBit k || s.testBit k) 12
def ava (ms : Nat → Nat) (s x : Nat) : Bool := !s.testBit x && sbs (ms x) s
def dff (a s : Nat) : Nat := bset (fun k => a.testBit k && !s.testBit k) 12
theorem dff_lt (a s : Nat) : dff a s < 4096 := bset_lt _ 12
theorem z_dff {a s : Nat} (ha : a < 4096) (hs : s < 4096) : z_and (a : Int) (z_xor (s : Int) (-1)) = ((dff a s : Nat) : Int) := by
  have hlt := dff_lt a s
  apply bv_inj (by rw [z_and_bv]; exact rg_to _) (by unfold rg; omega)
  rw [z_and_bv, bv_to, z_xor_bv, bv_to, bv_nat, bv_nat, bv_nat]
  apply BitVec.eq_of_getLsbD_eq
  intro i hi
  have hm1 : bv (-1) = BitVec.allOnes 32 := by decide
  rw [BitVec.getLsbD_and, BitVec.getLsbD_xor, hm1, BitVec.getLsbD_allOnes, BitVec.getLsbD_ofNat, BitVec.getLsbD_ofNat, BitVec.getLsbD_ofNat]
  unfold dff
  rw [bset_bit]
  by_cases h : i < 12
  · simp [hi, h]
  · have h2 : a.testBit i = false := Nat.testBit_lt_two_pow (Nat.lt_of_lt_of_le ha (by have := Nat.pow_le_pow_right (show 0 < 2 by decide) (show 12 ≤ i by omega); exact this))
    simp [hi, h, h2]
theorem dff_0 {a s : Nat} : dff a s = 0 ↔ sbs a s = true := by
  unfold sbs
  rw [allb_iff]
  constructor
  · intro h k hk
    have h1 : (dff a s).testBit k = false := by rw [h]; exact Nat.zero_testBit k
    unfold dff at h1
    rw [bset_bit, decide_eq_true hk, Bool.true_and] at h1
    cases ha : a.testBit k <;> cases hs : s.testBit k <;> simp_all
  · intro h
    apply Nat.eq_of_testBit_eq
    intro i
    rw [Nat.zero_testBit]
    unfold dff
    rw [bset_bit]
    by_cases hi : i < 12
    · have := h i hi
      cases ha : a.testBit i <;> cases hs : s.testBit i <;> simp_all
    · simp [hi]
theorem and_pw {s x : Nat} : s &&& 2 ^ x = if s.testBit x = true then 2 ^ x else 0 := by
  apply Nat.eq_of_testBit_eq
  intro i
  rw [Nat.testBit_and]
  by_cases e : i = x
  · subst e
    rw [Nat.testBit_two_pow_self, Bool.and_true]
    cases h : s.testBit i
    · rw [if_neg (by decide), Nat.zero_testBit]
    · rw [if_pos rfl, Nat.testBit_two_pow_self]
  · rw [Nat.testBit_two_pow_of_ne (by omega), Bool.and_false]
    split
    · rw [Nat.testBit_two_pow_of_ne (by omega)]
    · rw [Nat.zero_testBit]
theorem pw12 {x : Nat} (hx : x < 12) : 0 < 2 ^ x ∧ 2 ^ x < 4096 := ⟨Nat.two_pow_pos x, by have := Nat.pow_lt_pow_right (show 1 < 2 by decide) hx; exact this⟩
/-- the class's test of a letter -/
theorem z_ava {ms : Nat → Nat} {s x : Nat} (hs : s < 4096) (hx : x < 12) (hm : ms x < 4096) : (z_or (z_and (s : Int) (z_shl 1 (x : Int))) (z_and ((ms x : Nat) : Int) (z_xor (s : Int) (-1))) = 0) ↔ ava ms s x = true := by
  have h1 := pw12 hx
  have h2 := dff_lt (ms x) s
  rw [z_shl1 (by omega), z_and_nat (by omega) (by omega), z_dff hm hs, and_pw]
  have h3 : (if s.testBit x = true then 2 ^ x else 0) < 2147483648 := by split <;> omega
  rw [z_or_nat h3 (by omega)]
  unfold ava
  rw [Bool.and_eq_true, Bool.not_eq_true', ← dff_0]
  constructor
  · intro h
    have h4 : (if s.testBit x = true then 2 ^ x else 0) ||| dff (ms x) s = 0 := by omega
    rw [Nat.or_eq_zero_iff] at h4
    refine ⟨?_, h4.2⟩
    cases hb : s.testBit x with
    | false => rfl
    | true => rw [hb, if_pos rfl] at h4; omega
  · rintro ⟨h4, h5⟩
    rw [h4, h5, if_neg (by decide)]
    rfl
theorem ava_bit {ms : Nat → Nat} {s x : Nat} (h : ava ms s x = true) : s.testBit x = false := by
  unfold ava at h
  rw [Bool.and_eq_true, Bool.not_eq_true'] at h
  exact h.1
theorem or_gt {s x : Nat} (h : s.testBit x = false) : s < s ||| 2 ^ x := by
  have h1 : s ≤ s ||| 2 ^ x := Nat.left_le_or
  have h2 : s ≠ s ||| 2 ^ x := by
    intro q
    have : (s ||| 2 ^ x).testBit x = true := by rw [or_bit]; simp
    rw [← q, h] at this
    exact absurd this (by decide)
  omega
/-- in how many ways it goes on behind a set -/
def wyT (ms : Nat → Nat) : Nat → Row
  | 0 => fun _ => 0
  | j + 1 => rup (wyT ms j) (4095 - j) ((if j = 0 then 1 else 0) + sm (fun x => if ava ms (4095 - j) x = true then wyT ms j ((4095 - j) ||| 2 ^ x) else 0) 12)
def wy (ms : Nat → Nat) : Row := wyT ms 4096
theorem wyT_st {ms : Nat → Nat} {s : Nat} : ∀ (i j : Nat), j + i ≤ 4096 → 4096 - j ≤ s → wyT ms (j + i) s = wyT ms j s := by
  intro i
  induction i with
  | zero => intro j _ _; rfl
  | succ i ih =>
    intro j h1 h2
    show rup (wyT ms (j + i)) (4095 - (j + i)) _ s = _
    rw [rup_ne (by omega)]
    exact ih j (by omega) h2
theorem wy_eq {ms : Nat → Nat} {s : Nat} (hs : s < 4096) : wy ms s = (if s = 4095 then 1 else 0) + sm (fun x => if ava ms s x = true then wy ms (s ||| 2 ^ x) else 0) 12 := by
  have h1 : wy ms s = wyT ms (4095 - s + 1) s := by
    have := wyT_st (ms := ms) (s := s) s (4095 - s + 1) (by omega) (by omega)
    rw [show 4095 - s + 1 + s = 4096 by omega] at this
    exact this
  rw [h1]
  show rup (wyT ms (4095 - s)) (4095 - (4095 - s)) _ s = _
  rw [show 4095 - (4095 - s) = s by omega, rup_same]
  congr 1
  · by_cases e : s = 4095
    · rw [if_pos (by omega), if_pos e]
    · rw [if_neg (by omega), if_neg e]
  · apply sm_congr
    intro x hx
    by_cases h : ava ms s x = true
    · rw [if_pos h, if_pos h]
      have h2 := or_gt (ava_bit h)
      have h3 := or_lt hs hx
      have := wyT_st (ms := ms) (s := s ||| 2 ^ x) (s + 1) (4095 - s) (by omega) (by omega)
      rw [show 4095 - s + (s + 1) = 4096 by omega] at this
      exact this.symm
    · rw [if_neg h, if_neg h]
/-- from the full set down -/
theorem setdown {Q : Nat → Prop} (h : ∀ s, s < 4096 → (∀ t, s < t → t < 4096 → Q t) → Q s) : ∀ s, s < 4096 → Q s := by
  have key : ∀ j s, s + j = 4096 → s < 4096 → Q s := by
    intro j
    induction j using Nat.strongRecOn with
    | ind j ih => intro s hj hs; exact h s hs (fun t ht1 ht2 => ih (4096 - t) (by omega) t (by omega) ht2)
  intro s hs
  exact key (4096 - s) s (by omega) hs
theorem sm_nn {g : Nat → Int} {n : Nat} (h : ∀ k, k < n → 0 ≤ g k) : 0 ≤ sm g n := by
  induction n with
  | zero => exact Int.le_refl _
  | succ n ih =>
    unfold sm
    have h1 := ih (fun k hk => h k (by omega))
    have h2 := h n (by omega)
    omega
theorem sm_mono {f g : Nat → Int} {n : Nat} (h : ∀ k, k < n → f k ≤ g k) : sm f n ≤ sm g n := by
  induction n with
  | zero => exact Int.le_refl _
  | succ n ih =>
    unfold sm
    have h1 := ih (fun k hk => h k (by omega))
    have h2 := h n (by omega)
    omega
theorem sm_le_at {g : Nat → Int} {n k : Nat} (h : ∀ k, k < n → 0 ≤ g k) (hk : k < n) : g k ≤ sm g n := by
  induction n with
  | zero => omega
  | succ n ih =>
    unfold sm
    have h1 := sm_nn (g := g) (n := n) (fun k hk => h k (by omega))
    have h2 := h n (by omega)
    by_cases e : k = n
    · subst e; omega
    · have := ih (fun k hk => h k (by omega)) (by omega)
      omega
theorem sm_part {g : Nat → Int} {n m : Nat} (h : ∀ k, k < m → 0 ≤ g k) (hn : n ≤ m) : sm g n ≤ sm g m := by
  induction m with
  | zero => rw [show n = 0 by omega]; exact Int.le_refl _
  | succ m ih =>
    by_cases e : n = m + 1
    · subst e; exact Int.le_refl _
    · have h1 := ih (fun k hk => h k (by omega)) (by omega)
      have h2 := h m (by omega)
      have h3 : sm g (m + 1) = sm g m + g m := rfl
      omega
theorem wy_nn {ms : Nat → Nat} : ∀ s, s < 4096 → 0 ≤ wy ms s := by
  apply setdown
  intro s hs ih
  rw [wy_eq hs]
  have : 0 ≤ sm (fun x => if ava ms s x = true then wy ms (s ||| 2 ^ x) else 0) 12 := sm_nn (fun x hx => by
    show 0 ≤ if ava ms s x = true then wy ms (s ||| 2 ^ x) else 0
    split
    · rename_i h; exact ih _ (or_gt (ava_bit h)) (or_lt hs hx)
    · exact Int.le_refl _)
  split <;> omega
/-- at most as many as letters that are left can stand in a row -/
def fac : Nat → Int
  | 0 => 1
  | n + 1 => ((n + 1 : Nat) : Int) * fac n
theorem fac_pos : ∀ n, 1 ≤ fac n := by
  intro n
  induction n with
  | zero => exact Int.le_refl _
  | succ n ih =>
    unfold fac
    have : (1 : Int) * 1 ≤ ((n + 1 : Nat) : Int) * fac n := Int.mul_le_mul (by omega) ih (by decide) (by omega)
    omega
theorem cnt_not {p : Nat → Bool} (n : Nat) : cnt (fun k => !p k) n + cnt p n = n := by
  induction n with
  | zero => rfl
  | succ n ih =>
    rw [cnt_succ, cnt_succ]
    cases p n <;> simp <;> omega
theorem sm_cnt {f : Nat → Int} {p : Nat → Bool} {B : Int} {n : Nat} (h : ∀ x, x < n → f x ≤ if p x = true then B else 0) : sm f n ≤ (cnt p n : Int) * B := by
  induction n with
  | zero => simp [sm, cnt]
  | succ n ih =>
    rw [cnt_succ]
    unfold sm
    have h1 := ih (fun x hx => h x (by omega))
    have h2 := h n (by omega)
    by_cases e : p n = true
    · rw [if_pos e] at h2 ⊢
      rw [Int.natCast_add, Int.add_mul]
      omega
    · rw [if_neg e] at h2 ⊢
      rw [Nat.add_zero]
      omega
theorem lt_full {s : Nat} (hs : s < 4096) (hne : s ≠ 4095) : cnt s.testBit 12 < 12 := by
  rcases Nat.lt_or_ge (cnt s.testBit 12) 12 with h | h
  · exact h
  · exfalso
    apply hne
    have h1 := cnt_full 12 (by have := cnt_le s.testBit 12; omega : cnt s.testBit 12 = 12)
    apply Nat.eq_of_testBit_eq
    intro i
    by_cases hi : i < 12
    · rw [h1 i hi]
      have : (4095 : Nat) = 2 ^ 12 - 1 := rfl
      rw [this, Nat.testBit_two_pow_sub_one, decide_eq_true hi]
    · have e1 : s.testBit i = false := Nat.testBit_lt_two_pow (Nat.lt_of_lt_of_le hs (by have := Nat.pow_le_pow_right (show 0 < 2 by decide) (show 12 ≤ i by omega); exact this))
      have : (4095 : Nat) = 2 ^ 12 - 1 := rfl
      rw [e1, this, Nat.testBit_two_pow_sub_one, decide_eq_false hi]
theorem ava_full {ms : Nat → Nat} {x : Nat} (hx : x < 12) : ava ms 4095 x = false := by
  unfold ava
  have : (4095 : Nat).testBit x = true := by
    have : (4095 : Nat) = 2 ^ 12 - 1 := rfl
    rw [this, Nat.testBit_two_pow_sub_one, decide_eq_true hx]
  rw [this]; rfl
theorem wy_full {ms : Nat → Nat} : wy ms 4095 = 1 := by
  rw [wy_eq (by omega), if_pos rfl, sm_congr (g := fun _ => 0) (fun x hx => by rw [ava_full hx]; rfl), sm_zero]
  rfl
/-- letters that may come, each with the ways of one fewer -/
theorem ava_fac {ms : Nat → Nat} {s : Nat} (hs : s < 4096) (hne : s ≠ 4095) : sm (fun x => if ava ms s x = true then fac (12 - cnt (s ||| 2 ^ x).testBit 12) else 0) 12 ≤ fac (12 - cnt s.testBit 12) := by
  have hc := lt_full hs hne
  obtain ⟨q, hq⟩ : ∃ q, 12 - cnt s.testBit 12 = q + 1 := ⟨11 - cnt s.testBit 12, by omega⟩
  have h1 := sm_cnt (f := fun x => if ava ms s x = true then fac (12 - cnt (s ||| 2 ^ x).testBit 12) else 0) (p := fun x => !s.testBit x) (B := fac q) (n := 12) (fun x hx => by
    show (if ava ms s x = true then fac (12 - cnt (s ||| 2 ^ x).testBit 12) else 0) ≤ _
    by_cases h : ava ms s x = true
    · have hb := ava_bit h
      rw [if_pos h, cnt_or hx hb, if_pos (by rw [hb]; rfl), show 12 - (cnt s.testBit 12 + 1) = q by omega]
      exact Int.le_refl _
    · rw [if_neg h]
      have := fac_pos q
      split <;> omega)
  have h2 := cnt_not (p := s.testBit) 12
  rw [show cnt (fun x => !s.testBit x) 12 = q + 1 by omega] at h1
  rw [hq]
  exact h1
theorem wy_le {ms : Nat → Nat} : ∀ s, s < 4096 → wy ms s ≤ fac (12 - cnt s.testBit 12) := by
  apply setdown
  intro s hs ih
  by_cases hne : s = 4095
  · subst hne
    rw [wy_full]
    exact fac_pos _
  · rw [wy_eq hs, if_neg hne]
    have h1 := ava_fac (ms := ms) hs hne
    have h2 : sm (fun x => if ava ms s x = true then wy ms (s ||| 2 ^ x) else 0) 12 ≤ sm (fun x => if ava ms s x = true then fac (12 - cnt (s ||| 2 ^ x).testBit 12) else 0) 12 := sm_mono (fun x hx => by
      show (if ava ms s x = true then wy ms (s ||| 2 ^ x) else 0) ≤ if ava ms s x = true then fac (12 - cnt (s ||| 2 ^ x).testBit 12) else 0
      split
      · rename_i h; exact ih _ (or_gt (ava_bit h)) (or_lt hs hx)
      · exact Int.le_refl _)
    omega
theorem fac_mono {a b : Nat} (h : a ≤ b) : fac a ≤ fac b := by
  induction b with
  | zero => rw [show a = 0 by omega]; exact Int.le_refl _
  | succ b ih =>
    by_cases e : a = b + 1
    · subst e; exact Int.le_refl _
    · have h1 := ih (by omega)
      have h2 : fac (b + 1) = ((b + 1 : Nat) : Int) * fac b := rfl
      have h3 : (1 : Int) * fac b ≤ ((b + 1 : Nat) : Int) * fac b := Int.mul_le_mul_of_nonneg_right (by omega) (by have := fac_pos b; omega)
      omega
theorem fac12 : fac 12 = 479001600 := by decide
theorem wy_rg {ms : Nat → Nat} {s : Nat} (hs : s < 4096) : 0 ≤ wy ms s ∧ wy ms s ≤ 479001600 := by
  refine ⟨wy_nn s hs, ?_⟩
  have h1 := wy_le (ms := ms) s hs
  have h2 := fac_mono (show 12 - cnt s.testBit 12 ≤ 12 by omega)
  rw [fac12] at h2
  omega
