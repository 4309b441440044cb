/-! tools for runs over rows of memory -/
theorem cT {α : Type} {p : Prop} [Decidable p] {x y : α} (h : p) : (bif decide p then x else y) = x := by simp [h]
theorem cF {α : Type} {p : Prop} [Decidable p] {x y : α} (h : ¬ p) : (bif decide p then x else y) = y := by simp [h]
theorem nT {α : Type} {p : Prop} [Decidable p] {x y : α} (h : p) : (bif !decide p then x else y) = y := by simp [h]
theorem nF {α : Type} {p : Prop} [Decidable p] {x y : α} (h : ¬ p) : (bif !decide p then x else y) = x := by simp [h]
theorem ob (r : Int) (m : Mu) (f : Int × Mu → mR) : Option.bind (some (r, m)) f = f (r, m) := rfl
def ok (x : mR) (Q : Int → Mu → Prop) : Prop := ∃ r m, x = some (r, m) ∧ Q r m
theorem ok_some {r : Int} {m : Mu} {Q : Int → Mu → Prop} (h : Q r m) : ok (some (r, m)) Q := ⟨r, m, rfl, h⟩
theorem ok_bind {x : mR} {f : Int × Mu → mR} {Q : Int → Mu → Prop} (h : ok x (fun r m => ok (f (r, m)) Q)) : ok (x.bind f) Q := by
  obtain ⟨r, m, h1, h2⟩ := h
  rw [h1]; exact h2
theorem ok_mono {x : mR} {Q Q' : Int → Mu → Prop} (h : ok x Q) (h2 : ∀ r m, Q r m → Q' r m) : ok x Q' := by
  obtain ⟨r, m, h1, h3⟩ := h
  exact ⟨r, m, h1, h2 r m h3⟩
theorem ok_eq {x : mR} {r : Int} {m : Mu} {Q : Int → Mu → Prop} (h : x = some (r, m)) (h2 : Q r m) : ok x Q := ⟨r, m, h, h2⟩
theorem down {n : Nat} {P : Nat → Prop} (h0 : P n) (hs : ∀ k, k < n → P (k + 1) → P k) : ∀ k, k ≤ n → P k := by
  have h : ∀ j k, k + j = n → P k := by
    intro j
    induction j with
    | zero => intro k h; have e : k = n := by omega
              rw [e]; exact h0
    | succ j ih => intro k h; exact hs k (by omega) (ih (k + 1) (by omega))
  intro k hk
  exact h (n - k) k (by omega)
theorem pred_of {d k : Nat} (h : k + 1 ≤ d) : ∃ e, d = e + 1 ∧ k ≤ e := ⟨d - 1, by omega, by omega⟩
theorem tn {x : Int} {n : Nat} (h : x = (n : Int)) : x.toNat = n := by omega
theorem cs (k : Nat) : ((k : Int) + 1) = ((k + 1 : Nat) : Int) := by omega
theorem zwc {k : Nat} (h : k < 2147483647) : zw ((k : Int) + 1) = ((k + 1 : Nat) : Int) := by rw [zw_id (by omega) (by omega)]; omega
/-- rows -/
abbrev Row : Type := Nat → Int
def rup (h : Row) (k : Nat) (v : Int) : Row := fun j => if j = k then v else h j
theorem rup_same {h : Row} {k : Nat} {v : Int} : rup h k v k = v := by simp [rup]
theorem rup_ne {h : Row} {k j : Nat} {v : Int} (hj : j ≠ k) : rup h k v j = h j := by simp [rup, hj]
theorem rup_id {h : Row} {k : Nat} : rup h k (h k) = h := by
  funext j; unfold rup; split
  · rename_i e; rw [e]
  · rfl
theorem rup_rup {h : Row} {k : Nat} {v w : Int} : rup (rup h k v) k w = rup h k w := by
  funext j; unfold rup; split <;> rfl
def zrow (μ : Mu) (a : Nat) (h : Row) : Mu := fun b => if b = a then h else μ b
theorem zrow_same {μ : Mu} {a : Nat} {h : Row} : zrow μ a h a = h := by simp [zrow]
theorem zrow_ne {μ : Mu} {a b : Nat} {h : Row} (hb : b ≠ a) : zrow μ a h b = μ b := by simp [zrow, hb]
theorem zrow_id {μ : Mu} {a : Nat} : zrow μ a (μ a) = μ := by
  funext b; unfold zrow; split
  · rename_i e; rw [e]
  · rfl
theorem zrow_zrow {μ : Mu} {a : Nat} {h g : Row} : zrow (zrow μ a h) a g = zrow μ a g := by
  funext b; unfold zrow; split <;> rfl
theorem zrow_comm {μ : Mu} {a b : Nat} {h g : Row} (hab : a ≠ b) : zrow (zrow μ a h) b g = zrow (zrow μ b g) a h := by
  funext c; unfold zrow
  by_cases h1 : c = a
  · by_cases h2 : c = b
    · exact absurd (h1.symm.trans h2) hab
    · simp [h1, h2, hab]
  · by_cases h2 : c = b <;> simp [h1, h2, Ne.symm hab]
theorem zupr (μ : Mu) (a k : Nat) (v : Int) : zup μ a k v = zrow μ a (rup (μ a) k v) := by
  funext b j
  unfold zup zrow rup
  by_cases hb : b = a
  · subst hb; simp
  · simp [hb]
theorem zcpy_row (μ : Mu) (a sp b dp n : Nat) : zcpy μ a sp b dp n = zrow μ b (fun j => if dp ≤ j ∧ j < dp + n then μ a (sp + (j - dp)) else μ b j) := by
  funext c j
  unfold zcpy zrow
  by_cases hb : c = b
  · subst hb; simp
  · simp [hb]
/-- counting, sets of places, the first place -/
def cnt (p : Nat → Bool) : Nat → Nat
  | 0 => 0
  | n + 1 => cnt p n + (if p n then 1 else 0)
theorem cnt_le (p : Nat → Bool) (n : Nat) : cnt p n ≤ n := by
  induction n with
  | zero => exact Nat.le_refl _
  | succ n ih => unfold cnt; split <;> omega
theorem cnt_congr {p q : Nat → Bool} {n : Nat} (h : ∀ k, k < n → p k = q k) : cnt p n = cnt q n := by
  induction n with
  | zero => rfl
  | succ n ih => unfold cnt; rw [ih (fun k hk => h k (by omega)), h n (by omega)]
def sm (g : Nat → Int) : Nat → Int
  | 0 => 0
  | n + 1 => sm g n + g n
theorem sm_congr {f g : Nat → Int} {n : Nat} (h : ∀ k, k < n → f k = g k) : sm f n = sm g n := by
  induction n with
  | zero => rfl
  | succ n ih => unfold sm; rw [ih (fun k hk => h k (by omega)), h n (by omega)]
theorem sm_bound {g : Nat → Int} {b : Int} (h : ∀ k, 0 ≤ g k ∧ g k ≤ b) (n : Nat) : 0 ≤ sm g n ∧ sm g n ≤ n * b := by
  induction n with
  | zero => simp [sm]
  | succ n ih =>
    unfold sm
    have h1 := h n
    have h2 : ((n + 1 : Nat) : Int) * b = n * b + b := by rw [Int.natCast_add, Int.add_mul]; simp
    omega
def bset (p : Nat → Bool) : Nat → Nat
  | 0 => 0
  | n + 1 => bset p n ||| (if p n then 2 ^ n else 0)
theorem bset_lt (p : Nat → Bool) (n : Nat) : bset p n < 2 ^ n := by
  induction n with
  | zero => simp [bset]
  | succ n ih =>
    unfold bset
    have h1 : 2 ^ n < 2 ^ (n + 1) := Nat.pow_lt_pow_right (by omega) (by omega)
    apply Nat.or_lt_two_pow
    · omega
    · split
      · exact h1
      · exact Nat.two_pow_pos _
theorem bset_bit (p : Nat → Bool) (n k : Nat) : (bset p n).testBit k = (decide (k < n) && p k) := by
  induction n with
  | zero => simp [bset]
  | succ n ih =>
    unfold bset
    rw [Nat.testBit_or, ih]
    by_cases h1 : k = n
    · subst h1
      split <;> rename_i h2 <;> simp [h2, Nat.testBit_two_pow_self]
    · have h3 : (2 ^ n).testBit k = false := Nat.testBit_two_pow_of_ne (by omega)
      have h4 : decide (k < n + 1) = decide (k < n) := by
        apply decide_eq_decide.mpr; omega
      split <;> simp [h3, h4]
def ffst (p : Nat → Bool) : Nat → Nat → Int
  | 0, _ => -1
  | j + 1, k => if p k then (k : Int) else ffst p j (k + 1)
def fst1 (p : Nat → Bool) (n : Nat) : Int := ffst p n 0
theorem ffst_congr {p q : Nat → Bool} (j : Nat) : ∀ k, (∀ i, k ≤ i → i < k + j → p i = q i) → ffst p j k = ffst q j k := by
  induction j with
  | zero => intro k h; rfl
  | succ j ih => intro k h; unfold ffst; rw [h k (by omega) (by omega), ih (k + 1) (fun i h1 h2 => h i (by omega) (by omega))]
theorem fst1_congr {p q : Nat → Bool} {n : Nat} (h : ∀ i, i < n → p i = q i) : fst1 p n = fst1 q n := ffst_congr n 0 (fun i _ h2 => h i (by omega))
theorem ffst_sp (p : Nat → Bool) (j : Nat) : ∀ k, (ffst p j k = -1 ∧ ∀ i, k ≤ i → i < k + j → p i = false) ∨ (∃ w : Nat, ffst p j k = (w : Int) ∧ k ≤ w ∧ w < k + j ∧ p w = true ∧ ∀ i, k ≤ i → i < w → p i = false) := by
  induction j with
  | zero => intro k; left; exact ⟨rfl, fun i h1 h2 => by omega⟩
  | succ j ih =>
    intro k
    by_cases h : p k
    · right; exact ⟨k, by simp [ffst, h], by omega, by omega, h, fun i h1 h2 => by omega⟩
    · rcases ih (k + 1) with ⟨h1, h2⟩ | ⟨w, h1, h2, h3, h4, h5⟩
      · left
        refine ⟨by simp [ffst, h, h1], fun i hi hj => ?_⟩
        by_cases e : i = k
        · subst e; simpa using h
        · exact h2 i (by omega) (by omega)
      · right
        refine ⟨w, by simp [ffst, h, h1], by omega, by omega, h4, fun i hi hj => ?_⟩
        by_cases e : i = k
        · subst e; simpa using h
        · exact h5 i (by omega) hj
theorem fst1_sp (p : Nat → Bool) (n : Nat) : (fst1 p n = -1 ∧ ∀ i, i < n → p i = false) ∨ (∃ w : Nat, fst1 p n = (w : Int) ∧ w < n ∧ p w = true ∧ ∀ i, i < w → p i = false) := by
  rcases ffst_sp p n 0 with ⟨h1, h2⟩ | ⟨w, h1, _, h3, h4, h5⟩
  · left; exact ⟨h1, fun i hi => h2 i (by omega) (by omega)⟩
  · right; exact ⟨w, h1, by omega, h4, fun i hi => h5 i (by omega) hi⟩
/-- sets as numbers -/
theorem s_or1 {x k : Nat} (hx : x < 2147483648) (hk : k < 31) : z_or (x : Int) (z_shl 1 (k : Int)) = ((x ||| 2 ^ k : Nat) : Int) := by
  rw [z_shl1 hk]
  have h : 2 ^ k < 2 ^ 31 := Nat.pow_lt_pow_right (by omega) hk
  exact z_or_nat hx (by omega)
