/-! sums in another order -/
theorem sm_add (f g : Nat → Int) (n : Nat) : sm (fun k => f k + g k) n = sm f n + sm g n := by
  induction n with
  | zero => rfl
  | succ n ih =>
    show sm (fun k => f k + g k) n + (f n + g n) = (sm f n + f n) + (sm g n + g n)
    omega
theorem sm_zero (n : Nat) : sm (fun _ => 0) n = 0 := by
  induction n with
  | zero => rfl
  | succ n ih =>
    show sm (fun _ => 0) n + 0 = 0
    omega
theorem sm_swap (F : Nat → Nat → Int) (n m : Nat) : sm (fun j => sm (fun x => F j x) m) n = sm (fun x => sm (fun j => F j x) n) m := by
  induction n with
  | zero => exact (sm_zero m).symm
  | succ n ih =>
    show sm (fun j => sm (fun x => F j x) m) n + sm (fun x => F n x) m = sm (fun x => sm (fun j => F j x) n + F n x) m
    rw [sm_add, ih]
theorem sm_one (h : Nat → Int) (y n : Nat) : sm (fun x => if y = x then h x else 0) n = if y < n then h y else 0 := by
  induction n with
  | zero => rfl
  | succ n ih =>
    show sm (fun x => if y = x then h x else 0) n + (if y = n then h n else 0) = _
    rw [ih]
    by_cases h1 : y < n
    · rw [if_pos h1, if_neg (by omega), if_pos (by omega)]; omega
    · rw [if_neg h1]
      by_cases h2 : y = n
      · rw [if_pos h2, if_pos (by omega), h2]; omega
      · rw [if_neg h2, if_neg (by omega)]; omega
theorem sm_perm (h : Nat → Int) (r k : Nat → Nat) (n : Nat) (hr : ∀ j, j < n → r j < n) (hk : ∀ x, x < n → k x < n) (h1 : ∀ j, j < n → k (r j) = j) (h2 : ∀ x, x < n → r (k x) = x) : sm (fun j => h (r j)) n = sm h n := by
  have e1 : sm (fun j => h (r j)) n = sm (fun j => sm (fun x => if r j = x then h x else 0) n) n := by
    apply sm_congr
    intro j hj
    rw [sm_one, if_pos (hr j hj)]
  rw [e1, sm_swap]
  apply sm_congr
  intro x hx
  have e2 : sm (fun j => if r j = x then h x else 0) n = sm (fun j => if k x = j then h x else 0) n := by
    apply sm_congr
    intro j hj
    by_cases hc : r j = x
    · rw [if_pos hc, if_pos (by rw [← hc, h1 j hj])]
    · rw [if_neg hc, if_neg (by intro q; exact hc (by rw [← q, h2 x hx]))]
  rw [e2, sm_one (fun _ => h x), if_pos (hk x hx)]
