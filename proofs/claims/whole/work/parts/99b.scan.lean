/-! sets of words in rising order, and the search through them -/
def stp2 (p : Int × Nat) : Option (Int × Nat) → Int × Nat
  | none => p
  | some q => if p.1 < q.1 then q else p
def scn (f : Nat → Option (Int × Nat)) : Nat → Int × Nat → Int × Nat
  | 0, p => p
  | n + 1, p => stp2 (scn f n p) (f n)
theorem scn_add (f : Nat → Option (Int × Nat)) (A : Nat) (p : Int × Nat) : ∀ B, scn f (A + B) p = scn (fun i => f (A + i)) B (scn f A p) := by
  intro B
  induction B with
  | zero => rfl
  | succ B ih =>
    show stp2 (scn f (A + B) p) (f (A + B)) = stp2 (scn (fun i => f (A + i)) B (scn f A p)) (f (A + B))
    rw [ih]
theorem scn_congr {f g : Nat → Option (Int × Nat)} {p : Int × Nat} : ∀ n, (∀ i, i < n → f i = g i) → scn f n p = scn g n p := by
  intro n
  induction n with
  | zero => intro _; rfl
  | succ n ih =>
    intro h
    show stp2 (scn f n p) (f n) = stp2 (scn g n p) (g n)
    rw [ih (fun i hi => h i (by omega)), h n (by omega)]
theorem scn_none {f : Nat → Option (Int × Nat)} {p : Int × Nat} : ∀ n, (∀ i, i < n → ∀ q, f i = some q → q.1 ≤ p.1) → scn f n p = p := by
  intro n
  induction n with
  | zero => intro _; rfl
  | succ n ih =>
    intro h
    show stp2 (scn f n p) (f n) = p
    rw [ih (fun i hi => h i (by omega))]
    cases hf : f n with
    | none => rfl
    | some q =>
      have := h n (by omega) q hf
      show (if p.1 < q.1 then q else p) = p
      rw [if_neg (by omega)]
theorem scn_first {f : Nat → Option (Int × Nat)} {p : Int × Nat} {q : Int × Nat} (hf : f 0 = some q) : ∀ n, 1 ≤ n → scn f n (stp2 p (some q)) = scn f n p := by
  intro n
  induction n with
  | zero => intro h; omega
  | succ n ih =>
    intro _
    by_cases h1 : 1 ≤ n
    · show stp2 (scn f n (stp2 p (some q))) (f n) = stp2 (scn f n p) (f n)
      rw [ih h1]
    · have h0 : n = 0 := by omega
      subst h0
      show stp2 (stp2 p (some q)) (f 0) = stp2 p (f 0)
      rw [hf]
      show (if (if p.1 < q.1 then q else p).1 < q.1 then q else (if p.1 < q.1 then q else p)) = (if p.1 < q.1 then q else p)
      by_cases h : p.1 < q.1
      · rw [if_pos h]
        split <;> rfl
      · rw [if_neg h, if_neg h]
theorem scn_ge {f : Nat → Option (Int × Nat)} {p : Int × Nat} : ∀ n, p.1 ≤ (scn f n p).1 := by
  intro n
  induction n with
  | zero => exact Int.le_refl _
  | succ n ih =>
    show p.1 ≤ (stp2 (scn f n p) (f n)).1
    cases hf : f n with
    | none => exact ih
    | some q =>
      show p.1 ≤ (if (scn f n p).1 < q.1 then q else scn f n p).1
      split
      · omega
      · exact ih
/-- with a floor: the floor, or the most -/
theorem scn_floor {f : Nat → Option (Int × Nat)} {a : Int} {x y : Nat} (ha : -1 ≤ a) : ∀ n, (scn f n (a, x)).1 = if (scn f n (-1, y)).1 < a then a else (scn f n (-1, y)).1 := by
  intro n
  induction n with
  | zero =>
    show a = if (-1 : Int) < a then a else -1
    split <;> omega
  | succ n ih =>
    show (stp2 (scn f n (a, x)) (f n)).1 = if (stp2 (scn f n (-1, y)) (f n)).1 < a then a else (stp2 (scn f n (-1, y)) (f n)).1
    cases hf : f n with
    | none => exact ih
    | some q =>
      show (if (scn f n (a, x)).1 < q.1 then q else scn f n (a, x)).1 = if (if (scn f n (-1, y)).1 < q.1 then q else scn f n (-1, y)).1 < a then a else (if (scn f n (-1, y)).1 < q.1 then q else scn f n (-1, y)).1
      generalize scn f n (a, x) = P at ih ⊢
      generalize scn f n (-1, y) = R at ih ⊢
      by_cases h1 : P.1 < q.1
      · rw [if_pos h1]
        by_cases h2 : R.1 < q.1
        · rw [if_pos h2]
          split at ih
          · rw [if_neg (by omega)]
          · rw [if_neg (by omega)]
        · rw [if_neg h2]
          split at ih
          · omega
          · omega
      · rw [if_neg h1]
        by_cases h2 : R.1 < q.1
        · rw [if_pos h2]
          split at ih
          · split <;> omega
          · omega
        · rw [if_neg h2]
          exact ih
/-- sums over a set -/
def smT (val : Nat → Int) (T k : Nat) : Int := sm (fun w => if T.testBit w = true then val w else 0) k
theorem smT_congr {val : Nat → Int} {T T' k : Nat} (h : ∀ w, w < k → T'.testBit w = T.testBit w) : smT val T' k = smT val T k := sm_congr (fun w hw => by rw [h w hw])
theorem smT_nn {val : Nat → Int} {T : Nat} : ∀ k, (∀ w, w < k → 0 ≤ val w) → 0 ≤ smT val T k := by
  intro k
  induction k with
  | zero => intro _; exact Int.le_refl 0
  | succ k ih =>
    intro h
    have h1 := ih (fun w hw => h w (by omega))
    have h2 := h k (by omega)
    show 0 ≤ smT val T k + (if T.testBit k = true then val k else 0)
    split <;> omega
theorem smT_0 {val : Nat → Int} {T : Nat} : ∀ k, cnt T.testBit k = 0 → smT val T k = 0 := by
  intro k
  induction k with
  | zero => intro _; rfl
  | succ k ih =>
    intro h
    rw [cnt_succ] at h
    have h1 : ¬ T.testBit k = true := by
      intro e; rw [if_pos e] at h; omega
    show smT val T k + (if T.testBit k = true then val k else 0) = 0
    rw [if_neg h1, ih (by omega)]
    rfl
def okT (us : Nat → Bool) (cl : Nat → Nat) (nd : Nat → Nat → Int) (room : Nat) (st : Nat → Int) (ch T k : Nat) : Prop := cnt T.testBit k ≤ room ∧ (∀ w, w < k → T.testBit w = true → us w = true ∧ cl w &&& ch = 0 ∧ ∀ v, w < v → v < k → T.testBit v = true → (cl w).testBit v = false) ∧ ∀ x, x < 12 → smT (fun w => nd w x) T k ≤ st x
noncomputable def gT (val : Nat → Int) (us : Nat → Bool) (cl : Nat → Nat) (nd : Nat → Nat → Int) (room : Nat) (st : Nat → Int) (ch : Nat) (sum : Int) (k T : Nat) : Option (Int × Nat) := @ite _ (okT us cl nd room st ch T k) (Classical.propDecidable _) (some (sum + smT val T k, ch ||| T)) none
theorem gT_y {val : Nat → Int} {us : Nat → Bool} {cl : Nat → Nat} {nd : Nat → Nat → Int} {room : Nat} {st : Nat → Int} {ch : Nat} {sum : Int} {k T : Nat} (h : okT us cl nd room st ch T k) : gT val us cl nd room st ch sum k T = some (sum + smT val T k, ch ||| T) := if_pos h
theorem gT_n {val : Nat → Int} {us : Nat → Bool} {cl : Nat → Nat} {nd : Nat → Nat → Int} {room : Nat} {st : Nat → Int} {ch : Nat} {sum : Int} {k T : Nat} (h : ¬ okT us cl nd room st ch T k) : gT val us cl nd room st ch sum k T = none := if_neg h
def CHs (val : Nat → Int) (us : Nat → Bool) (cl : Nat → Nat) (nd : Nat → Nat → Int) (bnd : Nat → Nat → Int) : Nat → Nat → (Nat → Int) → Int → Nat → Int × Nat → Int × Nat
  | 0, _, _, sum, ch, p => stp2 p (some (sum, ch))
  | k + 1, room, st, sum, ch, p =>
    if room < 1 ∨ sum + bnd (k + 1) room ≤ (stp2 p (some (sum, ch))).1 then stp2 p (some (sum, ch))
    else if us k = true ∧ cl k &&& ch = 0 ∧ allb (fun x => decide (0 ≤ st x - nd k x)) 12 = true then CHs val us cl nd bnd k (room - 1) (fun x => st x - nd k x) (sum + val k) (ch ||| 2 ^ k) (CHs val us cl nd bnd k room st sum ch (stp2 p (some (sum, ch))))
    else CHs val us cl nd bnd k room st sum ch (stp2 p (some (sum, ch)))
def bn (iv : Nat → Int) : Nat → Nat → Int
  | 0, _ => 0
  | _ + 1, 0 => 0
  | k + 1, r + 1 => if bn iv k (r + 1) < iv k + bn iv k r then iv k + bn iv k r else bn iv k (r + 1)
theorem bn_0 (iv : Nat → Int) : ∀ k, bn iv k 0 = 0
  | 0 => rfl
  | _ + 1 => rfl
theorem bn_ok {val iv : Nat → Int} {us : Nat → Bool} (hiv : ∀ w, us w = true → iv w = val w) : ∀ (k r T : Nat), (∀ w, w < k → T.testBit w = true → us w = true) → cnt T.testBit k ≤ r → smT val T k ≤ bn iv k r := by
  intro k
  induction k with
  | zero => intro r T _ _; exact Int.le_refl 0
  | succ k ih =>
    intro r T hu hc
    rw [cnt_succ] at hc
    show smT val T k + (if T.testBit k = true then val k else 0) ≤ bn iv (k + 1) r
    by_cases hb : T.testBit k = true
    · rw [if_pos hb] at hc ⊢
      cases r with
      | zero => omega
      | succ r =>
        have h1 := ih r T (fun w hw => hu w (by omega)) (by omega)
        have h2 := hiv k (hu k (by omega) hb)
        show smT val T k + val k ≤ (if bn iv k (r + 1) < iv k + bn iv k r then iv k + bn iv k r else bn iv k (r + 1))
        split <;> omega
    · rw [if_neg hb] at hc ⊢
      have h1 := ih r T (fun w hw => hu w (by omega)) (by omega)
      cases r with
      | zero =>
        rw [bn_0] at h1
        show smT val T k + 0 ≤ 0
        omega
      | succ r =>
        show smT val T k + 0 ≤ (if bn iv k (r + 1) < iv k + bn iv k r then iv k + bn iv k r else bn iv k (r + 1))
        split <;> omega
theorem two_bit {k i j : Nat} (hi : i < 2 ^ k) : (2 ^ k + i).testBit j = if j < k then i.testBit j else decide (j = k) := by
  have h := Nat.testBit_two_pow_mul_add 1 hi j
  rw [Nat.mul_one] at h
  rw [h]
  by_cases hj : j < k
  · rw [if_pos hj, if_pos hj]
  · rw [if_neg hj, if_neg hj]
    by_cases e : j = k
    · subst e
      rw [Nat.sub_self]
      simp
    · rw [decide_eq_false e]
      exact Nat.testBit_two_pow_of_ne (n := 0) (m := j - k) (by omega)
theorem and0 {a b : Nat} : a &&& b = 0 ↔ ∀ j, (a.testBit j && b.testBit j) = false := by
  constructor
  · intro h j
    rw [← Nat.testBit_and, h, Nat.zero_testBit]
  · intro h
    apply Nat.eq_of_testBit_eq
    intro j
    rw [Nat.testBit_and, h j, Nat.zero_testBit]
theorem and0_or {a b k : Nat} : a &&& (b ||| 2 ^ k) = 0 ↔ a &&& b = 0 ∧ a.testBit k = false := by
  rw [and0, and0]
  constructor
  · intro h
    refine ⟨fun j => ?_, ?_⟩
    · have := h j
      rw [or_bit] at this
      cases h1 : a.testBit j
      · rfl
      · rw [h1, Bool.true_and, Bool.or_eq_false_iff] at this
        rw [this.1]
        rfl
    · have := h k
      rw [or_bit, decide_eq_true rfl, Bool.or_true, Bool.and_true] at this
      exact this
  · intro h j
    rw [or_bit]
    by_cases e : j = k
    · subst e
      rw [h.2]
      rfl
    · rw [decide_eq_false e, Bool.or_false]
      exact h.1 j
theorem cnt_zero (k : Nat) : cnt (0 : Nat).testBit k = 0 := by
  induction k with
  | zero => rfl
  | succ k ih => rw [cnt_succ, ih, Nat.zero_testBit]; rfl
theorem okT_0 {us : Nat → Bool} {cl : Nat → Nat} {nd : Nat → Nat → Int} {room : Nat} {st : Nat → Int} {ch k : Nat} (hst : ∀ x, x < 12 → 0 ≤ st x) : okT us cl nd room st ch 0 k := by
  refine ⟨by rw [cnt_zero]; omega, fun w _ h => ?_, fun x hx => ?_⟩
  · rw [Nat.zero_testBit] at h; exact absurd h (by decide)
  · rw [smT_0 k (cnt_zero k)]; exact hst x hx
theorem smT_low {val : Nat → Int} {T k : Nat} (h : T < 2 ^ k) : smT val T (k + 1) = smT val T k := by
  show smT val T k + (if T.testBit k = true then val k else 0) = _
  rw [Nat.testBit_lt_two_pow h, if_neg (by decide)]
  omega
theorem okT_low {us : Nat → Bool} {cl : Nat → Nat} {nd : Nat → Nat → Int} {room : Nat} {st : Nat → Int} {ch k T : Nat} (h : T < 2 ^ k) : okT us cl nd room st ch T (k + 1) ↔ okT us cl nd room st ch T k := by
  have hb := Nat.testBit_lt_two_pow h
  unfold okT
  constructor
  · rintro ⟨h1, h2, h3⟩
    refine ⟨by rw [cnt_succ, hb] at h1; simpa using h1, fun w hw hT => ?_, fun x hx => by rw [← smT_low h]; exact h3 x hx⟩
    obtain ⟨q1, q2, q3⟩ := h2 w (by omega) hT
    exact ⟨q1, q2, fun v hv hvk hvT => q3 v hv (by omega) hvT⟩
  · rintro ⟨h1, h2, h3⟩
    refine ⟨by rw [cnt_succ, hb]; simpa using h1, fun w hw hT => ?_, fun x hx => by rw [smT_low h]; exact h3 x hx⟩
    have hwk : w < k := by
      rcases Nat.lt_or_ge w k with q | q
      · exact q
      · have : w = k := by omega
        rw [this, hb] at hT; exact absurd hT (by decide)
    obtain ⟨q1, q2, q3⟩ := h2 w hwk hT
    refine ⟨q1, q2, fun v hv hvk hvT => ?_⟩
    rcases Nat.lt_or_ge v k with q | q
    · exact q3 v hv q hvT
    · have : v = k := by omega
      rw [this, hb] at hvT; exact absurd hvT (by decide)
theorem smT_high {val : Nat → Int} {i k : Nat} (h : i < 2 ^ k) : smT val (2 ^ k + i) (k + 1) = smT val i k + val k := by
  show smT val (2 ^ k + i) k + (if (2 ^ k + i).testBit k = true then val k else 0) = _
  have hk : (2 ^ k + i).testBit k = true := by rw [two_bit h, if_neg (by omega)]; exact decide_eq_true rfl
  rw [hk, if_pos rfl, smT_congr (T := i) (fun w hw => by rw [two_bit h, if_pos hw])]
theorem okT_high {us : Nat → Bool} {cl : Nat → Nat} {nd : Nat → Nat → Int} {room : Nat} {st : Nat → Int} {ch k i : Nat} (h : i < 2 ^ k) : okT us cl nd room st ch (2 ^ k + i) (k + 1) ↔ (us k = true ∧ cl k &&& ch = 0 ∧ 1 ≤ room ∧ okT us cl nd (room - 1) (fun x => st x - nd k x) (ch ||| 2 ^ k) i k) := by
  have hk : (2 ^ k + i).testBit k = true := by rw [two_bit h, if_neg (by omega)]; exact decide_eq_true rfl
  have hl : ∀ w, w < k → (2 ^ k + i).testBit w = i.testBit w := fun w hw => by rw [two_bit h, if_pos hw]
  have hc : cnt (2 ^ k + i).testBit k = cnt i.testBit k := cnt_congr hl
  unfold okT
  constructor
  · rintro ⟨h1, h2, h3⟩
    rw [cnt_succ, hk, hc, if_pos rfl] at h1
    obtain ⟨q1, q2, _⟩ := h2 k (by omega) hk
    refine ⟨q1, q2, by omega, by omega, fun w hw hT => ?_, fun x hx => ?_⟩
    · obtain ⟨p1, p2, p3⟩ := h2 w (by omega) (by rw [hl w hw]; exact hT)
      exact ⟨p1, and0_or.mpr ⟨p2, p3 k hw (by omega) hk⟩, fun v hv hvk hvT => p3 v hv (by omega) (by rw [hl v hvk]; exact hvT)⟩
    · have := h3 x hx
      rw [smT_high h] at this
      show smT (fun w => nd w x) i k ≤ st x - nd k x
      omega
  · rintro ⟨q1, q2, h0, h1, h2, h3⟩
    refine ⟨by rw [cnt_succ, hk, hc, if_pos rfl]; omega, fun w hw hT => ?_, fun x hx => by rw [smT_high h]; have q : smT (fun w => nd w x) i k ≤ st x - nd k x := h3 x hx; show smT (fun w => nd w x) i k + nd k x ≤ st x; omega⟩
    rcases Nat.lt_or_ge w k with hwk | hwk
    · obtain ⟨p1, p2, p3⟩ := h2 w hwk (by rw [← hl w hwk]; exact hT)
      have p4 := and0_or.mp p2
      refine ⟨p1, p4.1, fun v hv hvk hvT => ?_⟩
      rcases Nat.lt_or_ge v k with hvk2 | hvk2
      · exact p3 v hv hvk2 (by rw [← hl v hvk2]; exact hvT)
      · have : v = k := by omega
        rw [this]; exact p4.2
    · have : w = k := by omega
      subst this
      exact ⟨q1, q2, fun v hv hvk => by omega⟩
theorem stp2_ge (p q : Int × Nat) : q.1 ≤ (stp2 p (some q)).1 := by
  show q.1 ≤ (if p.1 < q.1 then q else p).1
  split <;> omega
theorem CH_scan {val iv : Nat → Int} {us : Nat → Bool} {cl : Nat → Nat} {nd : Nat → Nat → Int} (hiv : ∀ w, us w = true → iv w = val w) (hnd : ∀ w x, 0 ≤ nd w x) : ∀ (k room : Nat) (st : Nat → Int) (sum : Int) (ch : Nat) (p : Int × Nat), (∀ x, x < 12 → 0 ≤ st x) → CHs val us cl nd (bn iv) k room st sum ch p = scn (gT val us cl nd room st ch sum k) (2 ^ k) p := by
  have f0 : ∀ (k room : Nat) (st : Nat → Int) (sum : Int) (ch : Nat), (∀ x, x < 12 → 0 ≤ st x) → gT val us cl nd room st ch sum k 0 = some (sum, ch) := by
    intro k room st sum ch hst
    rw [gT_y (okT_0 hst), smT_0 k (cnt_zero k), Nat.or_zero, Int.add_zero]
  intro k
  induction k with
  | zero =>
    intro room st sum ch p hst
    show stp2 p (some (sum, ch)) = stp2 p (gT val us cl nd room st ch sum 0 0)
    rw [f0 0 room st sum ch hst]
  | succ k ih =>
    intro room st sum ch p hst
    have hpos : 1 ≤ 2 ^ (k + 1) := Nat.one_le_two_pow
    rw [← scn_first (f0 (k + 1) room st sum ch hst) (2 ^ (k + 1)) hpos]
    have hge := stp2_ge p (sum, ch)
    show (if room < 1 ∨ sum + bn iv (k + 1) room ≤ (stp2 p (some (sum, ch))).1 then stp2 p (some (sum, ch)) else if us k = true ∧ cl k &&& ch = 0 ∧ allb (fun x => decide (0 ≤ st x - nd k x)) 12 = true then CHs val us cl nd (bn iv) k (room - 1) (fun x => st x - nd k x) (sum + val k) (ch ||| 2 ^ k) (CHs val us cl nd (bn iv) k room st sum ch (stp2 p (some (sum, ch)))) else CHs val us cl nd (bn iv) k room st sum ch (stp2 p (some (sum, ch)))) = _
    generalize stp2 p (some (sum, ch)) = p0 at hge ⊢
    by_cases hpr : room < 1 ∨ sum + bn iv (k + 1) room ≤ p0.1
    · rw [if_pos hpr]
      refine (scn_none _ (fun T hT q hq => ?_)).symm
      by_cases hok : okT us cl nd room st ch T (k + 1)
      · rw [gT_y hok] at hq
        have := Option.some.inj hq
        rw [← this]
        show sum + smT val T (k + 1) ≤ p0.1
        rcases hpr with h | h
        · rw [smT_0 (k + 1) (by have := hok.1; omega)]
          have : sum ≤ p0.1 := hge
          omega
        · have := bn_ok hiv (k + 1) room T (fun w hw hb => (hok.2.1 w hw hb).1) hok.1
          omega
      · rw [gT_n hok] at hq
        cases hq
    · rw [if_neg hpr]
      have e2 : 2 ^ (k + 1) = 2 ^ k + 2 ^ k := by rw [Nat.pow_succ]; omega
      rw [e2, scn_add]
      have hlow : scn (gT val us cl nd room st ch sum (k + 1)) (2 ^ k) p0 = CHs val us cl nd (bn iv) k room st sum ch p0 := by
        rw [ih room st sum ch p0 hst]
        refine scn_congr _ (fun T hT => ?_)
        by_cases hok : okT us cl nd room st ch T k
        · rw [gT_y hok, gT_y ((okT_low hT).mpr hok), smT_low hT]
        · rw [gT_n hok, gT_n (fun h => hok ((okT_low hT).mp h))]
      rw [hlow]
      generalize CHs val us cl nd (bn iv) k room st sum ch p0 = p1
      have hr : 1 ≤ room := by
        rcases Nat.lt_or_ge room 1 with h | h
        · exact absurd (Or.inl h) hpr
        · exact h
      by_cases hcond : us k = true ∧ cl k &&& ch = 0 ∧ allb (fun x => decide (0 ≤ st x - nd k x)) 12 = true
      · rw [if_pos hcond, ih (room - 1) (fun x => st x - nd k x) (sum + val k) (ch ||| 2 ^ k) p1 (fun x hx => of_decide_eq_true ((allb_iff _ _).mp hcond.2.2 x hx))]
        refine scn_congr _ (fun i hi => ?_)
        have hiff := okT_high (us := us) (cl := cl) (nd := nd) (room := room) (st := st) (ch := ch) hi
        by_cases hok : okT us cl nd (room - 1) (fun x => st x - nd k x) (ch ||| 2 ^ k) i k
        · rw [gT_y hok, gT_y (hiff.mpr ⟨hcond.1, hcond.2.1, hr, hok⟩), smT_high hi, Nat.or_assoc]
          have hor : 2 ^ k + i = 2 ^ k ||| i := by
            have := Nat.two_pow_add_eq_or_of_lt hi 1
            rw [Nat.mul_one] at this
            exact this
          rw [← hor]
          congr 2
          omega
        · rw [gT_n hok, gT_n (fun h => hok (hiff.mp h).2.2.2)]
      · rw [if_neg hcond]
        refine (scn_none _ (fun i hi q hq => ?_)).symm
        have hno : ¬ okT us cl nd room st ch (2 ^ k + i) (k + 1) := by
          intro hok
          obtain ⟨q1, q2, _, q3⟩ := (okT_high hi).mp hok
          refine hcond ⟨q1, q2, (allb_iff _ _).mpr (fun x hx => decide_eq_true ?_)⟩
          have h1 := q3.2.2 x hx
          have h2 := smT_nn (val := fun w => nd w x) (T := i) k (fun w _ => hnd w x)
          dsimp only at h1
          omega
        have hq' : gT val us cl nd room st ch sum (k + 1) (2 ^ k + i) = some q := hq
        rw [gT_n hno] at hq'
        cases hq'
