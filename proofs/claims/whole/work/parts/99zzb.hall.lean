/-! who can go for whom, pure -/
def ctx (T : Row) (x : Nat) : Nat := cnt (fun i => decide (T i = (x : Int))) 24
/-- letters from f on, to n, each with a soldier of its own who is not told away -/
def MT (E : Nat → Nat → Bool) (U : Nat → Bool) (f n : Nat) : Prop := ∃ g : Nat → Nat, (∀ k, f ≤ k → k < n → g k < 24 ∧ E k (g k) = true ∧ U (g k) = false) ∧ ∀ j k, f ≤ j → j < n → f ≤ k → k < n → g j = g k → j = k
theorem inj_cnt {h : Nat → Nat} {p : Nat → Bool} {m : Nat} : ∀ (n : Nat) (q : Nat → Bool), (∀ i, i < n → p i = true → h i < m ∧ q (h i) = true) → (∀ i j, i < n → j < n → p i = true → p j = true → h i = h j → i = j) → cnt p n ≤ cnt q m := by
  intro n
  induction n with
  | zero => intro q _ _; exact Nat.zero_le _
  | succ n ih =>
    intro q h1 h2
    rw [cnt_succ]
    by_cases hp : p n = true
    · rw [if_pos hp]
      obtain ⟨h3, h4⟩ := h1 n (by omega) hp
      have h5 := cnt_point (p := q) (q := fun k => q k && !decide (k = h n)) (w := h n) h4 (by simp) (fun k hk => by simp [hk]) m h3
      have h6 := ih (fun k => q k && !decide (k = h n)) (fun i hi hpi => by
        obtain ⟨h7, h8⟩ := h1 i (by omega) hpi
        refine ⟨h7, ?_⟩
        have hne : ¬ h i = h n := fun e => by
          have := h2 i n (by omega) (by omega) hpi hp e
          omega
        simp [h8, hne]) (fun i j hi hj => h2 i j (by omega) (by omega))
      omega
    · rw [if_neg hp]
      exact ih q (fun i hi => h1 i (by omega)) (fun i j hi hj => h2 i j (by omega) (by omega))
/-- letters of one soldier each -/
theorem ctx_inj {T : Row} {x i j : Nat} (h : ctx T x ≤ 1) (hi : i < 24) (hj : j < 24) (h1 : T i = (x : Int)) (h2 : T j = (x : Int)) : i = j := by
  rcases Nat.lt_or_ge i j with hij | hij
  · exfalso
    have a1 := cnt_lt (p := fun i => decide (T i = (x : Int))) (v := i) (w := j) hij (decide_eq_true h1)
    have a2 := cnt_lt (p := fun i => decide (T i = (x : Int))) (v := j) (w := 24) hj (decide_eq_true h2)
    unfold ctx at h
    omega
  · rcases Nat.lt_or_ge j i with hji | hji
    · exfalso
      have a1 := cnt_lt (p := fun i => decide (T i = (x : Int))) (v := j) (w := i) hji (decide_eq_true h2)
      have a2 := cnt_lt (p := fun i => decide (T i = (x : Int))) (v := i) (w := 24) hi (decide_eq_true h1)
      unfold ctx at h
      omega
    · omega
theorem ctx_ex {T : Row} {x : Nat} (h : 1 ≤ ctx T x) : ∃ i, i < 24 ∧ T i = (x : Int) := by
  obtain ⟨v, h1, h2, _⟩ := cnt_at (p := fun i => decide (T i = (x : Int))) (q := 0) 24 (by unfold ctx at h; omega)
  exact ⟨v, h1, of_decide_eq_true h2⟩
theorem ctx_pos {T : Row} {x i : Nat} (hi : i < 24) (h : T i = (x : Int)) : 1 ≤ ctx T x := by
  have := cnt_lt (p := fun i => decide (T i = (x : Int))) (v := i) (w := 24) hi (decide_eq_true h)
  unfold ctx
  omega
/-- a soldier's letter becomes another one -/
theorem ctx_rup {T : Row} {i k x : Nat} {j : Int} (hi : i < 24) (hj : T i = j) (hne : j ≠ (k : Int)) : ((ctx (rup T i (k : Int)) x : Nat) : Int) = (ctx T x : Int) + (if x = k then 1 else 0) - (if (x : Int) = j then 1 else 0) := by
  unfold ctx
  by_cases h1 : x = k
  · subst h1
    have := cnt_point (p := fun y => decide (rup T i (x : Int) y = (x : Int))) (q := fun y => decide (T y = (x : Int))) (w := i) (by rw [rup_same]; simp) (by rw [hj]; exact decide_eq_false hne) (fun y hy => by rw [rup_ne hy]) 24 hi
    rw [if_pos rfl, if_neg (fun q => hne q.symm), this]
    omega
  · by_cases h2 : (x : Int) = j
    · have := cnt_point (p := fun y => decide (T y = (x : Int))) (q := fun y => decide (rup T i (k : Int) y = (x : Int))) (w := i) (by rw [hj, h2]; simp) (by rw [rup_same]; exact decide_eq_false (by omega)) (fun y hy => by rw [rup_ne hy]) 24 hi
      rw [if_neg h1, if_pos h2, this]
      omega
    · have := cnt_congr (p := fun y => decide (rup T i (k : Int) y = (x : Int))) (q := fun y => decide (T y = (x : Int))) (n := 24) (fun y _ => by
        by_cases e : y = i
        · subst e
          rw [rup_same, hj]
          exact decide_eq_decide.mpr ⟨fun q => absurd q (by omega), fun q => absurd q.symm h2⟩
        · rw [rup_ne e])
      rw [if_neg h1, if_neg h2, this]
      omega
/-- letters from f to k have a soldier each -/
def PM (E : Nat → Nat → Bool) (U : Nat → Bool) (f k : Nat) (T : Row) : Prop := (∀ x, x < 8 → ctx T x = if f ≤ x ∧ x < k then 1 else 0) ∧ ∀ i, i < 24 → T i = -1 ∨ ∃ x : Nat, x < 8 ∧ T i = (x : Int) ∧ E x i = true ∧ U i = false
theorem PM_rg {E : Nat → Nat → Bool} {U : Nat → Bool} {f k : Nat} {T : Row} (h : PM E U f k T) {i x : Nat} (hi : i < 24) (hx : x < 8) (hT : T i = (x : Int)) : f ≤ x ∧ x < k := by
  have h1 := ctx_pos hi hT
  have h2 := h.1 x hx
  by_cases q : f ≤ x ∧ x < k
  · exact q
  · rw [if_neg q] at h2
    omega
theorem PM_MT {E : Nat → Nat → Bool} {U : Nat → Bool} {f n : Nat} {T : Row} (hn : n ≤ 8) (h : PM E U f n T) : MT E U f n := by
  have hex : ∀ x, f ≤ x → x < n → ∃ i, i < 24 ∧ T i = (x : Int) := fun x h1 h2 => ctx_ex (by rw [h.1 x (by omega), if_pos ⟨h1, h2⟩]; exact Nat.le_refl _)
  obtain ⟨g, hg⟩ : ∃ g : Nat → Nat, ∀ x, f ≤ x → x < n → g x < 24 ∧ T (g x) = (x : Int) := by
    have h2 : ∀ x, ∃ i, f ≤ x → x < n → i < 24 ∧ T i = (x : Int) := fun x => by
      by_cases q : f ≤ x ∧ x < n
      · obtain ⟨i, hi⟩ := hex x q.1 q.2
        exact ⟨i, fun _ _ => hi⟩
      · exact ⟨0, fun q1 q2 => absurd ⟨q1, q2⟩ q⟩
    obtain ⟨g, hg⟩ := Classical.axiomOfChoice h2
    exact ⟨g, hg⟩
  refine ⟨g, fun k h1 h2 => ?_, fun j k h1 h2 h3 h4 e => ?_⟩
  · obtain ⟨g1, g2⟩ := hg k h1 h2
    rcases h.2 (g k) g1 with q | ⟨x, q1, q2, q3, q4⟩
    · rw [g2] at q; omega
    · have : x = k := by rw [g2] at q2; omega
      subst this
      exact ⟨g1, q3, q4⟩
  · have e1 := (hg j h1 h2).2
    have e2 := (hg k h3 h4).2
    rw [e] at e1
    rw [e1] at e2
    omega
/-- where a letter finds nobody, nobody can be found -/
theorem hall {E : Nat → Nat → Bool} {U S : Nat → Bool} {f k n : Nat} {T : Row} (hn : n ≤ 8) (hk : k < n) (hfk : f ≤ k) (hP : PM E U f k T) (h1 : ∀ i, i < 24 → E k i = true → U i = false → S i = true) (h2 : ∀ i, i < 24 → S i = true → T i ≠ -1 ∧ ∀ x : Nat, T i = (x : Int) → ∀ i', i' < 24 → E x i' = true → U i' = false → S i' = true) : ¬ MT E U f n := by
  rintro ⟨g, g1, g2⟩
  have hT : ∀ i, i < 24 → S i = true → ∃ x : Nat, T i = (x : Int) ∧ f ≤ x ∧ x < k := fun i hi hS => by
    rcases hP.2 i hi with q | ⟨x, q1, q2, q3, q4⟩
    · exact absurd q (h2 i hi hS).1
    · exact ⟨x, q2, PM_rg hP hi q1 q2⟩
  obtain ⟨k1, k2, k3⟩ := g1 k hfk hk
  have hSk := h1 (g k) k1 k2 k3
  have hpt := cnt_point (p := S) (q := fun i => S i && !decide (i = g k)) (w := g k) hSk (by simp) (fun i hi => by simp [hi]) 24 k1
  have hle := inj_cnt (h := fun i => g (T i).toNat) (p := S) (m := 24) 24 (fun i => S i && !decide (i = g k)) (fun i hi hS => by
    obtain ⟨x, x1, x2, x3⟩ := hT i hi hS
    obtain ⟨y1, y2, y3⟩ := g1 x x2 (by omega)
    have e : (T i).toNat = x := by rw [x1]; exact Int.toNat_natCast x
    have hs := (h2 i hi hS).2 x x1 (g x) y1 y2 y3
    have hne : ¬ g x = g k := fun q => by
      have := g2 x k x2 (by omega) hfk hk q
      omega
    show g (T i).toNat < 24 ∧ _
    rw [e]
    refine ⟨y1, ?_⟩
    simp [hs, hne]) (fun i j hi hj hSi hSj e => by
    obtain ⟨x, x1, x2, x3⟩ := hT i hi hSi
    obtain ⟨y, y1, y2, y3⟩ := hT j hj hSj
    have e1 : (T i).toNat = x := by rw [x1]; exact Int.toNat_natCast x
    have e2 : (T j).toNat = y := by rw [y1]; exact Int.toNat_natCast y
    have e3 : g x = g y := by
      have : g (T i).toNat = g (T j).toNat := e
      rw [e1, e2] at this
      exact this
    have := g2 x y x2 (by omega) y2 (by omega) e3
    subst this
    refine ctx_inj (T := T) (x := x) ?_ hi hj x1 y1
    rw [hP.1 x (by omega)]
    split <;> omega)
  omega
/-- soldiers who have a letter -/
theorem PM_busy {E : Nat → Nat → Bool} {U : Nat → Bool} {f k : Nat} {T : Row} (hk : k ≤ 7) (h : PM E U f k T) : cnt (fun i => decide (T i ≠ -1)) 24 ≤ 7 := by
  have := inj_cnt (h := fun i => (T i).toNat) (p := fun i => decide (T i ≠ -1)) (m := 7) 24 (fun _ => true) (fun i hi hp => by
    rcases h.2 i hi with q | ⟨x, q1, q2, q3, q4⟩
    · exact absurd q (of_decide_eq_true hp)
    · have := PM_rg h hi q1 q2
      show (T i).toNat < 7 ∧ true = true
      rw [q2, Int.toNat_natCast]
      exact ⟨by omega, rfl⟩) (fun i j hi hj hpi hpj e => by
    rcases h.2 i hi with q | ⟨x, q1, q2, q3, q4⟩
    · exact absurd q (of_decide_eq_true hpi)
    · rcases h.2 j hj with r | ⟨y, r1, r2, r3, r4⟩
      · exact absurd r (of_decide_eq_true hpj)
      · have e2 : (T i).toNat = (T j).toNat := e
        rw [q2, r2, Int.toNat_natCast, Int.toNat_natCast] at e2
        subst e2
        refine ctx_inj (T := T) (x := x) ?_ hi hj q2 r2
        rw [h.1 x q1]
        split <;> omega)
  have h7 : cnt (fun _ : Nat => true) 7 = 7 := by decide
  omega
theorem MT_congr {E E' : Nat → Nat → Bool} {U U' : Nat → Bool} {f n : Nat} (hE : ∀ k i, f ≤ k → k < n → i < 24 → E k i = E' k i) (hU : ∀ i, i < 24 → U i = U' i) (h : MT E U f n) : MT E' U' f n := by
  obtain ⟨g, g1, g2⟩ := h
  refine ⟨g, fun k h1 h2 => ?_, g2⟩
  obtain ⟨k1, k2, k3⟩ := g1 k h1 h2
  exact ⟨k1, by rw [← hE k _ h1 h2 k1]; exact k2, by rw [← hU _ k1]; exact k3⟩
/-- if all can go, the first one has somebody -/
theorem MT_step {E : Nat → Nat → Bool} {U : Nat → Bool} {k n : Nat} (hk : k < n) (h : MT E U k n) : ∃ i, i < 24 ∧ E k i = true ∧ U i = false ∧ MT E (fun y => U y || decide (y = i)) (k + 1) n := by
  obtain ⟨g, g1, g2⟩ := h
  obtain ⟨k1, k2, k3⟩ := g1 k (Nat.le_refl _) hk
  refine ⟨g k, k1, k2, k3, g, fun j h1 h2 => ?_, fun i j h1 h2 h3 h4 => g2 i j (by omega) h2 (by omega) h4⟩
  obtain ⟨j1, j2, j3⟩ := g1 j (by omega) h2
  refine ⟨j1, j2, ?_⟩
  have : ¬ g j = g k := fun q => by
    have := g2 j k (by omega) h2 (Nat.le_refl _) hk q
    omega
  simp [j3, this]
