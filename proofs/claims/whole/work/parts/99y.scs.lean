/-! the shortest row that holds two words: its length -/
def scr (f : Nat → Int) (eq : Nat → Bool) (p : Nat) : Nat → Int
  | 0 => (p : Int) + 1
  | q + 1 => if eq q = true then 1 + f q else 1 + (if scr f eq p q < f (q + 1) then scr f eq p q else f (q + 1))
def scs (a b : Nat → Int) (m n : Nat) : Nat → Nat → Int
  | 0 => fun q => (q : Int)
  | p + 1 => scr (scs a b m n p) (fun q => decide (a (m - (p + 1)) = b (n - (q + 1)))) p
theorem scs_0 (a b : Nat → Int) (m n q : Nat) : scs a b m n 0 q = (q : Int) := rfl
theorem scs_p0 (a b : Nat → Int) (m n p : Nat) : scs a b m n p 0 = (p : Int) := by
  cases p with
  | zero => rfl
  | succ p => show (p : Int) + 1 = ((p + 1 : Nat) : Int); omega
theorem scs_ss (a b : Nat → Int) (m n p q : Nat) : scs a b m n (p + 1) (q + 1) = if a (m - (p + 1)) = b (n - (q + 1)) then 1 + scs a b m n p q else 1 + (if scs a b m n (p + 1) q < scs a b m n p (q + 1) then scs a b m n (p + 1) q else scs a b m n p (q + 1)) := by
  show (if decide (a (m - (p + 1)) = b (n - (q + 1))) = true then _ else _) = _
  by_cases h : a (m - (p + 1)) = b (n - (q + 1))
  · rw [if_pos h, if_pos (decide_eq_true h)]
  · rw [if_neg h, if_neg (by simpa using h)]
    rfl
theorem scs_D (a b : Nat → Int) (m n : Nat) : ∀ (k p q : Nat), p + q = k → (scs a b m n p q ≤ scs a b m n (p + 1) q ∧ scs a b m n (p + 1) q ≤ 1 + scs a b m n p q) ∧ (scs a b m n p q ≤ scs a b m n p (q + 1) ∧ scs a b m n p (q + 1) ≤ 1 + scs a b m n p q) := by
  intro k
  induction k with
  | zero =>
    intro p q h
    have h1 : p = 0 := by omega
    have h2 : q = 0 := by omega
    subst h1
    subst h2
    rw [scs_p0, scs_p0, scs_0]
    omega
  | succ k ih =>
    intro p q h
    constructor
    · cases q with
      | zero => rw [scs_p0, scs_p0]; omega
      | succ q =>
        obtain ⟨h1, h2⟩ := ih p q (by omega)
        rw [scs_ss]
        split
        · omega
        · split <;> omega
    · cases p with
      | zero => rw [scs_0, scs_0]; omega
      | succ p =>
        obtain ⟨h1, h2⟩ := ih p q (by omega)
        rw [scs_ss]
        split
        · omega
        · split <;> omega
theorem scs_rg (a b : Nat → Int) (m n : Nat) : ∀ (p q : Nat), 0 ≤ scs a b m n p q ∧ scs a b m n p q ≤ p + q := by
  intro p
  induction p with
  | zero => intro q; rw [scs_0]; omega
  | succ p ih =>
    intro q
    have h1 := ih q
    have h2 := (scs_D a b m n (p + q) p q rfl).1
    omega
/-- of like letters both go; else the less -/
theorem scs_min (a b : Nat → Int) (m n p q : Nat) : scs a b m n (p + 1) (q + 1) = 1 + (if scs a b m n (p + 1) q < scs a b m n p (q + 1) then (if a (m - (p + 1)) = b (n - (q + 1)) ∧ scs a b m n p q < scs a b m n (p + 1) q then scs a b m n p q else scs a b m n (p + 1) q) else (if a (m - (p + 1)) = b (n - (q + 1)) ∧ scs a b m n p q < scs a b m n p (q + 1) then scs a b m n p q else scs a b m n p (q + 1))) := by
  have h := scs_D a b m n (p + q) p q rfl
  rw [scs_ss]
  by_cases e : a (m - (p + 1)) = b (n - (q + 1))
  · rw [if_pos e]
    split
    · split
      · rfl
      · rename_i h1
        have : ¬ scs a b m n p q < scs a b m n (p + 1) q := fun q => h1 ⟨e, q⟩
        omega
    · split
      · rfl
      · rename_i h1
        have : ¬ scs a b m n p q < scs a b m n p (q + 1) := fun q => h1 ⟨e, q⟩
        omega
  · have e1 : ¬ (a (m - (p + 1)) = b (n - (q + 1)) ∧ scs a b m n p q < scs a b m n (p + 1) q) := fun h => e h.1
    have e2 : ¬ (a (m - (p + 1)) = b (n - (q + 1)) ∧ scs a b m n p q < scs a b m n p (q + 1)) := fun h => e h.1
    rw [if_neg e, if_neg e1, if_neg e2]
/-- the table, filled from the end back -/
def LT (a b : Nat → Int) (m n : Nat) (h : Row) (i j : Nat) : Prop := ∀ i' j', i' ≤ m → j' ≤ n → (i < i' ∨ (i' = i ∧ j ≤ j')) → h (9 * i' + j') = scs a b m n (m - i') (n - j')
theorem zx9 {i j : Nat} (hi : i < 20) (hj : j < 20) : zw (zw ((i : Int) * 9) + (j : Int)) = ((9 * i + j : Nat) : Int) := by
  rw [zw_id (x := (i : Int) * 9) (by omega) (by omega), zw_id (by omega) (by omega)]
  omega
theorem zx9b {i j : Nat} (hi : i < 20) (hj : j < 20) : zw (((9 * i + j : Nat) : Int) + 1) = ((9 * i + (j + 1) : Nat) : Int) := by
  rw [zw_id (by omega) (by omega)]
  omega
theorem s_leftAt {z : zZ} {d m n i j : Nat} {c e0 : Int} {h : Row} {M : Mu} (hd : 2 ≤ d) (hm : isW c m) (hn : isW e0 n) (hi : i ≤ m) (hj : j ≤ n) (hL : LT (fun k => letc c (k : Int)) (fun k => letc e0 (k : Int)) m n h i (j + 1)) : mC z d 131 [(2, 55), (0, c), (0, e0), (0, (i : Int)), (0, (j : Int)), (0, (m : Int)), (0, (n : Int))] (zrow M 57 h) = some (scs (fun k => letc c (k : Int)) (fun k => letc e0 (k : Int)) m n (m - i) (n - j), zrow M 57 h) := by
  obtain ⟨e, rfl, he⟩ := pred_of (k := 1) hd
  have m8 := hm.2.1
  have n8 := hn.2.1
  rw [c_Tre_leftAt]
  by_cases h1 : i < m
  · rw [cT (by omega)]
    by_cases h2 : j < n
    · obtain ⟨p, hp⟩ : ∃ p, m - i = p + 1 := ⟨m - i - 1, by omega⟩
      obtain ⟨q, hq⟩ : ∃ q, n - j = q + 1 := ⟨n - j - 1, by omega⟩
      have v1 := hL (i + 1) (j + 1) (by omega) (by omega) (Or.inl (by omega))
      have v2 := hL (i + 1) j (by omega) (by omega) (Or.inl (by omega))
      have v3 := hL i (j + 1) (by omega) (by omega) (Or.inr ⟨rfl, Nat.le_refl _⟩)
      rw [show m - (i + 1) = p by omega, show n - (j + 1) = q by omega] at v1
      rw [show m - (i + 1) = p by omega, hq] at v2
      rw [hp, show n - (j + 1) = q by omega] at v3
      have r1 := scs_rg (fun k => letc c (k : Int)) (fun k => letc e0 (k : Int)) m n p q
      have r2 := scs_rg (fun k => letc c (k : Int)) (fun k => letc e0 (k : Int)) m n p (q + 1)
      have r3 := scs_rg (fun k => letc c (k : Int)) (fun k => letc e0 (k : Int)) m n (p + 1) q
      rw [cT (by omega), s_letterAt he]
      simp -implicitDefEqProofs only [ob]
      rw [s_letterAt he]
      simp -implicitDefEqProofs only [ob]
      rw [zwc (by omega), zx9 (by omega) (by omega), zx9 (by omega) (by omega), zx9b (by omega) (by omega), zx9b (by omega) (by omega), hp, hq, scs_ss, show m - (p + 1) = i by omega, show n - (q + 1) = j by omega, gI_ok (by omega) (by omega), gI_ok (by omega) (by omega), gI_ok (by omega) (by omega), Int.toNat_natCast, Int.toNat_natCast, Int.toNat_natCast, zrow_same]
      by_cases h3 : letc c (i : Int) = letc e0 (j : Int)
      · rw [nT h3, if_pos h3, v1, zw_id (by omega) (by omega)]
      · rw [nF h3, if_neg h3, v2, v3]
        rw [zw_id (by split <;> omega) (by split <;> omega)]
    · have hj2 : n - j = 0 := by omega
      rw [cF (by omega), hj2, scs_p0, zw_id (by omega) (by omega)]
      rw [show (m : Int) - (i : Int) = ((m - i : Nat) : Int) by omega]
  · have hi2 : m - i = 0 := by omega
    rw [cF (by omega), hi2, scs_0, zw_id (by omega) (by omega)]
    rw [show (n : Int) - (j : Int) = ((n - j : Nat) : Int) by omega]
theorem zm1 {k : Nat} (h : k < 1000) : zw (((k + 1 : Nat) : Int) + (-1)) = (k : Int) := by
  rw [zw_id (by omega) (by omega)]
  omega
theorem zm0 : zw (((0 : Nat) : Int) + (-1)) = -1 := by decide
/-- the class fills its table -/
theorem s_fillLeft {z : zZ} {d m n : Nat} {c e0 : Int} {M : Mu} (hd : 3 ≤ d) (hm : isW c m) (hn : isW e0 n) : ∃ h, mC z d 130 [(2, 55), (0, c), (0, e0), (0, (m : Int)), (0, (n : Int))] M = some (0, zrow M 57 h) ∧ ∀ i j, i ≤ m → j ≤ n → h (9 * i + j) = scs (fun k => letc c (k : Int)) (fun k => letc e0 (k : Int)) m n (m - i) (n - j) := by
  obtain ⟨e, rfl, he⟩ := pred_of (k := 2) hd
  have m8 := hm.2.1
  have n8 := hn.2.1
  have hin : ∀ (i : Nat), i ≤ m → ∀ (j : Nat) (h : Row), j ≤ n → LT (fun k => letc c (k : Int)) (fun k => letc e0 (k : Int)) m n h i (j + 1) → ∃ h', f_Tre_fillLeft_12 z e c e0 (m : Int) (n : Int) (i : Int) (j : Int) (zrow M 57 h) = f_Tre_fillLeft_3 z e c e0 (m : Int) (n : Int) (zw ((i : Int) + (-1))) (zrow M 57 h') ∧ LT (fun k => letc c (k : Int)) (fun k => letc e0 (k : Int)) m n h' i 0 := by
    intro i hi j
    induction j with
    | zero =>
      intro h hj hL
      rw [e_Tre_fillLeft_12, cF (by omega), s_leftAt he hm hn hi hj hL]
      simp -implicitDefEqProofs only [ob]
      rw [zx9 (by omega) (by omega), gI_ok (by omega) (by omega), Int.toNat_natCast, zupr, zrow_same, zrow_zrow, zm0, e_Tre_fillLeft_12, cT (by omega)]
      refine ⟨_, rfl, fun i' j' h1 h2 h3 => ?_⟩
      by_cases e1 : 9 * i' + j' = 9 * i + 0
      · have e2 : i' = i := by omega
        have e3 : j' = 0 := by omega
        subst e2
        subst e3
        rw [rup_same]
      · rw [rup_ne e1]
        exact hL i' j' h1 h2 (by omega)
    | succ j ih =>
      intro h hj hL
      rw [e_Tre_fillLeft_12, cF (by omega), s_leftAt he hm hn hi hj hL]
      simp -implicitDefEqProofs only [ob]
      rw [zx9 (by omega) (by omega), gI_ok (by omega) (by omega), Int.toNat_natCast, zupr, zrow_same, zrow_zrow, zm1 (by omega)]
      refine ih _ (by omega) (fun i' j' h1 h2 h3 => ?_)
      by_cases e1 : 9 * i' + j' = 9 * i + (j + 1)
      · have e2 : i' = i := by omega
        have e3 : j' = j + 1 := by omega
        subst e2
        subst e3
        rw [rup_same]
      · rw [rup_ne e1]
        exact hL i' j' h1 h2 (by omega)
  have hout : ∀ (i : Nat) (h : Row), i ≤ m → LT (fun k => letc c (k : Int)) (fun k => letc e0 (k : Int)) m n h (i + 1) 0 → ∃ h', f_Tre_fillLeft_3 z e c e0 (m : Int) (n : Int) (i : Int) (zrow M 57 h) = some (0, zrow M 57 h') ∧ LT (fun k => letc c (k : Int)) (fun k => letc e0 (k : Int)) m n h' 0 0 := by
    intro i
    induction i with
    | zero =>
      intro h hi hL
      obtain ⟨h', r1, r2⟩ := hin 0 hi n h (Nat.le_refl _) (fun i' j' h1 h2 h3 => hL i' j' h1 h2 (by omega))
      refine ⟨h', ?_, r2⟩
      rw [e_Tre_fillLeft_3, cF (by omega), r1, zm0, e_Tre_fillLeft_3, cT (by omega)]
    | succ i ih =>
      intro h hi hL
      obtain ⟨h', r1, r2⟩ := hin (i + 1) hi n h (Nat.le_refl _) (fun i' j' h1 h2 h3 => hL i' j' h1 h2 (by omega))
      obtain ⟨h2, q1, q2⟩ := ih h' (by omega) r2
      refine ⟨h2, ?_, q2⟩
      rw [e_Tre_fillLeft_3, cF (by omega), r1, zm1 (by omega)]
      exact q1
  obtain ⟨h', r1, r2⟩ := hout m (M 57) (Nat.le_refl _) (fun i' j' h1 h2 h3 => by omega)
  rw [zrow_id] at r1
  exact ⟨h', by rw [c_Tre_fillLeft]; exact r1, fun i j h1 h2 => r2 i j h1 h2 (by omega)⟩
