/-! peace: the row itself -/
theorem scs_step {a b : Nat → Int} {m n i j : Nat} (hi : i < m) (hj : j < n) : scs a b m n (m - i) (n - j) = if a i = b j then 1 + scs a b m n (m - (i + 1)) (n - (j + 1)) else 1 + (if scs a b m n (m - i) (n - (j + 1)) < scs a b m n (m - (i + 1)) (n - j) then scs a b m n (m - i) (n - (j + 1)) else scs a b m n (m - (i + 1)) (n - j)) := by
  have h := scs_ss a b m n (m - (i + 1)) (n - (j + 1))
  rw [show m - (i + 1) + 1 = m - i by omega, show n - (j + 1) + 1 = n - j by omega, show m - (m - i) = i by omega, show n - (n - j) = j by omega] at h
  exact h
/-- the next letter: the first word's, the second one's, or both -/
def pcF (a b : Nat → Int) (r : Row) (m n i j : Nat) : Bool := decide (i < m) && (decide (n ≤ j) || (decide (scs a b m n (m - (i + 1)) (n - j) < scs a b m n (m - i) (n - (j + 1))) || (decide (scs a b m n (m - (i + 1)) (n - j) = scs a b m n (m - i) (n - (j + 1))) && decide (r (a i).toNat < r (b j).toNat))))
def pcE (a b : Nat → Int) (m n i j : Nat) : Bool := decide (i < m) && (decide (j < n) && decide (a i = b j))
def pcI (a b : Nat → Int) (r : Row) (m n i j : Nat) : Nat := if (pcE a b m n i j || pcF a b r m n i j) = true then i + 1 else i
def pcJ (a b : Nat → Int) (r : Row) (m n i j : Nat) : Nat := if (pcE a b m n i j || !pcF a b r m n i j) = true then j + 1 else j
def pcL (a b : Nat → Int) (r : Row) (m n i j : Nat) : Int := if (pcE a b m n i j || pcF a b r m n i j) = true then a i else b j
theorem pc_le {a b : Nat → Int} {r : Row} {m n i j : Nat} (hi : i ≤ m) (hj : j ≤ n) (h : i < m ∨ j < n) : pcI a b r m n i j ≤ m ∧ pcJ a b r m n i j ≤ n ∧ scs a b m n (m - i) (n - j) = 1 + scs a b m n (m - pcI a b r m n i j) (n - pcJ a b r m n i j) := by
  unfold pcI pcJ
  by_cases h1 : i < m
  · by_cases h2 : j < n
    · by_cases h3 : a i = b j
      · have hE : pcE a b m n i j = true := by unfold pcE; simp [h1, h2, h3]
        rw [hE, Bool.true_or, Bool.true_or, if_pos rfl, if_pos rfl, scs_step h1 h2, if_pos h3]
        exact ⟨by omega, by omega, rfl⟩
      · have hE : pcE a b m n i j = false := by unfold pcE; simp [h3]
        rw [hE, Bool.false_or, Bool.false_or, scs_step h1 h2, if_neg h3]
        have hF : pcF a b r m n i j = (decide (scs a b m n (m - (i + 1)) (n - j) < scs a b m n (m - i) (n - (j + 1))) || (decide (scs a b m n (m - (i + 1)) (n - j) = scs a b m n (m - i) (n - (j + 1))) && decide (r (a i).toNat < r (b j).toNat))) := by
          unfold pcF
          have : decide (n ≤ j) = false := decide_eq_false (by omega)
          rw [decide_eq_true h1, this, Bool.true_and, Bool.false_or]
        rw [hF]
        generalize hX : scs a b m n (m - (i + 1)) (n - j) = X
        generalize hY : scs a b m n (m - i) (n - (j + 1)) = Y
        by_cases c1 : X < Y
        · rw [decide_eq_true c1, Bool.true_or, if_pos rfl, if_neg (by decide), if_neg (by omega)]
          exact ⟨by omega, by omega, by rw [hX]⟩
        · rw [decide_eq_false c1, Bool.false_or]
          by_cases c2 : X = Y
          · rw [decide_eq_true c2, Bool.true_and, if_neg (show ¬ Y < X by omega)]
            cases decide (r (a i).toNat < r (b j).toNat) with
            | true => rw [if_pos rfl, if_neg (by decide)]; exact ⟨by omega, by omega, by rw [hX]⟩
            | false => rw [if_neg (by decide), if_pos (by rfl)]; exact ⟨by omega, by omega, by rw [hY, c2]⟩
          · rw [decide_eq_false c2, Bool.false_and, if_neg (by decide), if_pos (by rfl), if_pos (by omega)]
            exact ⟨by omega, by omega, by rw [hY]⟩
    · have hE : pcE a b m n i j = false := by unfold pcE; simp [h2]
      have hF : pcF a b r m n i j = true := by
        unfold pcF
        have : decide (n ≤ j) = true := decide_eq_true (by omega)
        rw [decide_eq_true h1, this, Bool.true_or]; rfl
      rw [hE, hF]
      have en : n - j = 0 := by omega
      simp only [Bool.or_true, Bool.not_true, Bool.or_false, if_true]
      rw [if_neg (by decide), en, scs_p0, scs_p0]
      exact ⟨by omega, by omega, by omega⟩
  · have h2 : j < n := by omega
    have hE : pcE a b m n i j = false := by unfold pcE; simp [h1]
    have hF : pcF a b r m n i j = false := by unfold pcF; simp [h1]
    rw [hE, hF]
    have en : m - i = 0 := by omega
    simp only [Bool.or_false, Bool.not_false, Bool.or_true, if_true]
    rw [if_neg (by decide), en, scs_0, scs_0]
    exact ⟨by omega, by omega, by omega⟩
/-- both ends are reached when nothing is left -/
theorem scs_pos {a b : Nat → Int} {m n p q : Nat} (h : 0 < p ∨ 0 < q) : 1 ≤ scs a b m n p q := by
  cases p with
  | zero => rw [scs_0]; omega
  | succ p =>
    cases q with
    | zero => rw [scs_p0]; omega
    | succ q =>
      have h1 := (scs_rg a b m n p q).1
      have h2 := (scs_rg a b m n (p + 1) q).1
      have h3 := (scs_rg a b m n p (q + 1)).1
      rw [scs_ss]
      split
      · omega
      · split <;> omega
/-- the class's table -/
def TBL (a b : Nat → Int) (m n : Nat) (h : Row) : Prop := ∀ i j, i ≤ m → j ≤ n → h (9 * i + j) = scs a b m n (m - i) (n - j)
theorem s_takesFirst {z : zZ} {d m n i j : Nat} {a b : Nat → Int} {lo : Int} {μ : Mu} (hd : 1 ≤ d) (hm : m ≤ 8) (hn : n ≤ 8) (hi : i ≤ m) (hj : j ≤ n) (hT : TBL a b m n (μ 57)) (hlo : lo = 0 ∨ lo = 1) : mC z d 132 [(2, 55), (0, (i : Int)), (0, (j : Int)), (0, (m : Int)), (0, (n : Int)), (0, lo)] μ = some (bi (decide (i < m) && (decide (n ≤ j) || (decide (scs a b m n (m - (i + 1)) (n - j) < scs a b m n (m - i) (n - (j + 1))) || (decide (scs a b m n (m - (i + 1)) (n - j) = scs a b m n (m - i) (n - (j + 1))) && decide (lo = 1))))), μ) := by
  obtain ⟨e, rfl, he⟩ := pred_of hd
  have h11 : f_Tre_takesFirst_11 z e (i : Int) (m : Int) μ = some (bi (decide (i < m)), μ) := by
    rw [e_Tre_takesFirst_11]
    by_cases h : i < m
    · rw [cF (by omega), e_Tre_takesFirst_21, g01_1, bi_dt h]
    · rw [cT (by omega), e_Tre_takesFirst_21, g01_0, bi_df h]
  rw [c_Tre_takesFirst]
  by_cases h1 : i < m
  · rw [cF (by omega)]
    by_cases h2 : j < n
    · have e1 : zw (zw (zw ((i : Int) + 1) * 9) + (j : Int)) = ((9 * (i + 1) + j : Nat) : Int) := by rw [zwc (by omega)]; exact zx9 (by omega) (by omega)
      have e2 : zw (zw (zw ((i : Int) * 9) + (j : Int)) + 1) = ((9 * i + (j + 1) : Nat) : Int) := by rw [zx9 (by omega) (by omega)]; exact zx9b (by omega) (by omega)
      have hnj : decide (n ≤ j) = false := decide_eq_false (by omega)
      rw [cT (by omega), e1, e2, gI_ok (by omega) (by omega), gI_ok (by omega) (by omega), Int.toNat_natCast, Int.toNat_natCast, hT (i + 1) j (by omega) (by omega), hT i (j + 1) (by omega) (by omega), decide_eq_true h1, hnj, Bool.true_and, Bool.false_or]
      generalize scs a b m n (m - (i + 1)) (n - j) = X
      generalize scs a b m n (m - i) (n - (j + 1)) = Y
      by_cases c1 : X = Y
      · have c2 : decide (X < Y) = false := decide_eq_false (by omega)
        rw [nT c1, e_Tre_takesFirst_76, g01_ok hlo, c2, Bool.false_or, decide_eq_true c1, Bool.true_and]
        rcases hlo with h | h
        · rw [h]; rfl
        · rw [h]; rfl
      · rw [nF c1, e_Tre_takesFirst_64, decide_eq_false c1, Bool.false_and, Bool.or_false]
        by_cases c2 : X < Y
        · rw [cF (by omega), e_Tre_takesFirst_76, g01_1, bi_dt c2]
        · rw [cT (by omega), e_Tre_takesFirst_76, g01_0, bi_df c2]
    · have hnj : decide (n ≤ j) = true := decide_eq_true (by omega)
      rw [cF (by omega), h11, hnj, Bool.true_or, Bool.and_true]
  · rw [cT (by omega), h11, decide_eq_false h1, Bool.false_and]
/-- one letter more: the class -/
theorem s_mkstep {z : zZ} {e m n i j k : Nat} {c e0 : Int} {M : Mu} (he : 1 ≤ e) (hm : isW c m) (hn : isW e0 n) (hi : i ≤ m) (hj : j ≤ n) (h : i < m ∨ j < n) (hk : M 55 1 = (k : Int)) (hk16 : k < 16) (hT : TBL (fun k => letc c (k : Int)) (fun k => letc e0 (k : Int)) m n (M 57)) (hr : rkr (M 6)) : f_Tre_make_33 z e c e0 6 (m : Int) (n : Int) (i : Int) (j : Int) M = f_Tre_make_33 z e c e0 6 (m : Int) (n : Int) ((pcI (fun k => letc c (k : Int)) (fun k => letc e0 (k : Int)) (M 6) m n i j : Nat) : Int) ((pcJ (fun k => letc c (k : Int)) (fun k => letc e0 (k : Int)) (M 6) m n i j : Nat) : Int) (zup (zup M 56 k (pcL (fun k => letc c (k : Int)) (fun k => letc e0 (k : Int)) (M 6) m n i j)) 55 1 ((k + 1 : Nat) : Int)) := by
  have m8 := hm.2.1
  have n8 := hn.2.1
  have h59 : f_Tre_make_33 z e c e0 6 (m : Int) (n : Int) (i : Int) (j : Int) M = f_Tre_make_59 z e c e0 6 (m : Int) (n : Int) (i : Int) (j : Int) M := by
    rw [e_Tre_make_33, hk, cF (by omega)]
    by_cases h1 : i < m
    · rw [cT (by omega)]
    · rw [cF (by omega), cF (by omega)]
  have la : ∀ {x : Int} {t : Nat}, isW x t → ∀ q, q ≤ t → letc x (q : Int) = if q < t then (nib x q : Int) - 1 else -1 := fun {x t} hx q hq => by
    have := hx.2.1
    by_cases q8 : q < 8
    · rw [letc_nat q8]
      by_cases h1 : q < t
      · rw [if_pos h1]
      · rw [if_neg h1, hx.2.2.2 q (by omega)]; rfl
    · rw [letc_out (by omega), if_neg (by omega)]
  have lr : ∀ {x : Int} {t : Nat}, isW x t → ∀ q, q < t → 0 ≤ letc x (q : Int) ∧ letc x (q : Int) < 12 := fun {x t} hx q hq => by
    have := hx.2.2.1 q hq
    rw [la hx q (by omega), if_pos hq]
    omega
  have ia : iar 6 12 := ia6 (o := 4) (Or.inl rfl)
  -- whether the first one's letter is the lower one, where both are letters
  have h116 : ∃ lo : Int, (lo = 0 ∨ lo = 1) ∧ (i < m → j < n → (lo = 1 ↔ M 6 (letc c (i : Int)).toNat < M 6 (letc e0 (j : Int)).toNat)) ∧ f_Tre_make_59 z e c e0 6 (m : Int) (n : Int) (i : Int) (j : Int) M = f_Tre_make_116 z e c e0 6 (m : Int) (n : Int) (i : Int) (j : Int) (letc c (i : Int)) (letc e0 (j : Int)) (i : Int) (j : Int) (m : Int) (n : Int) lo M := by
    rw [e_Tre_make_59, s_letterAt he]
    simp -implicitDefEqProofs only [ob]
    rw [s_letterAt he]
    simp -implicitDefEqProofs only [ob]
    rw [s_isLetter he]
    simp -implicitDefEqProofs only [ob]
    rw [cB]
    by_cases h1 : i < m
    · have l1 := lr hm i h1
      rw [decide_eq_true l1, cond_true, s_isLetter he]
      simp -implicitDefEqProofs only [ob]
      rw [cB]
      by_cases h2 : j < n
      · have l2 := lr hn j h2
        obtain ⟨x, hx, hx2⟩ : ∃ x : Nat, letc c (i : Int) = (x : Int) ∧ x < 12 := ⟨(letc c (i : Int)).toNat, by omega, by omega⟩
        obtain ⟨y, hy, hy2⟩ : ∃ y : Nat, letc e0 (j : Int) = (y : Int) ∧ y < 12 := ⟨(letc e0 (j : Int)).toNat, by omega, by omega⟩
        rw [decide_eq_true l2, cond_true, hx, hy]
        have g1 := fun (A : mR) => gAi (a := 6) (n := 12) (i := x) (A := A) ia hx2
        have g2 := fun (A : mR) => gAi (a := 6) (n := 12) (i := y) (A := A) ia hy2
        rw [show ((6 : Nat) : Int) = 6 from rfl] at g1 g2
        rw [g1, g2]
        rw [show (6 : Int).toNat = 6 from rfl, Int.toNat_natCast, Int.toNat_natCast]
        by_cases h3 : M 6 y ≤ M 6 x
        · rw [cT h3, e_Tre_make_115]
          exact ⟨0, Or.inl rfl, fun _ _ => by omega, rfl⟩
        · rw [cF h3]
          exact ⟨1, Or.inr rfl, fun _ _ => by omega, rfl⟩
      · have l2 : ¬ (0 ≤ letc e0 (j : Int) ∧ letc e0 (j : Int) < 12) := by rw [la hn j (by omega), if_neg h2]; omega
        rw [decide_eq_false l2, cond_false, e_Tre_make_115]
        exact ⟨0, Or.inl rfl, fun _ q => absurd q h2, rfl⟩
    · have l1 : ¬ (0 ≤ letc c (i : Int) ∧ letc c (i : Int) < 12) := by rw [la hm i (by omega), if_neg h1]; omega
      rw [decide_eq_false l1, cond_false, e_Tre_make_115]
      exact ⟨0, Or.inl rfl, fun q _ => absurd q h1, rfl⟩
  obtain ⟨lo, hlo, hlo2, h117⟩ := h116
  have hF : (decide (i < m) && (decide (n ≤ j) || (decide (scs (fun k => letc c (k : Int)) (fun k => letc e0 (k : Int)) m n (m - (i + 1)) (n - j) < scs (fun k => letc c (k : Int)) (fun k => letc e0 (k : Int)) m n (m - i) (n - (j + 1))) || (decide (scs (fun k => letc c (k : Int)) (fun k => letc e0 (k : Int)) m n (m - (i + 1)) (n - j) = scs (fun k => letc c (k : Int)) (fun k => letc e0 (k : Int)) m n (m - i) (n - (j + 1))) && decide (lo = 1))))) = pcF (fun k => letc c (k : Int)) (fun k => letc e0 (k : Int)) (M 6) m n i j := by
    unfold pcF
    by_cases h1 : i < m
    · by_cases h2 : j < n
      · have : decide (lo = 1) = decide (M 6 (letc c (i : Int)).toNat < M 6 (letc e0 (j : Int)).toNat) := decide_eq_decide.mpr (hlo2 h1 h2)
        rw [this]
      · have : decide (n ≤ j) = true := decide_eq_true (by omega)
        rw [this, Bool.true_or, Bool.true_or]
    · rw [decide_eq_false h1, Bool.false_and, Bool.false_and]
  have hE : (decide (letc c (i : Int) = letc e0 (j : Int))) = pcE (fun k => letc c (k : Int)) (fun k => letc e0 (k : Int)) m n i j := by
    unfold pcE
    by_cases h1 : i < m
    · by_cases h2 : j < n
      · rw [decide_eq_true h1, decide_eq_true h2, Bool.true_and, Bool.true_and]
      · have l1 := lr hm i h1
        have l2 : letc e0 (j : Int) = -1 := by rw [la hn j (by omega), if_neg h2]
        rw [decide_eq_true h1, decide_eq_false h2, Bool.true_and, Bool.false_and]
        exact decide_eq_false (by omega)
    · have l1 : letc c (i : Int) = -1 := by rw [la hm i (by omega), if_neg h1]
      have l2 := lr hn j (by omega)
      rw [decide_eq_false h1, Bool.false_and]
      exact decide_eq_false (by omega)
  have tf := s_takesFirst (z := z) (d := e) (lo := lo) (μ := M) he m8 n8 hi hj hT hlo
  rw [hF] at tf
  rw [h59, h117, e_Tre_make_116, tf]
  simp -implicitDefEqProofs only [ob]
  rw [hk]
  have hI : pcI (fun k => letc c (k : Int)) (fun k => letc e0 (k : Int)) (M 6) m n i j = if (pcE (fun k => letc c (k : Int)) (fun k => letc e0 (k : Int)) m n i j || pcF (fun k => letc c (k : Int)) (fun k => letc e0 (k : Int)) (M 6) m n i j) = true then i + 1 else i := rfl
  have hJ : pcJ (fun k => letc c (k : Int)) (fun k => letc e0 (k : Int)) (M 6) m n i j = if (pcE (fun k => letc c (k : Int)) (fun k => letc e0 (k : Int)) m n i j || !pcF (fun k => letc c (k : Int)) (fun k => letc e0 (k : Int)) (M 6) m n i j) = true then j + 1 else j := rfl
  have hL : pcL (fun k => letc c (k : Int)) (fun k => letc e0 (k : Int)) (M 6) m n i j = if (pcE (fun k => letc c (k : Int)) (fun k => letc e0 (k : Int)) m n i j || pcF (fun k => letc c (k : Int)) (fun k => letc e0 (k : Int)) (M 6) m n i j) = true then letc c (i : Int) else letc e0 (j : Int) := rfl
  rw [hI, hJ, hL]
  rw [hE]
  generalize hFv : pcF (fun k => letc c (k : Int)) (fun k => letc e0 (k : Int)) (M 6) m n i j = f
  generalize hEv : pcE (fun k => letc c (k : Int)) (fun k => letc e0 (k : Int)) m n i j = q at hE
  have hE2 : (letc c (i : Int) = letc e0 (j : Int)) ↔ q = true := by rw [← hE]; exact decide_eq_true_iff.symm
  have e171 : ∀ x : Int, zup (zup M 56 k x) 55 1 (zw ((k : Int) + 1)) = zup (zup M 56 k x) 55 1 ((k + 1 : Nat) : Int) := fun x => by rw [zwc (by omega)]
  cases q with
  | true =>
    have hab := hE2.mpr rfl
    rw [cond_true, e_Tre_make_141, e_Tre_make_148, gI_ok (by omega) (by omega), Int.toNat_natCast, cT hab, e_Tre_make_171, e_Tre_make_174, cT hab, e_Tre_make_186, e_Tre_make_189, zwc (by omega), zwc (by omega), hk, e171, Bool.true_or, Bool.true_or, if_pos rfl, if_pos rfl, if_pos rfl]
  | false =>
    have hab : ¬ letc c (i : Int) = letc e0 (j : Int) := fun q => absurd (hE2.mp q) (by decide)
    rw [cond_false, cB, Bool.false_or, Bool.false_or]
    cases f with
    | true =>
      rw [cond_true, e_Tre_make_141, e_Tre_make_148, gI_ok (by omega) (by omega), Int.toNat_natCast, cF hab, bi_t, cF (by omega), e_Tre_make_171, e_Tre_make_174, cF hab, nF (by omega), e_Tre_make_189, zwc (by omega), hk, e171, if_pos rfl, if_neg (by decide), if_pos rfl]
    | false =>
      rw [cond_false, e_Tre_make_148, gI_ok (by omega) (by omega), Int.toNat_natCast, cF hab, bi_f, cT rfl, e_Tre_make_174, cF hab, nT rfl, e_Tre_make_186, e_Tre_make_189, zwc (by omega), hk, e171, if_neg (by decide), if_pos (by rfl), if_neg (by decide)]
