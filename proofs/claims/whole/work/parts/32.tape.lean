/-! texts: the class's tape and the reference's -/
def tx (b : Row) (n p : Nat) : Int := if p < n then b p else -1
def byt (b : Row) : Prop := ∀ k, 0 ≤ b k ∧ b k ≤ 255
theorem tx_rg {b : Row} (hb : byt b) (n p : Nat) : -1 ≤ tx b n p ∧ tx b n p ≤ 255 := by
  have := hb p
  unfold tx; split <;> omega
theorem tx_in {b : Row} {n p : Nat} (h : p < n) : tx b n p = b p := by unfold tx; rw [if_pos h]
theorem tx_out {b : Row} {n p : Nat} (h : n ≤ p) : tx b n p = -1 := by unfold tx; rw [if_neg (by omega)]
def isl (b : Row) (n p : Nat) : Bool := decide (97 ≤ tx b n p ∧ tx b n p ≤ 108)
def isg (b : Row) (n p : Nat) : Bool := decide (48 ≤ tx b n p ∧ tx b n p ≤ 57)
theorem isl_lt {b : Row} {n p : Nat} (h : isl b n p = true) : p < n := by
  apply Nat.lt_of_not_le
  intro h2
  unfold isl at h
  rw [tx_out h2] at h
  simp at h
theorem isl_b {b : Row} {n p : Nat} (h : isl b n p = true) : 97 ≤ b p ∧ b p ≤ 108 := by
  have h2 := isl_lt h
  unfold isl at h
  rw [tx_in h2] at h
  simpa using h
theorem zup_zup {μ : Mu} {a k : Nat} {v w : Int} : zup (zup μ a k v) a k w = zup μ a k w := by
  rw [zupr, zupr, zupr, zrow_same, zrow_zrow, rup_rup]
theorem zup_read {μ : Mu} {a k b j : Nat} {v : Int} : zup μ a k v b j = if b = a ∧ j = k then v else μ b j := rfl
theorem zup_ro {μ : Mu} {a k b : Nat} {v : Int} (h : b ≠ a) : zup μ a k v b = μ b := by
  funext j; exact zup_na h
theorem s_peek {z : zZ} {d p n : Nat} {μ : Mu} (hd : 1 ≤ d) (h2 : μ 1 2 = (p : Int)) (h3 : μ 1 3 = (n : Int)) (hn : n ≤ 220) : mC z d 22 [(2, 1)] μ = some (tx (μ 2) n p, μ) := by
  obtain ⟨e, rfl, he⟩ := pred_of hd
  rw [c_Tape_peek, h2, h3, cF (by omega)]
  by_cases h : p < n
  · rw [cF (by omega), cF (by omega), gI_ok (by omega) (by omega), e_Tape_peek_41, tx_in h, Int.toNat_natCast]
  · rw [cT (by omega), e_Tape_peek_40, e_Tape_peek_41, tx_out (by omega)]
theorem s_atLetter {z : zZ} {d p n : Nat} {μ : Mu} (hd : 2 ≤ d) (h2 : μ 1 2 = (p : Int)) (h3 : μ 1 3 = (n : Int)) (hn : n ≤ 220) (hb : byt (μ 2)) : mC z d 27 [(2, 1)] μ = some (bi (isl (μ 2) n p), μ) := by
  obtain ⟨e, rfl, he⟩ := pred_of hd
  have hr := tx_rg hb n p
  rw [c_Tape_atLetter, s_peek he h2 h3 hn]
  simp only [ob]
  rw [zw_id (by omega) (by omega), s_isLetter he]
  simp only [ob]
  rw [g01b]
  unfold isl
  congr 2
  congr 1
  apply decide_eq_decide.mpr
  omega
theorem s_atDigit {z : zZ} {d p n : Nat} {μ : Mu} (hd : 2 ≤ d) (h2 : μ 1 2 = (p : Int)) (h3 : μ 1 3 = (n : Int)) (hn : n ≤ 220) : mC z d 52 [(2, 1)] μ = some (bi (isg (μ 2) n p), μ) := by
  obtain ⟨e, rfl, he⟩ := pred_of hd
  rw [c_Tape_atDigit, s_peek he h2 h3 hn]
  simp only [ob]
  unfold isg
  by_cases h : tx (μ 2) n p < 48
  · rw [cT h, e_Tape_atDigit_22, e_Tape_atDigit_23, g01_0, bi_df (by omega)]
  · rw [cF h, s_peek he h2 h3 hn]
    simp only [ob]
    by_cases h1 : 57 < tx (μ 2) n p
    · rw [cT h1, e_Tape_atDigit_22, e_Tape_atDigit_23, g01_0, bi_df (by omega)]
    · rw [cF h1, e_Tape_atDigit_23, g01_1, bi_dt (by omega)]
theorem s_atEnd {z : zZ} {d p n : Nat} {μ : Mu} (hd : 1 ≤ d) (h2 : μ 1 2 = (p : Int)) (h3 : μ 1 3 = (n : Int)) : mC z d 33 [(2, 1)] μ = some (bi (decide (n ≤ p)), μ) := by
  obtain ⟨e, rfl, he⟩ := pred_of hd
  rw [c_Tape_atEnd, h2, h3]
  by_cases h : n ≤ p
  · rw [cF (by omega), e_Tape_atEnd_16, g01_1, bi_dt h]
  · rw [cT (by omega), e_Tape_atEnd_16, g01_0, bi_df h]
theorem s_fail0 {z : zZ} {d : Nat} {k w : Int} {μ : Mu} (hd : 1 ≤ d) (h4 : μ 1 4 = 0) (hk : 0 ≤ k ∧ k ≤ 9) (hw : 0 ≤ w ∧ w ≤ 1000) : mC z d 28 [(2, 1), (0, k), (0, w)] μ = some (0, zup μ 1 4 (-1000 * k - w)) := by
  obtain ⟨e, rfl, he⟩ := pred_of hd
  rw [c_Tape_fail, nT h4, e_Tape_fail_18, zw_id (x := -1000 * k) (by omega) (by omega), zw_id (by omega) (by omega)]
theorem s_fail1 {z : zZ} {d : Nat} {k w : Int} {μ : Mu} (hd : 1 ≤ d) (h4 : μ 1 4 ≠ 0) : mC z d 28 [(2, 1), (0, k), (0, w)] μ = some (0, μ) := by
  obtain ⟨e, rfl, he⟩ := pred_of hd
  rw [c_Tape_fail, nF h4, e_Tape_fail_18]
theorem s_takeByte {z : zZ} {d p n : Nat} {μ : Mu} (hd : 2 ≤ d) (h2 : μ 1 2 = (p : Int)) (h3 : μ 1 3 = (n : Int)) (hn : n ≤ 220) (hp : p < 100000) : mC z d 21 [(2, 1)] μ = some (tx (μ 2) n p, zup μ 1 2 ((p + 1 : Nat) : Int)) := by
  obtain ⟨e, rfl, he⟩ := pred_of hd
  rw [c_Tape_takeByte, s_peek he h2 h3 hn]
  simp only [ob]
  rw [h2, zwc (by omega)]
theorem s_takeLetter {z : zZ} {d p n : Nat} {μ : Mu} (hd : 3 ≤ d) (h2 : μ 1 2 = (p : Int)) (h3 : μ 1 3 = (n : Int)) (hn : n ≤ 220) (hb : byt (μ 2)) (hl : isl (μ 2) n p = true) : mC z d 30 [(2, 1)] μ = some (μ 2 p - 97, zup μ 1 2 ((p + 1 : Nat) : Int)) := by
  obtain ⟨e, rfl, he⟩ := pred_of hd
  have h5 := isl_b hl
  have h6 := isl_lt hl
  rw [c_Tape_takeLetter, s_atLetter he h2 h3 hn hb]
  simp only [ob, nB, hl, cond_true]
  rw [s_takeByte he h2 h3 hn (by omega), tx_in h6]
  simp only [ob]
  rw [zw_id (by omega) (by omega)]
theorem s_takeLetter_no {z : zZ} {d p n : Nat} {μ : Mu} (hd : 3 ≤ d) (h2 : μ 1 2 = (p : Int)) (h3 : μ 1 3 = (n : Int)) (h4 : μ 1 4 = 0) (hn : n ≤ 220) (hp : p ≤ 1000) (hb : byt (μ 2)) (hl : isl (μ 2) n p = false) : mC z d 30 [(2, 1)] μ = some (0, zup μ 1 4 (-1000 - (p : Int))) := by
  obtain ⟨e, rfl, he⟩ := pred_of hd
  rw [c_Tape_takeLetter, s_atLetter he h2 h3 hn hb]
  simp only [ob, nB, hl, cond_false]
  rw [h2, s_fail0 (by omega) h4 (by omega) (by omega)]
  rfl
/-- how many letters follow, nine at most; the word that they are -/
def wl9 (q : Nat → Bool) : Nat → Nat → Nat
  | 0, _ => 0
  | j + 1, p => if q p then wl9 q j (p + 1) + 1 else 0
theorem wl9_le (q : Nat → Bool) (j : Nat) : ∀ p, wl9 q j p ≤ j := by
  induction j with
  | zero => intro p; exact Nat.le_refl _
  | succ j ih => intro p; unfold wl9; have := ih (p + 1); split <;> omega
theorem wl9_all (q : Nat → Bool) (j : Nat) : ∀ p k, k < wl9 q j p → q (p + k) = true := by
  induction j with
  | zero => intro p k h; simp [wl9] at h
  | succ j ih =>
    intro p k h
    unfold wl9 at h
    split at h
    · rename_i hq
      cases k with
      | zero => exact hq
      | succ k =>
        have := ih (p + 1) k (by omega)
        rwa [show p + 1 + k = p + (k + 1) by omega] at this
    · omega
theorem wl9_end (q : Nat → Bool) (j : Nat) : ∀ p, wl9 q j p < j → q (p + wl9 q j p) = false := by
  induction j with
  | zero => intro p h; omega
  | succ j ih =>
    intro p h
    unfold wl9 at h ⊢
    split
    · rename_i hq
      rw [if_pos hq] at h
      have := ih (p + 1) (by omega)
      rwa [show p + 1 + wl9 q j (p + 1) = p + (wl9 q j (p + 1) + 1) by omega] at this
    · rename_i hq
      simpa using hq
def wln (b : Row) (n p : Nat) : Nat := wl9 (isl b n) 9 p
def wcd (b : Row) (p : Nat) : Nat → Int
  | 0 => 0
  | k + 1 => wset (wcd b p k) k (b (p + k) - 97)
theorem rg_wcd (b : Row) (p k : Nat) : rg (wcd b p k) := by
  cases k with
  | zero => unfold rg wcd; omega
  | succ k => exact rg_wset _ _ _
theorem nib_wcd {b : Row} {p m : Nat} (hm : m ≤ 8) (h : ∀ k, k < m → 97 ≤ b (p + k) ∧ b (p + k) ≤ 108) (j : Nat) : ∀ k, k ≤ m → nib (wcd b p k) j = if j < k then (b (p + j) - 96).toNat else 0 := by
  intro k
  induction k with
  | zero => intro hk; rw [if_neg (by omega)]; exact nib_zero j
  | succ k ih =>
    intro hk
    have h1 := h k (by omega)
    unfold wcd
    rw [nib_wset (by omega) (by omega) (by omega), ih (by omega)]
    by_cases h2 : j = k
    · subst h2
      rw [if_pos rfl, if_pos (by omega)]
      omega
    · rw [if_neg h2]
      by_cases h3 : j < k
      · rw [if_pos h3, if_pos (by omega)]
      · rw [if_neg h3, if_neg (by omega)]
theorem isW_wcd {b : Row} {p m : Nat} (hm : m ≤ 8) (h : ∀ k, k < m → 97 ≤ b (p + k) ∧ b (p + k) ≤ 108) : isW (wcd b p m) m := by
  refine ⟨rg_wcd _ _ _, hm, fun j hj => ?_, fun j hj => ?_⟩
  · rw [nib_wcd hm h j m (Nat.le_refl _), if_pos hj]
    have := h j hj
    omega
  · rw [nib_wcd hm h j m (Nat.le_refl _), if_neg (by omega)]
/-- the class takes a word: 0 letters, 1 to 8, more -/
theorem s_takeWord {z : zZ} {d p n : Nat} {μ : Mu} (hd : 4 ≤ d) (h2 : μ 1 2 = (p : Int)) (h3 : μ 1 3 = (n : Int)) (h4 : μ 1 4 = 0) (hn : n ≤ 220) (hp : p ≤ n) (hb : byt (μ 2)) : mC z d 29 [(2, 1)] μ = some (if wln (μ 2) n p = 0 then (0, zup μ 1 4 (-1000 - (p : Int))) else if wln (μ 2) n p ≤ 8 then (wcd (μ 2) p (wln (μ 2) n p), zup μ 1 2 ((p + wln (μ 2) n p : Nat) : Int)) else (0, zup (zup μ 1 2 ((p + 8 : Nat) : Int)) 1 4 (-3000 - ((p + 8 : Nat) : Int)))) := by
  obtain ⟨e, rfl, he⟩ := pred_of hd
  have hall := wl9_all (isl (μ 2) n) 9 p
  have hend := wl9_end (isl (μ 2) n) 9 p
  have hle := wl9_le (isl (μ 2) n) 9 p
  have hw : wl9 (isl (μ 2) n) 9 p = wln (μ 2) n p := rfl
  rw [hw] at hall hend hle
  rw [c_Tape_takeWord]
  by_cases h0 : wln (μ 2) n p = 0
  · rw [if_pos h0]
    have hno : isl (μ 2) n p = false := by have := hend (by omega); rwa [h0, Nat.add_zero] at this
    rw [s_takeLetter_no he h2 h3 h4 hn (by omega) hb hno]
    simp only [ob]
    have hs := s_changed (z := z) (d := e) (k := 0) (c := 0) (l := 0) (μ := zup μ 1 4 (-1000 - (p : Int))) (by omega) (by omega) (by omega) (by omega)
    simp only [Int.natCast_zero] at hs
    rw [hs]
    simp only [ob]
    have hf : zup μ 1 4 (-1000 - (p : Int)) 1 4 = -1000 - (p : Int) := zup_hit
    rw [e_Tape_takeWord_12, hf, cF (by omega), nF (by omega), e_Tape_takeWord_66, hf, nF (by omega), e_Tape_takeWord_78]
  · rw [if_neg h0]
    have hl0 := hall 0 (by omega)
    rw [Nat.add_zero] at hl0
    rw [s_takeLetter he h2 h3 hn hb hl0]
    simp only [ob]
    have hb0 := isl_b hl0
    have hs := s_changed (z := z) (d := e) (k := 0) (c := 0) (l := μ 2 p - 97) (μ := zup μ 1 2 ((p + 1 : Nat) : Int)) (by omega) (by omega) (by omega) (by omega)
    simp only [Int.natCast_zero] at hs
    rw [hs]
    simp only [ob]
    have key : ∀ k, 1 ≤ k → k ≤ wln (μ 2) n p → k ≤ 8 → f_Tape_takeWord_12 z e (wcd (μ 2) p k) (k : Int) (zup μ 1 2 ((p + k : Nat) : Int)) = some (if wln (μ 2) n p ≤ 8 then (wcd (μ 2) p (wln (μ 2) n p), zup μ 1 2 ((p + wln (μ 2) n p : Nat) : Int)) else (0, zup (zup μ 1 2 ((p + 8 : Nat) : Int)) 1 4 (-3000 - ((p + 8 : Nat) : Int)))) := by
      have D := down (n := if wln (μ 2) n p ≤ 8 then wln (μ 2) n p else 8) (P := fun k => 1 ≤ k → f_Tape_takeWord_12 z e (wcd (μ 2) p k) (k : Int) (zup μ 1 2 ((p + k : Nat) : Int)) = some (if wln (μ 2) n p ≤ 8 then (wcd (μ 2) p (wln (μ 2) n p), zup μ 1 2 ((p + wln (μ 2) n p : Nat) : Int)) else (0, zup (zup μ 1 2 ((p + 8 : Nat) : Int)) 1 4 (-3000 - ((p + 8 : Nat) : Int)))))
        (by
          intro h1
          by_cases h8 : wln (μ 2) n p ≤ 8
          · simp only [if_pos h8]
            have hno := hend (by omega)
            have m2 : zup μ 1 2 ((p + wln (μ 2) n p : Nat) : Int) 1 2 = ((p + wln (μ 2) n p : Nat) : Int) := zup_hit
            have m3 : zup μ 1 2 ((p + wln (μ 2) n p : Nat) : Int) 1 3 = (n : Int) := by rw [zup_nk (by omega)]; exact h3
            have m4 : zup μ 1 2 ((p + wln (μ 2) n p : Nat) : Int) 1 4 = 0 := by rw [zup_nk (by omega)]; exact h4
            have mb : zup μ 1 2 ((p + wln (μ 2) n p : Nat) : Int) 2 = μ 2 := zup_ro (by omega)
            rw [e_Tape_takeWord_12, cF (by omega), m4, nT rfl, s_atLetter (by omega) m2 m3 hn (by rw [mb]; exact hb), mb, hno]
            simp only [ob, cB, cond_false]
            rw [e_Tape_takeWord_66, m4, nT rfl, e_Tape_takeWord_78]
          · simp only [if_neg h8]
            have hyes := hall 8 (by omega)
            have m2 : zup μ 1 2 ((p + 8 : Nat) : Int) 1 2 = ((p + 8 : Nat) : Int) := zup_hit
            have m3 : zup μ 1 2 ((p + 8 : Nat) : Int) 1 3 = (n : Int) := by rw [zup_nk (by omega)]; exact h3
            have m4 : zup μ 1 2 ((p + 8 : Nat) : Int) 1 4 = 0 := by rw [zup_nk (by omega)]; exact h4
            have mb : zup μ 1 2 ((p + 8 : Nat) : Int) 2 = μ 2 := zup_ro (by omega)
            rw [e_Tape_takeWord_12, cF (by omega), m4, nT rfl, s_atLetter (by omega) m2 m3 hn (by rw [mb]; exact hb), mb, hyes]
            simp only [ob, cB, cond_true]
            rw [nT (by omega), m2, s_fail0 (by omega) m4 (by omega) (by omega)]
            simp only [ob]
            have hf : ∀ v : Int, zup (zup μ 1 2 ((p + 8 : Nat) : Int)) 1 4 v 1 4 = v := fun v => zup_hit
            rw [e_Tape_takeWord_60, zwc (by omega), e_Tape_takeWord_12, cT (by omega), e_Tape_takeWord_66, hf, nF (by omega), e_Tape_takeWord_78]
            simp)
        (by
          intro k hk ih h1
          have hk8 : k < 8 := by split at hk <;> omega
          have hkw : k < wln (μ 2) n p := by split at hk <;> omega
          have hyes := hall k hkw
          have hbk := isl_b hyes
          have m2 : zup μ 1 2 ((p + k : Nat) : Int) 1 2 = ((p + k : Nat) : Int) := zup_hit
          have m3 : zup μ 1 2 ((p + k : Nat) : Int) 1 3 = (n : Int) := by rw [zup_nk (by omega)]; exact h3
          have m4 : zup μ 1 2 ((p + k : Nat) : Int) 1 4 = 0 := by rw [zup_nk (by omega)]; exact h4
          have mb : zup μ 1 2 ((p + k : Nat) : Int) 2 = μ 2 := zup_ro (by omega)
          rw [e_Tape_takeWord_12, cF (by omega), m4, nT rfl, s_atLetter (by omega) m2 m3 hn (by rw [mb]; exact hb), mb, hyes]
          simp only [ob, cB, cond_true]
          rw [nF (by omega), s_takeLetter he m2 m3 hn (by rw [mb]; exact hb) (by rw [mb]; exact hyes), mb]
          simp only [ob]
          rw [s_changed (by omega) hk8 (by omega) (by omega), zup_zup]
          simp only [ob]
          rw [e_Tape_takeWord_60, zwc (by omega)]
          exact ih (by omega))
      intro k h1 h5 h6
      exact D k (by split <;> omega) h1
    have := key 1 (by omega) (by omega) (by omega)
    simp only [wcd, Nat.add_zero, Int.natCast_one] at this
    exact this
