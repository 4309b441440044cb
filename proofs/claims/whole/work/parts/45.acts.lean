/-! acts of orders: the text of one act, and the class's reading of it -/
def wF (b : Row) (n p : Nat) : Int := if wln b n p = 0 then -1000 - (p : Int) else if 8 < wln b n p then -3000 - ((p + 8 : Nat) : Int) else 0
theorem wF_0 {b : Row} {n p : Nat} (h : wF b n p = 0) : 1 ≤ wln b n p ∧ wln b n p ≤ 8 := by
  unfold wF at h
  split at h
  · omega
  · split at h <;> omega
theorem wF_neg (b : Row) (n p : Nat) : wF b n p ≤ 0 := by
  unfold wF
  split
  · omega
  · split <;> omega
def aP (b : Row) (n p : Nat) : Nat := if isl b n p = true then p else p + 1
def aK (b : Row) (n p : Nat) : Int := if isl b n p = true then 62 else tx b n p
def aQ (b : Row) (n p : Nat) : Nat := aP b n p + wln b n (aP b n p)
def canB (b : Row) (n p : Nat) : Bool := isl b n p || decide (tx b n p = 43 ∨ tx b n p = 45 ∨ tx b n p = 126 ∨ tx b n p = 63)
def actF (b : Row) (n p : Nat) : Int :=
  if wF b n (aP b n p) ≠ 0 then wF b n (aP b n p)
  else if aK b n p = 62 then (if tx b n (aQ b n p) ≠ 62 then -1000 - ((aQ b n p : Nat) : Int) else wF b n (aQ b n p + 1))
  else if aK b n p = 63 then (if tx b n (aQ b n p) ≠ 46 then -1000 - ((aQ b n p : Nat) : Int) else if isg b n (aQ b n p + 1) = false then -1000 - ((aQ b n p + 1 : Nat) : Int) else if ¬ (1 ≤ tx b n (aQ b n p + 1) - 48 ∧ tx b n (aQ b n p + 1) - 48 ≤ wln b n (aP b n p)) then -6000 - ((aQ b n p + 1 : Nat) : Int) else if isl b n (aQ b n p + 2) = false then -1000 - ((aQ b n p + 2 : Nat) : Int) else 0)
  else 0
def actE (b : Row) (n p : Nat) : Nat := if aK b n p = 62 then aQ b n p + 1 + wln b n (aQ b n p + 1) else if aK b n p = 63 then aQ b n p + 3 else aQ b n p
def actA (b : Row) (n p : Nat) : Int := wcd b (aP b n p) (wln b n (aP b n p))
def actO (b : Row) (n p : Nat) : Int := if aK b n p = 62 then wcd b (aQ b n p + 1) (wln b n (aQ b n p + 1)) else if aK b n p = 63 then (tx b n (aQ b n p + 1) - 49) * 16 + (b (aQ b n p + 2) - 97) else 0
/-- only the tape's place and fault change -/
def tfr (μ M : Mu) : Prop := (∀ a, a ≠ 1 → M a = μ a) ∧ M 1 1 = μ 1 1 ∧ M 1 3 = μ 1 3 ∧ ∃ q : Nat, q ≤ 240 ∧ M 1 2 = (q : Int)
theorem tfr_trans {μ M K : Mu} (h1 : tfr μ M) (h2 : tfr M K) : tfr μ K := ⟨fun a h => by rw [h2.1 a h, h1.1 a h], by rw [h2.2.1, h1.2.1], by rw [h2.2.2.1, h1.2.2.1], h2.2.2.2⟩
theorem s_word {z : zZ} {d p n : Nat} {μ : Mu} (hd : 4 ≤ d) (h2 : μ 1 2 = (p : Int)) (h3 : μ 1 3 = (n : Int)) (h4 : μ 1 4 = 0) (hn : n ≤ 220) (hp : p ≤ n) (hb : byt (μ 2)) : ∃ r M, mC z d 29 [(2, 1)] μ = some (r, M) ∧ M 1 4 = wF (μ 2) n p ∧ tfr μ M ∧ (wF (μ 2) n p = 0 → r = wcd (μ 2) p (wln (μ 2) n p) ∧ M 1 2 = ((p + wln (μ 2) n p : Nat) : Int)) ∧ rg r := by
  have hT := s_takeWord (z := z) (d := d) hd h2 h3 h4 hn hp hb
  have h9 : wln (μ 2) n p ≤ 9 := wl9_le (isl (μ 2) n) 9 p
  have r0 : rg 0 := by unfold rg; omega
  by_cases c1 : wln (μ 2) n p = 0
  · rw [if_pos c1] at hT
    have e1 : wF (μ 2) n p = -1000 - (p : Int) := by unfold wF; rw [if_pos c1]
    refine ⟨_, _, hT, by rw [e1]; exact zup_hit, ⟨fun a h => zup_ro h, zup_nk (by omega), zup_nk (by omega), p, by omega, by rw [zup_nk (by omega)]; exact h2⟩, fun h => by rw [e1] at h; omega, r0⟩
  · rw [if_neg c1] at hT
    by_cases c2 : wln (μ 2) n p ≤ 8
    · rw [if_pos c2] at hT
      have e1 : wF (μ 2) n p = 0 := by unfold wF; rw [if_neg c1, if_neg (by omega)]
      refine ⟨_, _, hT, by rw [e1, zup_nk (by omega)]; exact h4, ⟨fun a h => zup_ro h, zup_nk (by omega), zup_nk (by omega), p + wln (μ 2) n p, by omega, zup_hit⟩, fun _ => ⟨rfl, zup_hit⟩, rg_wcd _ _ _⟩
    · rw [if_neg c2] at hT
      have e1 : wF (μ 2) n p = -3000 - ((p + 8 : Nat) : Int) := by unfold wF; rw [if_neg c1, if_pos (by omega)]
      refine ⟨_, _, hT, by rw [e1]; exact zup_hit, ⟨fun a h => by rw [zup_ro h, zup_ro h], by rw [zup_nk (by omega), zup_nk (by omega)], by rw [zup_nk (by omega), zup_nk (by omega)], p + 8, by omega, by rw [zup_nk (by omega)]; exact zup_hit⟩, fun h => by rw [e1] at h; omega, r0⟩
theorem s_canBegin {z : zZ} {d p n : Nat} {μ : Mu} (hd : 3 ≤ d) (h2 : μ 1 2 = (p : Int)) (h3 : μ 1 3 = (n : Int)) (hn : n ≤ 220) (hb : byt (μ 2)) : mC z d 66 [(2, 1)] μ = some (bi (canB (μ 2) n p), μ) := by
  obtain ⟨e, rfl, he⟩ := pred_of hd
  rw [c_Acts_canBegin, s_peek (by omega) h2 h3 hn]
  simp -implicitDefEqProofs only [ob]
  rw [s_atLetter (by omega) h2 h3 hn hb]
  simp -implicitDefEqProofs only [ob, nB]
  unfold canB
  cases isl (μ 2) n p
  · simp -implicitDefEqProofs only [cond_false, Bool.false_or]
    by_cases h43 : tx (μ 2) n p = 43
    · rw [cT h43, bi_dt (Or.inl h43), e_Acts_canBegin_36, e_Acts_canBegin_41, g01_1]
    · rw [cF h43]
      by_cases h45 : tx (μ 2) n p = 45
      · rw [cT h45, bi_dt (Or.inr (Or.inl h45)), e_Acts_canBegin_36, e_Acts_canBegin_41, g01_1]
      · rw [cF h45]
        by_cases h126 : tx (μ 2) n p = 126
        · rw [cT h126, bi_dt (Or.inr (Or.inr (Or.inl h126))), e_Acts_canBegin_36, e_Acts_canBegin_41, g01_1]
        · rw [cF h126]
          by_cases h63 : tx (μ 2) n p = 63
          · rw [nT h63, bi_dt (Or.inr (Or.inr (Or.inr h63))), e_Acts_canBegin_36, e_Acts_canBegin_41, g01_1]
          · rw [nF h63, bi_df (by omega), e_Acts_canBegin_40, e_Acts_canBegin_41, g01_0]
  · simp -implicitDefEqProofs only [cond_true, Bool.true_or, bi_t]
    rw [e_Acts_canBegin_36, e_Acts_canBegin_41, g01_1]
theorem s_takeChange {z : zZ} {d q n m : Nat} {μ : Mu} (hd : 4 ≤ d) (h2 : μ 1 2 = (q : Int)) (h3 : μ 1 3 = (n : Int)) (h4 : μ 1 4 = 0) (hn : n ≤ 220) (hq : q ≤ 230) (hb : byt (μ 2)) (hm : m ≤ 8) : ∃ r M, mC z d 69 [(2, 1), (0, (m : Int))] μ = some (r, M) ∧ tfr μ M ∧ M 1 4 = (if isg (μ 2) n q = false then -1000 - (q : Int) else if ¬ (1 ≤ tx (μ 2) n q - 48 ∧ tx (μ 2) n q - 48 ≤ m) then -6000 - (q : Int) else if isl (μ 2) n (q + 1) = false then -1000 - ((q + 1 : Nat) : Int) else 0) ∧ (M 1 4 = 0 → M 1 2 = ((q + 2 : Nat) : Int) ∧ r = (tx (μ 2) n q - 49) * 16 + (μ 2 (q + 1) - 97)) := by
  obtain ⟨e, rfl, he⟩ := pred_of hd
  have hr := tx_rg hb n q
  rw [c_Acts_takeChange, s_peek (by omega) h2 h3 hn]
  simp -implicitDefEqProofs only [ob]
  rw [s_atDigit (by omega) h2 h3 hn]
  simp -implicitDefEqProofs only [ob, nB]
  cases hg : isg (μ 2) n q
  · simp -implicitDefEqProofs only [cond_false, if_true]
    rw [h2, s_fail0 (by omega) h4 (by omega) (by omega)]
    simp -implicitDefEqProofs only [ob]
    rw [e_Acts_takeChange_72]
    refine ⟨_, _, rfl, ⟨fun a h => zup_ro h, zup_nk (by omega), zup_nk (by omega), q, by omega, by rw [zup_nk (by omega)]; exact h2⟩, by rw [zup_hit]; rfl, fun h => ?_⟩
    rw [zup_hit] at h
    omega
  · have hg2 : 48 ≤ tx (μ 2) n q ∧ tx (μ 2) n q ≤ 57 := by unfold isg at hg; simpa using hg
    simp -implicitDefEqProofs only [cond_true, Bool.true_eq_false, if_false]
    rw [zw_id (x := tx (μ 2) n q - 48) (by omega) (by omega)]
    have hfail : ∃ r M, f_Acts_takeChange_37 z e μ = some (r, M) ∧ tfr μ M ∧ M 1 4 = -6000 - (q : Int) := by
      rw [e_Acts_takeChange_37, h2, s_fail0 (by omega) h4 (by omega) (by omega)]
      simp -implicitDefEqProofs only [ob]
      rw [e_Acts_takeChange_72]
      exact ⟨_, _, rfl, ⟨fun a h => zup_ro h, zup_nk (by omega), zup_nk (by omega), q, by omega, by rw [zup_nk (by omega)]; exact h2⟩, by rw [zup_hit]; rfl⟩
    by_cases c1 : 1 ≤ tx (μ 2) n q - 48 ∧ tx (μ 2) n q - 48 ≤ m
    · rw [cF (by omega), cT (by omega), if_neg (by omega), h2, zwc (by omega)]
      have m2 : zup μ 1 2 ((q + 1 : Nat) : Int) 1 2 = ((q + 1 : Nat) : Int) := zup_hit
      have m3 : zup μ 1 2 ((q + 1 : Nat) : Int) 1 3 = (n : Int) := by rw [zup_nk (by omega)]; exact h3
      have m4 : zup μ 1 2 ((q + 1 : Nat) : Int) 1 4 = 0 := by rw [zup_nk (by omega)]; exact h4
      have mb : zup μ 1 2 ((q + 1 : Nat) : Int) 2 = μ 2 := zup_ro (by omega)
      cases hl : isl (μ 2) n (q + 1)
      · rw [s_takeLetter_no he m2 m3 m4 hn (by omega) (by rw [mb]; exact hb) (by rw [mb]; exact hl), if_pos rfl]
        simp -implicitDefEqProofs only [ob]
        refine ⟨_, _, rfl, ⟨fun a h => by rw [zup_ro h, zup_ro h], by rw [zup_nk (by omega), zup_nk (by omega)], by rw [zup_nk (by omega), zup_nk (by omega)], q + 1, by omega, by rw [zup_nk (by omega)]; exact m2⟩, zup_hit, fun h => ?_⟩
        rw [zup_hit] at h
        omega
      · have hlb := isl_b hl
        rw [s_takeLetter he m2 m3 hn (by rw [mb]; exact hb) (by rw [mb]; exact hl), if_neg (by decide), mb, zup_zup]
        simp -implicitDefEqProofs only [ob]
        refine ⟨_, _, rfl, ⟨fun a h => zup_ro h, zup_nk (by omega), zup_nk (by omega), q + 1 + 1, by omega, zup_hit⟩, by rw [zup_nk (by omega)]; exact h4, fun _ => ⟨zup_hit, ?_⟩⟩
        rw [zw_id (x := tx (μ 2) n q - 48 - 1) (by omega) (by omega), zw_id (x := (tx (μ 2) n q - 48 - 1) * 16) (by omega) (by omega), zw_id (by omega) (by omega)]
        omega
    · rw [if_pos (by omega)]
      obtain ⟨r, M, g1, g2, g3⟩ := hfail
      by_cases c2 : tx (μ 2) n q - 48 < 1
      · rw [cT c2]
        exact ⟨r, M, g1, g2, g3, fun h => by rw [g3] at h; omega⟩
      · rw [cF c2, cF (by omega)]
        exact ⟨r, M, g1, g2, g3, fun h => by rw [g3] at h; omega⟩
