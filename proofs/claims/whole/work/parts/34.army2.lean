/-! what the class's army does -/
def cfb (f w : Nat) (c : Int) (h : Row) (b : Nat) : Bool := !f.testBit w && (decide (cnt f.testBit 12 < 6) && allb (pf c h b) 8)
def takeB (h : Row) (b : Nat) (c : Int) : Nat → Row
  | 0 => h
  | k + 1 => if 1 ≤ nib c k ∧ nib c k ≤ 12 then rup (takeB h b c k) (b + (nib c k - 1)) (takeB h b c k (b + (nib c k - 1)) - 1) else takeB h b c k
theorem takeB_rg {h : Row} {b : Nat} {c : Int} (hh : hr h) (k j : Nat) : -(k : Int) ≤ takeB h b c k j ∧ takeB h b c k j ≤ 999 := by
  induction k generalizing j with
  | zero => have := hh j; unfold takeB; omega
  | succ k ih =>
    have h1 := ih j
    have h2 := ih (b + (nib c k - 1))
    unfold takeB
    split
    · unfold rup
      split <;> omega
    · omega
theorem s_form {z : zZ} {d o n f w : Nat} {μ : Mu} (hd : 4 ≤ d) (ho : o = 4 ∨ o = 13) (hn : μ o 6 = (n : Int)) (h12 : n ≤ 12) (hf : μ o 7 = (f : Int)) (h4 : f < 4096) (hw : w < n) (hh : hr (μ (o + 3))) : mC z d 71 [(2, (o : Int)), (0, (w : Int))] μ = some (if cfb f w (μ (o + 4) w) (μ (o + 3)) 0 = true then (1, zup (zrow μ (o + 3) (takeB (μ (o + 3)) 0 (μ (o + 4) w) 8)) o 7 ((f ||| 2 ^ w : Nat) : Int)) else (0, μ)) := by
  obtain ⟨e, rfl, he⟩ := pred_of hd
  rw [c_Army_form _ _ _ _ _ ho, s_canForm he ho hn h12 hf h4 hw]
  simp only [ob, nB]
  show (bif cfb f w (μ (o + 4) w) (μ (o + 3)) 0 then _ else _) = _
  cases hc : cfb f w (μ (o + 4) w) (μ (o + 3)) 0
  · simp only [cond_false, Bool.false_eq_true, if_false]
  · simp only [cond_true, if_true]
    have n1 : ∀ h : Row, zrow μ (o + 3) h (o + 4) = μ (o + 4) := fun h => zrow_ne (by omega)
    have n2 : ∀ h : Row, zrow μ (o + 3) h o = μ o := fun h => zrow_ne (by omega)
    have H := down (n := 8) (P := fun k => f_Army_form_12 z e o (w : Int) (k : Int) (zrow μ (o + 3) (takeB (μ (o + 3)) 0 (μ (o + 4) w) k)) = some (1, zup (zrow μ (o + 3) (takeB (μ (o + 3)) 0 (μ (o + 4) w) 8)) o 7 ((f ||| 2 ^ w : Nat) : Int)))
      (by
        rw [e_Army_form_12 _ _ _ _ _ _ ho, cT (by omega), n2, hf, s_or1 (by omega) (by omega)])
      (by
        intro k hk ih
        have h15 := nib_lt (μ (o + 4) w) k
        rw [e_Army_form_12 _ _ _ _ _ _ ho, cF (by omega), gI_ok (by omega) (by omega), Int.toNat_natCast, n1, s_letterAt (by omega), letc_nat hk]
        simp only [ob]
        rw [s_isLetter (by omega)]
        simp only [ob, cB]
        by_cases hl : 1 ≤ nib (μ (o + 4) w) k ∧ nib (μ (o + 4) w) k ≤ 12
        · have e1 : (0 : Int) ≤ (nib (μ (o + 4) w) k : Int) - 1 ∧ (nib (μ (o + 4) w) k : Int) - 1 < 12 := by omega
          have e2 : zw (0 + ((nib (μ (o + 4) w) k : Int) - 1)) = ((0 + (nib (μ (o + 4) w) k - 1) : Nat) : Int) := by rw [zw_id (by omega) (by omega)]; omega
          have hb := takeB_rg (b := 0) (c := μ (o + 4) w) hh k (0 + (nib (μ (o + 4) w) k - 1))
          simp only [e1, and_self, decide_true, cond_true, e2, Int.toNat_natCast]
          rw [gI_ok (by omega) (by omega), gI_ok (by omega) (by omega), e_Army_form_48 _ _ _ _ _ _ ho, zwc (by omega), zupr, zrow_same, zrow_zrow, zw_id (by omega) (by omega)]
          simpa [takeB, hl] using ih
        · have e1 : ¬ ((0 : Int) ≤ (nib (μ (o + 4) w) k : Int) - 1 ∧ (nib (μ (o + 4) w) k : Int) - 1 < 12) := by omega
          simp only [e1, decide_false, cond_false]
          rw [e_Army_form_48 _ _ _ _ _ _ ho, zwc (by omega)]
          simpa [takeB, hl] using ih)
    have H0 := H 0 (by omega)
    simpa [takeB, zrow_id] using H0
theorem s_form_no {z : zZ} {d o n : Nat} {w : Int} {μ : Mu} (hd : 4 ≤ d) (ho : o = 4 ∨ o = 13) (hn : μ o 6 = (n : Int)) (h12 : n ≤ 12) (hw : ¬ (0 ≤ w ∧ w < n)) : mC z d 71 [(2, (o : Int)), (0, w)] μ = some (0, μ) := by
  obtain ⟨e, rfl, he⟩ := pred_of hd
  rw [c_Army_form _ _ _ _ _ ho, s_canForm_no he ho hn h12 hw]
  rfl
theorem s_dissolve {z : zZ} {d o n f w : Nat} {μ : Mu} (hd : 4 ≤ d) (ho : o = 4 ∨ o = 13) (hn : μ o 6 = (n : Int)) (h12 : n ≤ 12) (hf : μ o 7 = (f : Int)) (h4 : f < 4096) (hw : w < n) (hh : hr (μ (o + 3))) : mC z d 76 [(2, (o : Int)), (0, (w : Int))] μ = some (if f.testBit w = true then (1, zrow (zup μ o 7 ((fclr f w : Nat) : Int)) (o + 3) (homeB (μ (o + 3)) 0 (μ (o + 4) w) 8)) else (0, μ)) := by
  obtain ⟨e, rfl, he⟩ := pred_of hd
  have hr0 : (0 : Int) ≤ (w : Int) ∧ (w : Int) < (n : Int) := by omega
  rw [c_Army_dissolve _ _ _ _ _ ho, s_stands (by omega) ho hn h12 hf h4]
  simp only [ob, nB, hr0, and_self, decide_true, Bool.true_and, Int.toNat_natCast]
  cases hb : f.testBit w
  · simp only [cond_false, Bool.false_eq_true, if_false]
  · simp only [cond_true, if_true]
    have e3 : zup μ o 7 ((fclr f w : Nat) : Int) (o + 3) = μ (o + 3) := zup_ro (by omega)
    rw [gI_ok (by omega) (by omega), hf, s_clr h4 (by omega), s_sendHome he ho (by rw [e3]; exact hh), e3]
    rfl
theorem s_dissolve_no {z : zZ} {d o n f : Nat} {w : Int} {μ : Mu} (hd : 4 ≤ d) (ho : o = 4 ∨ o = 13) (hn : μ o 6 = (n : Int)) (h12 : n ≤ 12) (hf : μ o 7 = (f : Int)) (h4 : f < 4096) (hw : ¬ (0 ≤ w ∧ w < n)) : mC z d 76 [(2, (o : Int)), (0, w)] μ = some (0, μ) := by
  obtain ⟨e, rfl, he⟩ := pred_of hd
  rw [c_Army_dissolve _ _ _ _ _ ho, s_stands (by omega) ho hn h12 hf h4]
  simp only [ob, nB, hw, decide_false, Bool.false_and, cond_false]
theorem s_replace {z : zZ} {d o n f w v : Nat} {μ : Mu} (hd : 3 ≤ d) (ho : o = 4 ∨ o = 13) (hn : μ o 6 = (n : Int)) (h12 : n ≤ 12) (hf : μ o 7 = (f : Int)) (h4 : f < 4096) (hw : w < n) (hv : v < n) : mC z d 78 [(2, (o : Int)), (0, (w : Int)), (0, (v : Int))] μ = some (if (f.testBit w && !f.testBit v) = true then (1, zup μ o 7 ((fclr f w ||| 2 ^ v : Nat) : Int)) else (0, μ)) := by
  obtain ⟨e, rfl, he⟩ := pred_of hd
  have hr0 : (0 : Int) ≤ (w : Int) ∧ (w : Int) < (n : Int) := by omega
  have hr1 : (0 : Int) ≤ (v : Int) ∧ (v : Int) < (n : Int) := by omega
  have hlt := fclr_lt f w
  rw [c_Army_replace _ _ _ _ _ _ ho, s_stands he ho hn h12 hf h4]
  simp only [ob, cB, hr0, and_self, decide_true, Bool.true_and, Int.toNat_natCast]
  cases hb : f.testBit w
  · simp only [cond_false, Bool.false_and, Bool.false_eq_true, if_false, e_Army_replace_24]
  · simp only [cond_true, Bool.true_and]
    rw [s_hasWord (by omega) ho hn h12]
    simp only [ob, cB, hr1, and_self, decide_true, cond_true]
    rw [s_stands he ho hn h12 hf h4]
    simp only [ob, cB, hr1, and_self, decide_true, Bool.true_and, Int.toNat_natCast]
    cases hb2 : f.testBit v
    · simp only [cond_false, Bool.not_false, if_true]
      rw [hf, s_clr h4 (by omega), s_or1 (by omega) (by omega)]
    · simp only [cond_true, Bool.not_true, Bool.false_eq_true, if_false, e_Army_replace_24]
theorem s_replace_no {z : zZ} {d o n f : Nat} {w v : Int} {μ : Mu} (hd : 3 ≤ d) (ho : o = 4 ∨ o = 13) (hn : μ o 6 = (n : Int)) (h12 : n ≤ 12) (hf : μ o 7 = (f : Int)) (h4 : f < 4096) (hw : ¬ ((0 ≤ w ∧ w < n) ∧ (0 ≤ v ∧ v < n))) : mC z d 78 [(2, (o : Int)), (0, w), (0, v)] μ = some (0, μ) := by
  obtain ⟨e, rfl, he⟩ := pred_of hd
  rw [c_Army_replace _ _ _ _ _ _ ho, s_stands he ho hn h12 hf h4]
  simp only [ob, cB]
  by_cases h1 : 0 ≤ w ∧ w < n
  · have h2 : ¬ (0 ≤ v ∧ v < n) := fun h => hw ⟨h1, h⟩
    simp only [h1, and_self, decide_true, Bool.true_and]
    cases hb : f.testBit w.toNat
    · simp only [cond_false, e_Army_replace_24]
    · simp only [cond_true]
      rw [s_hasWord (by omega) ho hn h12]
      simp only [ob, cB, h2, decide_false, cond_false, e_Army_replace_24]
  · simp only [h1, decide_false, Bool.false_and, cond_false, e_Army_replace_24]
theorem s_formable {z : zZ} {d o n f : Nat} {μ : Mu} (hd : 4 ≤ d) (ho : o = 4 ∨ o = 13) (hn : μ o 6 = (n : Int)) (h12 : n ≤ 12) (hf : μ o 7 = (f : Int)) (h4 : f < 4096) : mC z d 118 [(2, (o : Int))] μ = some (((bset (fun w => cfb f w (μ (o + 4) w) (μ (o + 3)) 0) n : Nat) : Int), μ) := by
  obtain ⟨e, rfl, he⟩ := pred_of hd
  rw [c_Army_formable _ _ _ _ ho]
  have H := down (n := n) (P := fun k => f_Army_formable_4 z e o ((bset (fun w => cfb f w (μ (o + 4) w) (μ (o + 3)) 0) k : Nat) : Int) (k : Int) μ = some (((bset (fun w => cfb f w (μ (o + 4) w) (μ (o + 3)) 0) n : Nat) : Int), μ))
    (by rw [e_Army_formable_4 _ _ _ _ _ _ ho, hn, cT (by omega)])
    (by
      intro k hk ih
      have hlt := bset_lt (fun w => cfb f w (μ (o + 4) w) (μ (o + 3)) 0) k
      have h2 : 2 ^ k ≤ 2 ^ 12 := Nat.pow_le_pow_right (by omega) (by omega)
      rw [e_Army_formable_4 _ _ _ _ _ _ ho, hn, cF (by omega), s_canForm he ho hn h12 hf h4 hk]
      simp only [ob, cB]
      show (bif cfb f k (μ (o + 4) k) (μ (o + 3)) 0 then _ else _) = _
      cases hc : cfb f k (μ (o + 4) k) (μ (o + 3)) 0
      · simp only [cond_false]
        rw [e_Army_formable_26 _ _ _ _ _ _ ho, zwc (by omega)]
        simpa [bset, hc] using ih
      · simp only [cond_true]
        rw [e_Army_formable_26 _ _ _ _ _ _ ho, zwc (by omega), s_or1 (by omega) (by omega)]
        simpa [bset, hc] using ih)
  exact H 0 (by omega)
theorem s_total {z : zZ} {d o b : Nat} {μ : Mu} (hd : 1 ≤ d) (ho : o = 4 ∨ o = 13) (hb : b ≤ 24) (hh : hr (μ (o + 3))) : mC z d 165 [(2, (o : Int)), (0, (b : Int))] μ = some (sm (fun k => μ (o + 3) (b + k)) 12, μ) := by
  obtain ⟨e, rfl, he⟩ := pred_of hd
  rw [c_Army_total _ _ _ _ _ ho]
  have H := down (n := 12) (P := fun k => f_Army_total_4 z e o (b : Int) (sm (fun k => μ (o + 3) (b + k)) k) (k : Int) μ = some (sm (fun k => μ (o + 3) (b + k)) 12, μ))
    (by rw [e_Army_total_4 _ _ _ _ _ _ _ ho, cT (by omega)])
    (by
      intro k hk ih
      have h1 := sm_bound (g := fun k => μ (o + 3) (b + k)) (b := 999) (fun k => hh (b + k)) k
      have h2 := hh (b + k)
      rw [e_Army_total_4 _ _ _ _ _ _ _ ho, cF (by omega), zwa (by omega), gI_ok (by omega) (by omega), Int.toNat_natCast, zwc (by omega), zw_id (by omega) (by omega)]
      exact ih)
  exact H 0 (by omega)
def mxv (g : Nat → Int) : Nat → Int
  | 0 => 0
  | n + 1 => if mxv g n < g n then g n else mxv g n
theorem s_mostAlike {z : zZ} {d o b : Nat} {μ : Mu} (hd : 1 ≤ d) (ho : o = 4 ∨ o = 13) (hb : b ≤ 24) : mC z d 166 [(2, (o : Int)), (0, (b : Int))] μ = some (mxv (fun k => μ (o + 3) (b + k)) 12, μ) := by
  obtain ⟨e, rfl, he⟩ := pred_of hd
  rw [c_Army_mostAlike _ _ _ _ _ ho]
  have H := down (n := 12) (P := fun k => f_Army_mostAlike_4 z e o (b : Int) (mxv (fun k => μ (o + 3) (b + k)) k) (k : Int) μ = some (mxv (fun k => μ (o + 3) (b + k)) 12, μ))
    (by rw [e_Army_mostAlike_4 _ _ _ _ _ _ _ ho, cT (by omega)])
    (by
      intro k hk ih
      rw [e_Army_mostAlike_4 _ _ _ _ _ _ _ ho, cF (by omega), zwa (by omega), gI_ok (by omega) (by omega), Int.toNat_natCast, zwc (by omega)]
      exact ih)
  exact H 0 (by omega)
/-- letters from a place on are lost: prisoners ahead of ff, dead from ff on -/
def lsB (h : Row) (c : Int) (ff i : Nat) : Nat → Row
  | 0 => h
  | k + 1 => addN (lsB h c ff i k) ((if i + k < ff then 24 else 12) + (nib c (i + k) - 1)) 1
theorem hr_lsB {h : Row} {c : Int} {ff i : Nat} (hh : hr h) (k : Nat) : hr (lsB h c ff i k) := by
  induction k with
  | zero => exact hh
  | succ k ih => exact hr_addN ih (by omega)
