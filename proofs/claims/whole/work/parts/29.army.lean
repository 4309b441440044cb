/-! an army's words and letters -/
def allb (p : Nat → Bool) : Nat → Bool
  | 0 => true
  | n + 1 => allb p n && p n
theorem allb_iff (p : Nat → Bool) (n : Nat) : allb p n = true ↔ ∀ k, k < n → p k = true := by
  induction n with
  | zero => simp [allb]
  | succ n ih =>
    unfold allb
    rw [Bool.and_eq_true, ih]
    constructor
    · intro h k hk
      by_cases e : k = n
      · rw [e]; exact h.2
      · exact h.1 k (by omega)
    · intro h
      exact ⟨fun k hk => h k (by omega), h n (by omega)⟩
theorem allb_no {p : Nat → Bool} {n k : Nat} (hk : k < n) (h : p k = false) : allb p n = false := by
  cases e : allb p n with
  | false => rfl
  | true => rw [(allb_iff p n).mp e k hk] at h; exact h
theorem allb_congr {p q : Nat → Bool} {n : Nat} (h : ∀ k, k < n → p k = q k) : allb p n = allb q n := by
  induction n with
  | zero => rfl
  | succ n ih => unfold allb; rw [ih (fun k hk => h k (by omega)), h n (by omega)]
def bcF (v0 : Int) : Int := z_and (zw ((zw ((z_and (zw ((zw ((z_and (zw (v0 - (z_and (z_ushr v0 1) 1431655765))) 858993459) + (z_and (z_ushr (zw (v0 - (z_and (z_ushr v0 1) 1431655765))) 2) 858993459))) + (z_ushr (zw ((z_and (zw (v0 - (z_and (z_ushr v0 1) 1431655765))) 858993459) + (z_and (z_ushr (zw (v0 - (z_and (z_ushr v0 1) 1431655765))) 2) 858993459))) 4))) 252645135) + (z_ushr (z_and (zw ((zw ((z_and (zw (v0 - (z_and (z_ushr v0 1) 1431655765))) 858993459) + (z_and (z_ushr (zw (v0 - (z_and (z_ushr v0 1) 1431655765))) 2) 858993459))) + (z_ushr (zw ((z_and (zw (v0 - (z_and (z_ushr v0 1) 1431655765))) 858993459) + (z_and (z_ushr (zw (v0 - (z_and (z_ushr v0 1) 1431655765))) 2) 858993459))) 4))) 252645135) 8))) + (z_ushr (zw ((z_and (zw ((zw ((z_and (zw (v0 - (z_and (z_ushr v0 1) 1431655765))) 858993459) + (z_and (z_ushr (zw (v0 - (z_and (z_ushr v0 1) 1431655765))) 2) 858993459))) + (z_ushr (zw ((z_and (zw (v0 - (z_and (z_ushr v0 1) 1431655765))) 858993459) + (z_and (z_ushr (zw (v0 - (z_and (z_ushr v0 1) 1431655765))) 2) 858993459))) 4))) 252645135) + (z_ushr (z_and (zw ((zw ((z_and (zw (v0 - (z_and (z_ushr v0 1) 1431655765))) 858993459) + (z_and (z_ushr (zw (v0 - (z_and (z_ushr v0 1) 1431655765))) 2) 858993459))) + (z_ushr (zw ((z_and (zw (v0 - (z_and (z_ushr v0 1) 1431655765))) 858993459) + (z_and (z_ushr (zw (v0 - (z_and (z_ushr v0 1) 1431655765))) 2) 858993459))) 4))) 252645135) 8))) 16))) 63
set_option maxRecDepth 100000 in
theorem bcF_64 : ∀ a, a < 64 → ∀ b, b < 64 → bcF ((64 * a + b : Nat) : Int) = ((cnt (64 * a + b).testBit 12 : Nat) : Int) := by decide +kernel
theorem bcF_cnt {x : Nat} (h : x < 4096) : bcF (x : Int) = ((cnt x.testBit 12 : Nat) : Int) := by
  have := bcF_64 (x / 64) (by omega) (x % 64) (by omega)
  rwa [Nat.div_add_mod] at this
theorem s_bitCount {z : zZ} {d x : Nat} {μ : Mu} (hd : 1 ≤ d) (hx : x < 4096) : mC z d 74 [(0, (x : Int))] μ = some (((cnt x.testBit 12 : Nat) : Int), μ) := by
  obtain ⟨e, rfl, he⟩ := pred_of hd
  rw [c_Int_bitCount]
  show some (bcF (x : Int), μ) = _
  rw [bcF_cnt hx]
def wAr (a : Nat) : Prop := a = 8 ∨ a = 17 ∨ a = 9 ∨ a = 18
theorem gKw {a : Nat} (h : wAr a) {A : mR} : gK (a : Int) A = A := by
  rcases h with rfl | rfl | rfl | rfl <;> rfl
theorem zwA {a : Nat} (h : wAr a) : zint (a : Int) ∧ zlen (a : Int) = 12 := by
  rcases h with rfl | rfl | rfl | rfl <;> exact ⟨⟨by omega, rfl⟩, rfl⟩
theorem s_indexOf {z : zZ} {d a n : Nat} {c : Int} {μ : Mu} (hd : 1 ≤ d) (ha : wAr a) (hn : n ≤ 12) : mC z d 32 [(2, (a : Int)), (0, (n : Int)), (0, c)] μ = some (fst1 (fun w => decide (μ a w = c)) n, μ) := by
  obtain ⟨e, rfl, he⟩ := pred_of hd
  have hz := zwA ha
  rw [c_Army_indexOf]
  have H := down (n := n) (P := fun k => f_Army_indexOf_2 z e (a : Int) (n : Int) c (k : Int) μ = some (ffst (fun w => decide (μ a w = c)) (n - k) k, μ))
    (by
      rw [e_Army_indexOf_2, cT (by omega), e_Army_indexOf_28, Nat.sub_self]
      rfl)
    (by
      intro k hk ih
      rw [e_Army_indexOf_2, cF (by omega), gKw ha, hz.2, cF (by omega), gA_ok hz.1 (by omega) (by rw [hz.2]; omega), Int.toNat_natCast, Int.toNat_natCast]
      have e1 : n - k = (n - (k + 1)) + 1 := by omega
      rw [e1]
      by_cases h : μ a k = c
      · rw [nT h]; simp [ffst, h]
      · rw [nF h, zwc (by omega), ih]; simp [ffst, h])
  exact H 0 (by omega)
theorem wAr4 {o : Nat} (ho : o = 4 ∨ o = 13) : wAr (o + 4) := by rcases ho with rfl | rfl <;> simp [wAr]
theorem wAr5 {o : Nat} (ho : o = 4 ∨ o = 13) : wAr (o + 5) := by rcases ho with rfl | rfl <;> simp [wAr]
theorem s_find {z : zZ} {d o n : Nat} {c : Int} {μ : Mu} (hd : 2 ≤ d) (ho : o = 4 ∨ o = 13) (hn : μ o 6 = (n : Int)) (h12 : n ≤ 12) : mC z d 39 [(2, (o : Int)), (0, c)] μ = some (fst1 (fun w => decide (μ (o + 4) w = c)) n, μ) := by
  obtain ⟨e, rfl, he⟩ := pred_of hd
  rw [c_Army_find z e o c μ ho, hn, s_indexOf he (wAr4 ho) h12]
  rfl
theorem s_hasWord {z : zZ} {d o n : Nat} {w : Int} {μ : Mu} (hd : 1 ≤ d) (ho : o = 4 ∨ o = 13) (hn : μ o 6 = (n : Int)) (h12 : n ≤ 12) : mC z d 37 [(2, (o : Int)), (0, w)] μ = some (bi (decide (0 ≤ w ∧ w < n)), μ) := by
  obtain ⟨e, rfl, he⟩ := pred_of hd
  rw [c_Army_hasWord z e o w μ ho, hn]
  by_cases h : 0 ≤ w ∧ w < n
  · rw [cF (by omega), cF (by omega), cF (by omega), e_Army_hasWord_23, g01_1, bi_dt h]
  · rw [bi_df h]
    by_cases h1 : w < 0
    · rw [cT h1, e_Army_hasWord_22, e_Army_hasWord_23, g01_0]
    · rw [cF h1, cT (by omega), e_Army_hasWord_22, e_Army_hasWord_23, g01_0]
theorem s_stands {z : zZ} {d o n f : Nat} {w : Int} {μ : Mu} (hd : 2 ≤ d) (ho : o = 4 ∨ o = 13) (hn : μ o 6 = (n : Int)) (h12 : n ≤ 12) (hf : μ o 7 = (f : Int)) (h4 : f < 4096) : mC z d 36 [(2, (o : Int)), (0, w)] μ = some (bi (decide (0 ≤ w ∧ w < n) && f.testBit w.toNat), μ) := by
  obtain ⟨e, rfl, he⟩ := pred_of hd
  rw [c_Army_stands z e o w μ ho, s_hasWord he ho hn h12]
  simp only [ob, cB]
  by_cases h : 0 ≤ w ∧ w < n
  · have e1 : w = ((w.toNat : Nat) : Int) := by omega
    simp only [h, and_self, decide_true, cond_true, Bool.true_and, hf]
    rw [e1, s_has he (by omega) (by omega)]
    simp only [ob, cB, Int.toNat_natCast]
    cases f.testBit w.toNat
    · simp only [cond_false, e_Army_stands_23, e_Army_stands_24, g01_0, bi_f]
    · simp only [cond_true, e_Army_stands_24, g01_1, bi_t]
  · simp only [h, decide_false, cond_false, Bool.false_and, e_Army_stands_23, e_Army_stands_24, g01_0, bi_f]
theorem s_room {z : zZ} {d o f : Nat} {μ : Mu} (hd : 2 ≤ d) (ho : o = 4 ∨ o = 13) (hf : μ o 7 = (f : Int)) (h4 : f < 4096) : mC z d 73 [(2, (o : Int))] μ = some (6 - ((cnt f.testBit 12 : Nat) : Int), μ) := by
  obtain ⟨e, rfl, he⟩ := pred_of hd
  have := cnt_le f.testBit 12
  rw [c_Army_room z e o μ ho, hf, s_bitCount he h4]
  simp only [ob]
  rw [zw_id (by omega) (by omega)]
/-- all letters of a word are there -/
def pf (c : Int) (h : Row) (b k : Nat) : Bool := !(decide (1 ≤ nib c k ∧ nib c k ≤ 12)) || decide (((cnt (fun j => decide (nib c j = nib c k)) 8 : Nat) : Int) ≤ h (b + (nib c k - 1)))
theorem cnt_nib (c : Int) (m : Nat) : cnt (fun j => decide ((nib c j : Int) - 1 = (m : Int) - 1)) 8 = cnt (fun j => decide (nib c j = m)) 8 := by
  apply cnt_congr
  intro k hk
  apply decide_eq_decide.mpr
  omega
theorem s_canForm {z : zZ} {d o n f w : Nat} {μ : Mu} (hd : 3 ≤ d) (ho : o = 4 ∨ o = 13) (hn : μ o 6 = (n : Int)) (h12 : n ≤ 12) (hf : μ o 7 = (f : Int)) (h4 : f < 4096) (hw : w < n) : mC z d 72 [(2, (o : Int)), (0, (w : Int))] μ = some (bi (!f.testBit w && (decide (cnt f.testBit 12 < 6) && allb (pf (μ (o + 4) w) (μ (o + 3)) 0) 8)), μ) := by
  obtain ⟨e, rfl, he⟩ := pred_of hd
  have hr0 : (0 : Int) ≤ (w : Int) ∧ (w : Int) < (n : Int) := by omega
  rw [c_Army_canForm z e o w μ ho, s_hasWord (by omega) ho hn h12]
  simp only [ob, cB, hr0, and_self, decide_true, cond_true]
  rw [s_stands he ho hn h12 hf h4]
  simp only [ob, nB, hr0, and_self, decide_true, Bool.true_and, Int.toNat_natCast]
  cases hb : f.testBit w
  · simp only [cond_false, Bool.not_false, Bool.true_and]
    rw [s_room he ho hf h4]
    simp only [ob]
    by_cases h6 : cnt f.testBit 12 < 6
    · rw [cT (by omega)]
      simp only [h6, decide_true, Bool.true_and]
      have H := down (n := 8) (P := fun k => allb (pf (μ (o + 4) w) (μ (o + 3)) 0) k = true → f_Army_canForm_28 z e o (w : Int) (k : Int) μ = some (bi (allb (pf (μ (o + 4) w) (μ (o + 3)) 0) 8), μ))
        (by
          intro h
          rw [e_Army_canForm_28 _ _ _ _ _ _ ho, cT (by omega), h, bi_t])
        (by
          intro k hk ih hb
          have h15 := nib_lt (μ (o + 4) w) k
          rw [e_Army_canForm_28 _ _ _ _ _ _ ho, cF (by omega), gI_ok (by omega) (by omega), s_letterAt (by omega), letc_nat hk]
          simp only [ob, Int.toNat_natCast]
          rw [s_isLetter (by omega)]
          simp only [ob, cB]
          by_cases hl : 1 ≤ nib (μ (o + 4) w) k ∧ nib (μ (o + 4) w) k ≤ 12
          · have e1 : (0 : Int) ≤ (nib (μ (o + 4) w) k : Int) - 1 ∧ (nib (μ (o + 4) w) k : Int) - 1 < 12 := by omega
            have e2 : zw (0 + ((nib (μ (o + 4) w) k : Int) - 1)) = (nib (μ (o + 4) w) k : Int) - 1 := by rw [zw_id (by omega) (by omega)]; omega
            have e3 : ((nib (μ (o + 4) w) k : Int) - 1).toNat = nib (μ (o + 4) w) k - 1 := by omega
            simp only [e1, and_self, decide_true, cond_true, e2, e3]
            rw [gI_ok (by omega) (by omega), gI_ok (by omega) (by omega), s_times he, cnt_nib]
            simp only [ob]
            by_cases h5 : ((cnt (fun j => decide (nib (μ (o + 4) w) j = nib (μ (o + 4) w) k)) 8 : Nat) : Int) ≤ μ (o + 3) (nib (μ (o + 4) w) k - 1)
            · rw [cT h5, e_Army_canForm_75 _ _ _ _ _ _ ho, zwc (by omega)]
              apply ih
              have h7 : pf (μ (o + 4) w) (μ (o + 3)) 0 k = true := by simp [pf, h5]
              simp [allb, hb, h7]
            · rw [cF h5]
              have h7 : pf (μ (o + 4) w) (μ (o + 3)) 0 k = false := by simp [pf, hl, h5]
              rw [allb_no hk h7, bi_f]
          · have e1 : ¬ ((0 : Int) ≤ (nib (μ (o + 4) w) k : Int) - 1 ∧ (nib (μ (o + 4) w) k : Int) - 1 < 12) := by omega
            simp only [e1, decide_false, cond_false]
            rw [e_Army_canForm_75 _ _ _ _ _ _ ho, zwc (by omega)]
            apply ih
            have h7 : pf (μ (o + 4) w) (μ (o + 3)) 0 k = true := by simp [pf, hl]
            simp [allb, hb, h7])
      exact H 0 (by omega) rfl
    · rw [cF (by omega)]
      simp only [h6, decide_false, Bool.false_and, e_Army_canForm_24, bi_f]
  · simp only [cond_true, Bool.not_true, Bool.false_and, e_Army_canForm_24, bi_f]
theorem s_canForm_no {z : zZ} {d o n : Nat} {w : Int} {μ : Mu} (hd : 3 ≤ d) (ho : o = 4 ∨ o = 13) (hn : μ o 6 = (n : Int)) (h12 : n ≤ 12) (hw : ¬ (0 ≤ w ∧ w < n)) : mC z d 72 [(2, (o : Int)), (0, w)] μ = some (0, μ) := by
  obtain ⟨e, rfl, he⟩ := pred_of hd
  rw [c_Army_canForm z e o w μ ho, s_hasWord (by omega) ho hn h12]
  simp only [ob, cB, hw, decide_false, cond_false, e_Army_canForm_24]
/-- letters that come and go -/
def hr (h : Row) : Prop := ∀ j, 0 ≤ h j ∧ h j ≤ 999
def addN (h : Row) (i : Nat) (n : Int) : Row := rup h i (if h i + n < 999 then h i + n else 999)
theorem hr_addN {h : Row} {i : Nat} {n : Int} (hh : hr h) (hn : 0 ≤ n) : hr (addN h i n) := by
  intro j
  have h1 := hh j
  have h2 := hh i
  unfold addN rup
  split
  · split <;> omega
  · exact h1
theorem s_add {z : zZ} {d o : Nat} {b l : Nat} {n : Int} {μ : Mu} (hd : 2 ≤ d) (ho : o = 4 ∨ o = 13) (hl : l < 12) (hb : b ≤ 24) (hh : hr (μ (o + 3))) (h0 : 0 ≤ n) (h1 : n ≤ 999) : mC z d 42 [(2, (o : Int)), (0, (b : Int)), (0, (l : Int)), (0, n)] μ = some (0, zrow μ (o + 3) (addN (μ (o + 3)) (b + l) n)) := by
  obtain ⟨e, rfl, he⟩ := pred_of hd
  have h2 := hh (b + l)
  have e1 : (0 : Int) ≤ (l : Int) ∧ (l : Int) < 12 := by omega
  have e2 : zw ((b : Int) + (l : Int)) = ((b + l : Nat) : Int) := by rw [zw_id (by omega) (by omega)]; omega
  rw [c_Army_add _ _ _ _ _ _ _ ho, s_isLetter he]
  simp only [ob, cB, e1, and_self, decide_true, cond_true, e2, Int.toNat_natCast]
  rw [gI_ok (by omega) (by omega), gI_ok (by omega) (by omega), e_Army_add_31, zupr, zw_id (by omega) (by omega)]
  rfl
theorem s_add_no {z : zZ} {d o : Nat} {b l n : Int} {μ : Mu} (hd : 2 ≤ d) (ho : o = 4 ∨ o = 13) (hl : ¬ (0 ≤ l ∧ l < 12)) : mC z d 42 [(2, (o : Int)), (0, b), (0, l), (0, n)] μ = some (0, μ) := by
  obtain ⟨e, rfl, he⟩ := pred_of hd
  rw [c_Army_add _ _ _ _ _ _ _ ho, s_isLetter he]
  simp only [ob, cB, hl, decide_false, cond_false, e_Army_add_31]
def homeB (h : Row) (b : Nat) (c : Int) : Nat → Row
  | 0 => h
  | k + 1 => if 1 ≤ nib c k ∧ nib c k ≤ 12 then addN (homeB h b c k) (b + (nib c k - 1)) 1 else homeB h b c k
theorem hr_homeB {h : Row} {b : Nat} {c : Int} (hh : hr h) (k : Nat) : hr (homeB h b c k) := by
  induction k with
  | zero => exact hh
  | succ k ih =>
    unfold homeB
    split
    · exact hr_addN ih (by omega)
    · exact ih
theorem s_sendHome {z : zZ} {d o : Nat} {c : Int} {μ : Mu} (hd : 3 ≤ d) (ho : o = 4 ∨ o = 13) (hh : hr (μ (o + 3))) : mC z d 40 [(2, (o : Int)), (0, c)] μ = some (0, zrow μ (o + 3) (homeB (μ (o + 3)) 0 c 8)) := by
  obtain ⟨e, rfl, he⟩ := pred_of hd
  rw [c_Army_sendHome _ _ _ _ _ ho]
  have H := down (n := 8) (P := fun k => f_Army_sendHome_2 z e o c (k : Int) (zrow μ (o + 3) (homeB (μ (o + 3)) 0 c k)) = some (0, zrow μ (o + 3) (homeB (μ (o + 3)) 0 c 8)))
    (by rw [e_Army_sendHome_2 _ _ _ _ _ _ ho, cT (by omega)])
    (by
      intro k hk ih
      have h15 := nib_lt c k
      rw [e_Army_sendHome_2 _ _ _ _ _ _ ho, cF (by omega), s_letterAt (by omega), letc_nat hk]
      simp only [ob]
      by_cases hl : 1 ≤ nib c k ∧ nib c k ≤ 12
      · have e1 : (nib c k : Int) - 1 = ((nib c k - 1 : Nat) : Int) := by omega
        have hs := s_add (z := z) (d := e) (o := o) (b := 0) (l := nib c k - 1) (n := 1) (μ := zrow μ (o + 3) (homeB (μ (o + 3)) 0 c k)) he ho (by omega) (by omega) (by rw [zrow_same]; exact hr_homeB hh k) (by omega) (by omega)
        rw [e1]
        simp only [Int.natCast_zero] at hs
        rw [hs]
        simp only [ob, zrow_same, zrow_zrow]
        rw [zwc (by omega)]
        simpa [homeB, hl] using ih
      · rw [s_add_no he ho (by omega)]
        simp only [ob]
        rw [zwc (by omega)]
        simpa [homeB, hl] using ih)
  have H0 := H 0 (by omega)
  simpa [homeB, zrow_id] using H0
