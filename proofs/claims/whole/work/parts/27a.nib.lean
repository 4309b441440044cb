/-! words: four bits a letter -/
def bv (x : Int) : BitVec 32 := BitVec.ofInt 32 x
def rg (x : Int) : Prop := -2147483648 ≤ x ∧ x < 2147483648
theorem bv_to (x : BitVec 32) : bv x.toInt = x := by unfold bv; exact BitVec.ofInt_toInt
theorem rg_to (x : BitVec 32) : rg x.toInt := by
  have h1 := BitVec.toInt_lt (x := x)
  have h2 := BitVec.le_toInt x
  unfold rg
  simp only [Nat.reduceSub, Int.reducePow] at h1 h2
  omega
theorem to_bv {x : Int} (h : rg x) : (bv x).toInt = x := by
  unfold bv
  rw [BitVec.toInt_ofInt, Int.bmod_def]
  have e3 : ((2 ^ 32 : Nat) : Int) = 4294967296 := rfl
  unfold rg at h
  rw [e3]; omega
theorem bv_inj {x y : Int} (hx : rg x) (hy : rg y) (h : bv x = bv y) : x = y := by
  rw [← to_bv hx, ← to_bv hy, h]
theorem z_and_bv (a b : Int) : z_and a b = (bv a &&& bv b).toInt := rfl
theorem z_or_bv (a b : Int) : z_or a b = (bv a ||| bv b).toInt := rfl
theorem z_xor_bv (a b : Int) : z_xor a b = (bv a ^^^ bv b).toInt := rfl
theorem z_shl_bv {a : Int} {k : Nat} (hk : k < 32) : z_shl a (k : Int) = (bv a <<< k).toInt := by
  unfold z_shl
  rw [zb_sh hk]
  show ((BitVec.ofInt 32 a) <<< ((BitVec.ofNat 32 k).smod 32#32)).toInt = _
  rw [zb_smod hk, BitVec.shiftLeft_eq', BitVec.toNat_ofNat, Nat.mod_eq_of_lt (by omega)]
  rfl
theorem z_ushr_bv {a : Int} {k : Nat} (hk2 : k < 32) : z_ushr a (k : Int) = (bv a >>> k).toInt := by
  unfold z_ushr
  have e0 : (Int32.ofInt (k : Int)).toUInt32 &&& Int32.toUInt32 31 = ⟨BitVec.ofNat 32 k⟩ := congrArg Int32.toUInt32 (zb_sh hk2)
  rw [e0]
  show ((BitVec.ofInt 32 a) >>> ((BitVec.ofNat 32 k) % 32#32)).toInt = _
  have e1 : (BitVec.ofNat 32 k) % 32#32 = BitVec.ofNat 32 k := by revert hk2; clear e0; revert k; decide
  rw [e1, BitVec.ushiftRight_eq', BitVec.toNat_ofNat, Nat.mod_eq_of_lt (by omega)]
  rfl
/-- the letters of a word, four bits each -/
def nib (c : Int) (k : Nat) : Nat := ((bv c) >>> (4 * k) &&& 15#32).toNat
theorem nib_lt (c : Int) (k : Nat) : nib c k < 16 := by
  unfold nib
  rw [BitVec.toNat_and]
  have : (15#32).toNat = 15 := rfl
  rw [this]
  have : ((bv c) >>> (4 * k)).toNat &&& 15 ≤ 15 := Nat.and_le_right
  omega
theorem nib_bit (c : Int) (k i : Nat) : (nib c k).testBit i = (decide (i < 4) && (bv c).getLsbD (4 * k + i)) := by
  unfold nib
  rw [BitVec.testBit_toNat, BitVec.getLsbD_and, BitVec.getLsbD_ushiftRight]
  have : (15#32).getLsbD i = decide (i < 4) := by
    have h15 : (15#32) = BitVec.ofNat 32 (2 ^ 4 - 1) := rfl
    rw [h15, BitVec.getLsbD_ofNat, Nat.testBit_two_pow_sub_one]
    by_cases h : i < 4
    · simp [h]; omega
    · simp [h]
  rw [this, Bool.and_comm]
theorem nib_8 {c : Int} {k : Nat} (h : 8 ≤ k) : nib c k = 0 := by
  apply Nat.eq_of_testBit_eq
  intro i
  rw [nib_bit, BitVec.getLsbD_of_ge _ _ (by omega)]
  simp
theorem nib_ext {c e : Int} (hc : rg c) (he : rg e) (h : ∀ k, k < 8 → nib c k = nib e k) : c = e := by
  apply bv_inj hc he
  apply BitVec.eq_of_getLsbD_eq
  intro i hi
  have h1 := congrArg (fun x => Nat.testBit x (i % 4)) (h (i / 4) (by omega))
  simp only [nib_bit] at h1
  have h2 : 4 * (i / 4) + i % 4 = i := by omega
  have h3 : i % 4 < 4 := by omega
  simpa [h2, h3] using h1
theorem z_nib {c : Int} {k : Nat} (hk : k < 8) : z_and (z_ushr c (((4 * k : Nat)) : Int)) 15 = (nib c k : Int) := by
  rw [z_ushr_bv (by omega), z_and_bv, bv_to]
  show (bv c >>> (4 * k) &&& 15#32).toInt = _
  have h := nib_lt c k
  unfold nib at h ⊢
  rw [BitVec.toInt_eq_toNat_cond, if_pos (by omega)]
/-- another letter at a place -/
def wset (c : Int) (k : Nat) (l : Int) : Int := z_or (z_and c (z_xor (z_shl 15 ((4 * k : Nat) : Int)) (-1))) (z_shl (l + 1) ((4 * k : Nat) : Int))
theorem rg_wset (c : Int) (k : Nat) (l : Int) : rg (wset c k l) := rg_to _
theorem nib_wset {c : Int} {k j : Nat} {l : Int} (hk : k < 8) (h0 : 0 ≤ l) (h1 : l < 15) : nib (wset c k l) j = if j = k then (l + 1).toNat else nib c j := by
  have hl : l + 1 = (((l + 1).toNat : Nat) : Int) := by omega
  have hn : (l + 1).toNat < 2 ^ 4 := by omega
  apply Nat.eq_of_testBit_eq
  intro i
  rw [nib_bit]
  unfold wset
  rw [z_or_bv, z_and_bv, z_xor_bv, z_shl_bv (by omega), z_shl_bv (by omega)]
  simp only [bv_to]
  by_cases hj : 8 ≤ j
  · rw [if_neg (by omega), nib_8 hj, BitVec.getLsbD_of_ge _ _ (by omega)]; simp
  · have hm1 : bv (-1) = BitVec.allOnes 32 := by decide
    have h15 : bv 15 = BitVec.ofNat 32 (2 ^ 4 - 1) := rfl
    have hbl : bv (l + 1) = BitVec.ofNat 32 (l + 1).toNat := by
      unfold bv; rw [← BitVec.ofInt_natCast, ← hl]
    rw [BitVec.getLsbD_or, BitVec.getLsbD_and, BitVec.getLsbD_xor, hm1, BitVec.getLsbD_allOnes, BitVec.getLsbD_shiftLeft, BitVec.getLsbD_shiftLeft, h15, hbl, BitVec.getLsbD_ofNat, BitVec.getLsbD_ofNat, Nat.testBit_two_pow_sub_one]
    by_cases hi : i < 4
    · by_cases hjk : j = k
      · subst hjk
        rw [if_pos rfl]
        have e1 : 4 * j + i < 32 := by omega
        have e2 : 4 * j + i - 4 * j = i := by omega
        have e3 : ¬ (4 * j + i < 4 * j) := by omega
        have e4 : i < 32 := by omega
        simp [hi, e1, e2, e3, e4]
      · rw [if_neg hjk, nib_bit]
        have e1 : 4 * j + i < 32 := by omega
        by_cases hlt : 4 * j + i < 4 * k
        · simp [hi, e1, hlt]
        · have e5 : ¬ (4 * j + i - 4 * k < 4) := by omega
          have e6 : (l + 1).toNat.testBit (4 * j + i - 4 * k) = false := Nat.testBit_lt_two_pow (Nat.lt_of_lt_of_le hn (Nat.pow_le_pow_right (by omega) (by omega)))
          simp [hi, e1, e5, hlt, e6]
    · simp only [hi, decide_false, Bool.false_and]
      symm
      split
      · exact Nat.testBit_lt_two_pow (Nat.lt_of_lt_of_le hn (Nat.pow_le_pow_right (by omega) (by omega)))
      · rw [nib_bit]; simp [hi]
/-- the first letters of a word -/
theorem nib_first {c : Int} {k j : Nat} (hk : k < 8) : nib (z_and c (zw (z_shl 1 ((4 * k : Nat) : Int) - 1))) j = if j < k then nib c j else 0 := by
  have hz : bv (zw (z_shl 1 ((4 * k : Nat) : Int) - 1)) = BitVec.ofNat 32 (2 ^ (4 * k) - 1) := by
    revert hk; revert k; decide
  apply Nat.eq_of_testBit_eq
  intro i
  rw [nib_bit, z_and_bv, bv_to, hz, BitVec.getLsbD_and, BitVec.getLsbD_ofNat, Nat.testBit_two_pow_sub_one]
  by_cases hj : j < k
  · rw [if_pos hj, nib_bit]
    by_cases hi : i < 4
    · have e1 : 4 * j + i < 32 := by omega
      have e2 : 4 * j + i < 4 * k := by omega
      simp [hi, e1, e2]
    · simp [hi]
  · rw [if_neg hj]
    have e2 : ¬ (4 * j + i < 4 * k) := by omega
    simp [e2]
theorem nib_zero (k : Nat) : nib 0 k = 0 := by
  unfold nib bv; simp
