theorem zb_ti (x : BitVec 32) : (⟨⟨x⟩⟩ : Int32).toInt = x.toInt := rfl
theorem zb_nn {x : BitVec 32} (h : x.toNat < 2147483648) : x.toInt = (x.toNat : Int) := by
  rw [BitVec.toInt_eq_toNat_cond]; rw [if_pos (by omega)]
theorem zb_of (a : Nat) : Int32.ofInt (a : Int) = ⟨⟨BitVec.ofNat 32 a⟩⟩ := by
  show (⟨⟨BitVec.ofInt 32 (a : Int)⟩⟩ : Int32) = _
  rw [BitVec.ofInt_natCast]
theorem z_and_nat {a b : Nat} (ha : a < 2147483648) (hb : b < 2147483648) : z_and (a : Int) (b : Int) = ((a &&& b : Nat) : Int) := by
  have h1 : (BitVec.ofNat 32 a &&& BitVec.ofNat 32 b).toNat = a &&& b := by
    rw [BitVec.toNat_and, BitVec.toNat_ofNat, BitVec.toNat_ofNat, Nat.mod_eq_of_lt (by omega), Nat.mod_eq_of_lt (by omega)]
  have h2 : a &&& b ≤ a := Nat.and_le_left
  unfold z_and
  rw [zb_of, zb_of]
  show (BitVec.ofNat 32 a &&& BitVec.ofNat 32 b).toInt = _
  rw [zb_nn (by omega), h1]
theorem z_or_nat {a b : Nat} (ha : a < 2147483648) (hb : b < 2147483648) : z_or (a : Int) (b : Int) = ((a ||| b : Nat) : Int) := by
  have h1 : (BitVec.ofNat 32 a ||| BitVec.ofNat 32 b).toNat = a ||| b := by
    rw [BitVec.toNat_or, BitVec.toNat_ofNat, BitVec.toNat_ofNat, Nat.mod_eq_of_lt (by omega), Nat.mod_eq_of_lt (by omega)]
  have h2 : a ||| b < 2 ^ 31 := Nat.or_lt_two_pow (by omega) (by omega)
  unfold z_or
  rw [zb_of, zb_of]
  show (BitVec.ofNat 32 a ||| BitVec.ofNat 32 b).toInt = _
  rw [zb_nn (by omega), h1]
/-- a shift by k < 32 -/
theorem zb_sh {k : Nat} (hk : k < 32) : (Int32.ofInt (k : Int) &&& 31) = ⟨⟨BitVec.ofNat 32 k⟩⟩ := by
  rw [zb_of]
  show (⟨⟨BitVec.ofNat 32 k &&& 31#32⟩⟩ : Int32) = _
  congr 2
  apply BitVec.eq_of_toNat_eq
  rw [BitVec.toNat_and, BitVec.toNat_ofNat, Nat.mod_eq_of_lt (by omega)]
  show k &&& (2 ^ 5 - 1) = k
  rw [Nat.and_two_pow_sub_one_eq_mod, Nat.mod_eq_of_lt (by omega)]
theorem zb_smod {k : Nat} (hk : k < 32) : (BitVec.ofNat 32 k).smod 32#32 = BitVec.ofNat 32 k := by
  revert hk; revert k; decide
theorem z_shl_nat {a : Int} {k : Nat} (hk : k < 32) : z_shl a (k : Int) = zw (a * 2 ^ k) := by
  unfold z_shl
  rw [zb_sh hk]
  show ((BitVec.ofInt 32 a) <<< ((BitVec.ofNat 32 k).smod 32#32)).toInt = _
  rw [zb_smod hk, BitVec.shiftLeft_eq', BitVec.toNat_ofNat, Nat.mod_eq_of_lt (by omega), BitVec.toInt_shiftLeft]
  unfold zw
  rw [BitVec.toNat_ofInt, Nat.shiftLeft_eq]
  have e1 : (a % (2 ^ 32 : Nat)).toNat = a % 4294967296 := by
    rw [Int.toNat_of_nonneg (Int.emod_nonneg _ (by decide))]; rfl
  rw [Int.natCast_mul, e1, Int.bmod_def]
  have e2 : (a % 4294967296 * ((2 ^ k : Nat) : Int)) % ((2 ^ 32 : Nat) : Int) = (a * 2 ^ k) % 4294967296 := by
    rw [Int.natCast_pow]
    show (a % 4294967296 * 2 ^ k) % 4294967296 = _
    rw [Int.mul_emod, Int.emod_emod_of_dvd _ (Int.dvd_refl _), ← Int.mul_emod]
  rw [e2]
  have e3 : ((2 ^ 32 : Nat) : Int) = 4294967296 := rfl
  rw [e3]
  omega
theorem z_shr_nat {a : Int} {k : Nat} (h1 : -2147483648 ≤ a) (h2 : a < 2147483648) (hk : k < 32) : z_shr a (k : Int) = a / 2 ^ k := by
  unfold z_shr
  rw [zb_sh hk]
  show ((BitVec.ofInt 32 a).sshiftRight' ((BitVec.ofNat 32 k).smod 32#32)).toInt = _
  rw [zb_smod hk]
  unfold BitVec.sshiftRight'
  rw [BitVec.toNat_ofNat, Nat.mod_eq_of_lt (by omega), BitVec.toInt_sshiftRight, BitVec.toInt_ofInt, Int.shiftRight_eq_div_pow]
  have e3 : ((2 ^ 32 : Nat) : Int) = 4294967296 := rfl
  have e4 : a.bmod (2 ^ 32) = a := by rw [Int.bmod_def, e3]; omega
  rw [e4, Int.natCast_pow]
  rfl
theorem z_ushr_nat {a : Int} {k : Nat} (hk : 0 < k) (hk2 : k < 32) : z_ushr a (k : Int) = (a % 4294967296) / 2 ^ k := by
  unfold z_ushr
  have e0 : (Int32.ofInt (k : Int)).toUInt32 &&& Int32.toUInt32 31 = ⟨BitVec.ofNat 32 k⟩ := congrArg Int32.toUInt32 (zb_sh hk2)
  rw [e0]
  show ((BitVec.ofInt 32 a) >>> ((BitVec.ofNat 32 k) % 32#32)).toInt = _
  have e1 : (BitVec.ofNat 32 k) % 32#32 = BitVec.ofNat 32 k := by revert hk2; clear hk e0; revert k; decide
  rw [e1, BitVec.ushiftRight_eq', BitVec.toNat_ofNat, Nat.mod_eq_of_lt (by omega)]
  have e2 : (BitVec.ofInt 32 a >>> k).toNat = (a % 4294967296).toNat >>> k := by
    rw [BitVec.toNat_ushiftRight, BitVec.toNat_ofInt]; rfl
  have e3 : (a % 4294967296).toNat >>> k < 2147483648 := by
    rw [Nat.shiftRight_eq_div_pow]
    have h5 : 2 ^ 1 ≤ 2 ^ k := Nat.pow_le_pow_right (by omega) (by omega)
    refine Nat.div_lt_of_lt_mul ?_
    have : 2147483648 * 2 ≤ 2 ^ k * 2147483648 := by omega
    omega
  rw [zb_nn (by omega), e2, Nat.shiftRight_eq_div_pow, Int.natCast_ediv, Int.toNat_of_nonneg (by omega), Int.natCast_pow]
  rfl
theorem z_i2b_id {a : Int} (h1 : -128 ≤ a) (h2 : a < 128) : z_i2b a = a := by
  unfold z_i2b
  rw [Int8.toInt_toInt32, Int32.toInt_toInt8, Int32.toInt_ofInt]
  have : (Int32.size : Int) = 4294967296 := rfl
  simp only [Int.bmod_def, this]
  omega
theorem z_and_mask {a : Int} {n : Nat} (hn : n < 32) : z_and a ((2 ^ n - 1 : Nat) : Int) = a % 2 ^ n := by
  unfold z_and
  rw [zb_of]
  show (BitVec.ofInt 32 a &&& BitVec.ofNat 32 (2 ^ n - 1)).toInt = _
  have hp : 2 ^ n ≤ 2 ^ 31 := Nat.pow_le_pow_right (by omega) (by omega)
  have h3 : (BitVec.ofInt 32 a &&& BitVec.ofNat 32 (2 ^ n - 1)).toNat = (a % 4294967296).toNat % 2 ^ n := by
    rw [BitVec.toNat_and, BitVec.toNat_ofInt, BitVec.toNat_ofNat, Nat.mod_eq_of_lt (by omega), Nat.and_two_pow_sub_one_eq_mod]
    rfl
  have h4 : (a % 4294967296).toNat % 2 ^ n < 2 ^ n := Nat.mod_lt _ (Nat.two_pow_pos n)
  rw [zb_nn (by omega), h3]
  rw [Int.natCast_emod, Int.toNat_of_nonneg (by omega)]
  have : (4294967296 : Int) = 2 ^ n * 2 ^ (32 - n) := by
    rw [← Int.pow_add]
    have : n + (32 - n) = 32 := by omega
    rw [this]; rfl
  rw [this]
  simp only [Int.natCast_pow, Int.cast_ofNat_Int]
  exact Int.emod_emod_of_dvd _ (Int.dvd_mul_right _ _)
theorem zup_hit {μ : Nat → Nat → Int} {a k : Nat} {v : Int} : zup μ a k v a k = v := by unfold zup; rw [if_pos ⟨rfl, rfl⟩]
theorem zup_na {μ : Nat → Nat → Int} {a k b j : Nat} {v : Int} (h : b ≠ a) : zup μ a k v b j = μ b j := by unfold zup; rw [if_neg (fun q => h q.1)]
theorem zup_nk {μ : Nat → Nat → Int} {a k b j : Nat} {v : Int} (h : j ≠ k) : zup μ a k v b j = μ b j := by unfold zup; rw [if_neg (fun q => h q.2)]
theorem zup_rw {μ : Nat → Nat → Int} {a k j : Nat} {v : Int} : zup μ a k v a j = if j = k then v else μ a j := by unfold zup; simp
/-- a bit of a set of words -/
theorem z_bit {x k : Nat} (hx : x < 2147483648) (hk : k < 32) : z_and (z_shr (x : Int) (k : Int)) 1 = if x.testBit k then 1 else 0 := by
  rw [z_shr_nat (by omega) (by omega) hk]
  have := z_and_mask (a := (x : Int) / 2 ^ k) (n := 1) (by omega)
  rw [show ((2 ^ 1 - 1 : Nat) : Int) = 1 from rfl] at this
  rw [this, Nat.testBit_eq_decide_div_mod_eq]
  have h2 : (x : Int) / 2 ^ k % 2 ^ 1 = ((x / 2 ^ k % 2 : Nat) : Int) := by
    rw [Int.natCast_emod, Int.natCast_ediv, Int.natCast_pow]; rfl
  rw [h2]
  have : x / 2 ^ k % 2 = 0 ∨ x / 2 ^ k % 2 = 1 := by omega
  rcases this with h | h <;> simp [h]
theorem z_shl1 {k : Nat} (hk : k < 31) : z_shl 1 (k : Int) = ((2 ^ k : Nat) : Int) := by
  rw [z_shl_nat (by omega), Int.one_mul]
  have h : 2 ^ k < 2 ^ 31 := Nat.pow_lt_pow_right (by omega) (by omega)
  have h2 : ((2 : Int) ^ k) = ((2 ^ k : Nat) : Int) := by rw [Int.natCast_pow]; rfl
  rw [h2]
  generalize 2 ^ k = p at h ⊢
  unfold zw
  omega
