/-! feeding the tape -/
def sgn (x : Int) : Int := if x < 128 then x else x - 256
theorem z_i2b_gen (a : Int) : z_i2b a = sgn (a % 256) := by
  unfold z_i2b sgn
  rw [Int8.toInt_toInt32, Int32.toInt_toInt8, Int32.toInt_ofInt]
  have : (Int32.size : Int) = 4294967296 := rfl
  simp only [Int.bmod_def, this]
  split <;> omega
theorem sgn_mod {x : Int} (h0 : 0 ≤ x) (h1 : x < 256) : sgn x % 256 = x := by
  unfold sgn
  split <;> omega
theorem ush0 {v : Int} (h : rg v) : z_ushr v 0 = v := by
  have := z_ushr_bv (a := v) (k := 0) (by omega)
  simp only [Int.natCast_zero] at this
  rw [this, BitVec.ushiftRight_zero, to_bv h]
theorem zby24 {v : Int} : z_and (z_ushr v 24) 255 = v / 16777216 % 256 := by
  have := z_ushr_nat (a := v) (k := 24) (by omega) (by omega)
  simp only [Int.cast_ofNat_Int] at this
  rw [z_255, this]
  have e : (2 : Int) ^ 24 = 16777216 := rfl
  rw [e]; omega
theorem zby16 {v : Int} : z_and (z_ushr v 16) 255 = v / 65536 % 256 := by
  have := z_ushr_nat (a := v) (k := 16) (by omega) (by omega)
  simp only [Int.cast_ofNat_Int] at this
  rw [z_255, this]
  have e : (2 : Int) ^ 16 = 65536 := rfl
  rw [e]; omega
theorem zby8 {v : Int} : z_and (z_ushr v 8) 255 = v / 256 % 256 := by
  have := z_ushr_nat (a := v) (k := 8) (by omega) (by omega)
  simp only [Int.cast_ofNat_Int] at this
  rw [z_255, this]
  have e : (2 : Int) ^ 8 = 256 := rfl
  rw [e]; omega
theorem zby0 {v : Int} (h : rg v) : z_and (z_ushr v 0) 255 = v % 256 := by rw [ush0 h, z_255]
theorem zsb {v : Int} {k : Nat} (h : rg v) (hk : k < 32) : z_i2b (z_i2b (z_shr v (k : Int))) = sgn (v / 2 ^ k % 256) := by
  rw [z_shr_nat h.1 h.2 hk, z_i2b_gen, z_i2b_gen, sgn_mod (by omega) (by omega)]
def fed (h : Row) (p : Nat) (v : Int) : Row := rup (rup (rup (rup h p (v / 16777216 % 256)) (p + 1) (v / 65536 % 256)) (p + 2) (v / 256 % 256)) (p + 3) (v % 256)
def fedS (h : Row) (p : Nat) (v : Int) : Row := rup (rup (rup (rup h p (sgn (v / 16777216 % 256))) (p + 1) (sgn (v / 65536 % 256))) (p + 2) (sgn (v / 256 % 256))) (p + 3) (sgn (v % 256))
theorem byt_rup {h : Row} {k : Nat} {v : Int} (hb : byt h) (h0 : 0 ≤ v) (h1 : v ≤ 255) : byt (rup h k v) := by
  intro j
  have := hb j
  unfold rup
  split <;> omega
theorem byt_fed {h : Row} {p : Nat} {v : Int} (hb : byt h) : byt (fed h p v) := by
  unfold fed
  exact byt_rup (byt_rup (byt_rup (byt_rup hb (by omega) (by omega)) (by omega) (by omega)) (by omega) (by omega)) (by omega) (by omega)
theorem sgn_rup {h g : Row} {k : Nat} {v : Int} (hh : ∀ j, j < 220 → g j = sgn (h j)) : ∀ j, j < 220 → rup g k (sgn v) j = sgn (rup h k v j) := by
  intro j hj
  unfold rup
  split
  · rfl
  · exact hh j hj
theorem fed_tpe {h g : Row} {p : Nat} {v : Int} (hh : ∀ j, j < 220 → g j = sgn (h j)) : ∀ j, j < 220 → fedS g p v j = sgn (fed h p v j) := sgn_rup (sgn_rup (sgn_rup (sgn_rup hh)))
theorem s_app1 {z : zZ} {e p : Nat} {v sh sh' x : Int} {M : Mu} (h0 : 0 ≤ sh) (h1 : M 1 1 = (p : Int)) (hp : p < 220) (hx : z_and (z_ushr v sh) 255 = x) (hs : zw (sh + (-8)) = sh') : f_Tape_append_3 z e v sh M = f_Tape_append_3 z e v sh' (zrow (zrow M 2 (rup (M 2) p x)) 1 (rup (M 1) 1 ((p + 1 : Nat) : Int))) := by
  rw [e_Tape_append_3, cF (by omega), h1, cF (by omega), gI_ok (by omega) (by omega), Int.toNat_natCast, hx, hs, zwc (by omega), zupr, zupr, zrow_ne (a := 2) (b := 1) (by omega)]
theorem s_append {z : zZ} {d p : Nat} {v : Int} {μ : Mu} (hd : 1 ≤ d) (hv : rg v) (h1 : μ 1 1 = (p : Int)) (hp : p + 4 ≤ 220) : mC z d 17 [(2, 1), (0, v)] μ = some (0, zrow (zrow μ 2 (fed (μ 2) p v)) 1 (rup (μ 1) 1 ((p + 4 : Nat) : Int))) := by
  obtain ⟨e, rfl, he⟩ := pred_of hd
  have n21 : ∀ (M : Mu) (h g : Row), zrow (zrow M 2 h) 1 g 2 = h := fun M h g => by rw [zrow_ne (by omega), zrow_same]
  have n22 : ∀ (M : Mu) (h g h' g' : Row), zrow (zrow (zrow (zrow M 2 h) 1 g) 2 h') 1 g' = zrow (zrow M 2 h') 1 g' := fun M h g h' g' => by rw [zrow_comm (a := 1) (b := 2) (by omega), zrow_zrow, zrow_zrow]
  rw [c_Tape_append, s_app1 (p := p) (by omega) h1 (by omega) zby24 rfl]
  rw [s_app1 (p := p + 1) (sh := zw (24 + -8)) (by decide) (by rw [zrow_same, rup_same]) (by omega) (show z_and (z_ushr v (zw (24 + -8))) 255 = v / 65536 % 256 from zby16) rfl]
  simp -implicitDefEqProofs only [n21, n22, zrow_same, rup_rup]
  rw [s_app1 (p := p + 1 + 1) (sh := zw (zw (24 + -8) + -8)) (by decide) (by rw [zrow_same, rup_same]) (by omega) (show z_and (z_ushr v (zw (zw (24 + -8) + -8))) 255 = v / 256 % 256 from zby8) rfl]
  simp -implicitDefEqProofs only [n21, n22, zrow_same, rup_rup]
  rw [s_app1 (p := p + 1 + 1 + 1) (sh := zw (zw (zw (24 + -8) + -8) + -8)) (by decide) (by rw [zrow_same, rup_same]) (by omega) (show z_and (z_ushr v (zw (zw (zw (24 + -8) + -8) + -8))) 255 = v % 256 from zby0 hv) rfl]
  simp -implicitDefEqProofs only [n21, n22, zrow_same, rup_rup]
  rw [e_Tape_append_3, cT (by decide), e_Tape_append_49]
  rfl
