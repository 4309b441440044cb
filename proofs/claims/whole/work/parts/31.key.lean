/-! who stands ahead: keys of the class, comparing of the reference -/
theorem zl_sh {k : Nat} (hk : k < 64) : ((Int32.ofInt (k : Int)).toInt64 &&& 63) = ⟨⟨BitVec.ofNat 64 k⟩⟩ := by
  revert hk; revert k; decide
theorem zl_smod {k : Nat} (hk : k < 64) : (BitVec.ofNat 64 k).smod 64#64 = BitVec.ofNat 64 k := by
  revert hk; revert k; decide
theorem z_lshl_nat {a : Int} {k : Nat} (hk : k < 64) : z_lshl a (k : Int) = zwl (a * 2 ^ k) := by
  unfold z_lshl
  rw [zl_sh hk]
  show ((BitVec.ofInt 64 a) <<< ((BitVec.ofNat 64 k).smod 64#64)).toInt = _
  rw [zl_smod hk, BitVec.shiftLeft_eq', BitVec.toNat_ofNat, Nat.mod_eq_of_lt (by omega), BitVec.toInt_shiftLeft]
  unfold zwl
  rw [BitVec.toNat_ofInt, Nat.shiftLeft_eq]
  have e1 : (a % (2 ^ 64 : Nat)).toNat = a % 18446744073709551616 := by
    rw [Int.toNat_of_nonneg (Int.emod_nonneg _ (by decide))]; rfl
  rw [Int.natCast_mul, e1, Int.bmod_def]
  have e2 : (a % 18446744073709551616 * ((2 ^ k : Nat) : Int)) % ((2 ^ 64 : Nat) : Int) = (a * 2 ^ k) % 18446744073709551616 := by
    rw [Int.natCast_pow]
    show (a % 18446744073709551616 * 2 ^ k) % 18446744073709551616 = _
    rw [Int.mul_emod, Int.emod_emod_of_dvd _ (Int.dvd_refl _), ← Int.mul_emod]
  rw [e2]
  have e3 : ((2 ^ 64 : Nat) : Int) = 18446744073709551616 := rfl
  rw [e3]
  omega
theorem zwl_id {x : Int} (h1 : -9223372036854775808 ≤ x) (h2 : x < 9223372036854775808) : zwl x = x := by
  unfold zwl; omega
theorem zl_of (a : Nat) : Int64.ofInt (a : Int) = ⟨⟨BitVec.ofNat 64 a⟩⟩ := by
  show (⟨⟨BitVec.ofInt 64 (a : Int)⟩⟩ : Int64) = _
  rw [BitVec.ofInt_natCast]
theorem zl_nn {x : BitVec 64} (h : x.toNat < 9223372036854775808) : x.toInt = (x.toNat : Int) := by
  rw [BitVec.toInt_eq_toNat_cond]; rw [if_pos (by omega)]
theorem z_lor_nat {a b : Nat} (ha : a < 9223372036854775808) (hb : b < 9223372036854775808) : z_lor (a : Int) (b : Int) = ((a ||| b : Nat) : Int) := by
  have h1 : (BitVec.ofNat 64 a ||| BitVec.ofNat 64 b).toNat = a ||| b := by
    rw [BitVec.toNat_or, BitVec.toNat_ofNat, BitVec.toNat_ofNat, Nat.mod_eq_of_lt (by omega), Nat.mod_eq_of_lt (by omega)]
  have h2 : a ||| b < 2 ^ 63 := Nat.or_lt_two_pow (by omega) (by omega)
  unfold z_lor
  rw [zl_of, zl_of]
  show (BitVec.ofNat 64 a ||| BitVec.ofNat 64 b).toInt = _
  rw [zl_nn (by omega), h1]
theorem z_land_nat {a b : Nat} (ha : a < 9223372036854775808) (hb : b < 9223372036854775808) : z_land (a : Int) (b : Int) = ((a &&& b : Nat) : Int) := by
  have h1 : (BitVec.ofNat 64 a &&& BitVec.ofNat 64 b).toNat = a &&& b := by
    rw [BitVec.toNat_and, BitVec.toNat_ofNat, BitVec.toNat_ofNat, Nat.mod_eq_of_lt (by omega), Nat.mod_eq_of_lt (by omega)]
  have h2 : a &&& b ≤ a := Nat.and_le_left
  unfold z_land
  rw [zl_of, zl_of]
  show (BitVec.ofNat 64 a &&& BitVec.ofNat 64 b).toInt = _
  rw [zl_nn (by omega), h1]
/-- one digit more -/
theorem z_key {x y : Int} (h0 : 0 ≤ x) (h1 : x < 268435456) (h2 : 0 ≤ y) (h3 : y < 16) : z_lor (z_lshl x 4) y = 16 * x + y := by
  have e1 : z_lshl x 4 = 16 * x := by
    have := z_lshl_nat (a := x) (k := 4) (by omega)
    simp only [Int.cast_ofNat_Int] at this
    rw [this, zwl_id (by omega) (by omega)]
    omega
  have ex : x = ((x.toNat : Nat) : Int) := by omega
  have ey : y = ((y.toNat : Nat) : Int) := by omega
  have e2 : 16 * x = ((2 ^ 4 * x.toNat : Nat) : Int) := by omega
  rw [e1, e2]
  conv => lhs; rw [ey]
  rw [z_lor_nat (by omega) (by omega), ← Nat.two_pow_add_eq_or_of_lt (by omega)]
  omega
def rkr (r : Row) : Prop := ∀ j, 0 ≤ r j ∧ r j < 12
theorem s_keyOf {z : zZ} {d a : Nat} {c : Int} {μ : Mu} (hd : 2 ≤ d) (ha : iar a 12) (hr : rkr (μ a)) : mC z d 81 [(0, c), (2, (a : Int))] μ = some (kf (dig c (μ a)) 8, μ) := by
  obtain ⟨e, rfl, he⟩ := pred_of hd
  rw [c_Wrd_keyOf]
  have H := down (n := 8) (P := fun k => f_Wrd_keyOf_5 z e c (a : Int) (kf (dig c (μ a)) k) (k : Int) μ = some (kf (dig c (μ a)) 8, μ))
    (by rw [e_Wrd_keyOf_5, cT (by omega)])
    (by
      intro k hk ih
      have h15 := nib_lt c k
      have hk1 := kf_rg (dig_rg (c := c) hr) k
      have hp : (16 : Int) ^ k ≤ 16 ^ 7 := by
        have : (16 : Nat) ^ k ≤ 16 ^ 7 := Nat.pow_le_pow_right (by omega) (by omega)
        have e1 : ((16 ^ k : Nat) : Int) = (16 : Int) ^ k := by rw [Int.natCast_pow]; rfl
        have e2 : ((16 ^ 7 : Nat) : Int) = (16 : Int) ^ 7 := by rw [Int.natCast_pow]; rfl
        rw [← e1, ← e2]
        exact Int.ofNat_le.mpr this
      have hd := dig_rg (c := c) hr k
      rw [e_Wrd_keyOf_5, cF (by omega), s_letterAt he, letc_nat hk]
      simp only [ob]
      rw [s_isLetter he]
      simp only [ob, cB]
      by_cases hl : 1 ≤ nib c k ∧ nib c k ≤ 12
      · have e1 : (0 : Int) ≤ (nib c k : Int) - 1 ∧ (nib c k : Int) - 1 < 12 := by omega
        have e3 : (nib c k : Int) - 1 = ((nib c k - 1 : Nat) : Int) := by omega
        have h5 := hr (nib c k - 1)
        simp only [e1, and_self, decide_true, cond_true]
        rw [e3, gAi ha (by omega)]
        simp only [Int.toNat_natCast]
        rw [zw_id (by omega) (by omega), e_Wrd_keyOf_41, z_key hk1.1 (by omega) (by omega) (by omega), zwc (by omega)]
        have e4 : dig c (μ a) k = μ a (nib c k - 1) + 1 := by unfold dig; rw [if_pos hl]
        rw [← e4]
        exact ih
      · have e1 : ¬ ((0 : Int) ≤ (nib c k : Int) - 1 ∧ (nib c k : Int) - 1 < 12) := by omega
        simp only [e1, decide_false, cond_false]
        rw [e_Wrd_keyOf_40, e_Wrd_keyOf_41, z_key hk1.1 (by omega) (by omega) (by omega), zwc (by omega)]
        have e4 : dig c (μ a) k = 0 := by unfold dig; rw [if_neg hl]
        rw [← e4]
        exact ih)
  exact H 0 (by omega)
def ahd (c e : Int) (r : Row) : Bool := decide (kf (dig c r) 8 < kf (dig e r) 8)
theorem ia6 {o : Nat} (ho : o = 4 ∨ o = 13) : iar (o + 2) 12 := by
  rcases ho with rfl | rfl <;> exact ⟨⟨by omega, rfl⟩, rfl⟩
theorem s_isAhead {z : zZ} {d o : Nat} {c e : Int} {μ : Mu} (hd : 3 ≤ d) (ho : o = 4 ∨ o = 13) (hr : rkr (μ (o + 2))) : mC z d 80 [(0, c), (0, e), (2, (o : Int))] μ = some (bi (ahd c e (μ (o + 2))), μ) := by
  obtain ⟨e', rfl, he⟩ := pred_of hd
  rw [c_W_isAhead _ _ _ _ _ _ ho, s_keyOf he (ia6 ho) hr]
  simp only [ob]
  rw [s_keyOf he (ia6 ho) hr]
  simp only [ob]
  unfold ahd
  by_cases h : kf (dig c (μ (o + 2))) 8 < kf (dig e (μ (o + 2))) 8
  · rw [bi_dt h]
    have : z_lcmp (kf (dig c (μ (o + 2))) 8) (kf (dig e (μ (o + 2))) 8) = -1 := by unfold z_lcmp; rw [if_pos h]
    rw [this, cF (by decide), e_W_isAhead_25, g01_1]
  · rw [bi_df h]
    have : 0 ≤ z_lcmp (kf (dig c (μ (o + 2))) 8) (kf (dig e (μ (o + 2))) 8) := by
      unfold z_lcmp; rw [if_neg h]; split <;> omega
    rw [cT this, e_W_isAhead_25, g01_0]
/-- comparing by rank -/
theorem dig_row {c : Int} {n k : Nat} {r : Row} (hc : isW c n) (hk : k < n) : dig c r k = r (nib c k - 1) + 1 := by
  unfold dig; rw [if_pos (hc.2.2.1 k hk)]
theorem dig_end {c : Int} {n k : Nat} {r : Row} (hc : isW c n) (hk : n ≤ k) : dig c r k = 0 := by
  unfold dig; rw [if_neg]; rw [hc.2.2.2 k hk]; omega
theorem t_compare {z : zZ} {d s a la i n b lb j m : Nat} {r : Row} {c e : Int} {μ : Mu} (hd : 1 ≤ d) (hs : s < 2) (ha : iar a la) (hb : iar b lb) (hi : i + n ≤ la) (hj : j + m ≤ lb) (hla : la ≤ 1000) (hlb : lb ≤ 1000) (h1 : rwd μ a i n c) (h2 : rwd μ b j m e) (hr : rkr r) (hrr : ∀ k, k < 12 → μ 89 (12 * s + k) = r k) : ∃ v, mC z d 242 [(2, 86), (0, (s : Int)), (2, (a : Int)), (0, (i : Int)), (0, (n : Int)), (2, (b : Int)), (0, (j : Int)), (0, (m : Int))] μ = some (v, μ) ∧ (v < 0 ↔ ahd c e r = true) := by
  obtain ⟨e', rfl, he⟩ := pred_of hd
  have n8 := h1.1.2.1
  have m8 := h2.1.2.1
  rw [c_M_compare]
  have H := down (n := if n ≤ m then n else m) (P := fun k => (∀ q, q < k → dig c r q = dig e r q) → ∃ v, f_M_compare_3 z e' (s : Int) (a : Int) (i : Int) (n : Int) (b : Int) (j : Int) (m : Int) (k : Int) μ = some (v, μ) ∧ (v < 0 ↔ ahd c e r = true))
    (by
      intro hq
      rw [e_M_compare_3]
      refine ⟨(n : Int) - (m : Int), ?_, ?_⟩
      · by_cases hnm : n ≤ m
        · rw [if_pos hnm, cT (by omega), e_M_compare_68, zw_id (by omega) (by omega)]
        · rw [if_neg hnm, cF (by omega), cT (by omega), e_M_compare_68, zw_id (by omega) (by omega)]
      · unfold ahd
        rw [decide_eq_true_eq]
        by_cases hnm : n < m
        · have e1 : n ≤ m := by omega
          rw [if_pos e1] at hq
          refine ⟨fun _ => ?_, fun _ => by omega⟩
          refine kf_lt (dig_rg hr) (dig_rg hr) hq ?_ 8 (by omega)
          rw [dig_end h1.1 (Nat.le_refl _), dig_row h2.1 hnm]
          have := hr (nib e n - 1)
          omega
        · refine ⟨fun h => by omega, fun h => ?_⟩
          exfalso
          by_cases hmn : n = m
          · have e1 : n ≤ m := by omega
            rw [if_pos e1] at hq
            have : kf (dig c r) 8 = kf (dig e r) 8 := by
              apply kf_eq
              intro q hq8
              by_cases hqn : q < n
              · exact hq q hqn
              · rw [dig_end h1.1 (by omega), dig_end h2.1 (by omega)]
            omega
          · have e1 : ¬ (n ≤ m) := by omega
            rw [if_neg e1] at hq
            have := kf_lt (g := dig e r) (g' := dig c r) (dig_rg hr) (dig_rg hr) (k := m) (fun q hqm => (hq q hqm).symm) (by
              rw [dig_end h2.1 (Nat.le_refl _), dig_row h1.1 (by omega)]
              have := hr (nib c m - 1)
              omega) 8 (by omega)
            omega)
    (by
      intro k hk ih hq
      have hkn : k < n := by split at hk <;> omega
      have hkm : k < m := by split at hk <;> omega
      have g1 := h1.1.2.2.1 k hkn
      have g2 := h2.1.2.2.1 k hkm
      have q1 : zw (zw (12 * (s : Int)) + ((nib c k : Int) - 1)) = ((12 * s + (nib c k - 1) : Nat) : Int) := by
        rw [zw_id (x := 12 * (s : Int)) (by omega) (by omega), zw_id (by omega) (by omega)]; omega
      have q2 : zw (zw (12 * (s : Int)) + ((nib e k : Int) - 1)) = ((12 * s + (nib e k - 1) : Nat) : Int) := by
        rw [zw_id (x := 12 * (s : Int)) (by omega) (by omega), zw_id (by omega) (by omega)]; omega
      have r1 := hr (nib c k - 1)
      have r2 := hr (nib e k - 1)
      have d1 := dig_row (r := r) h1.1 hkn
      have d2 := dig_row (r := r) h2.1 hkm
      rw [e_M_compare_3, cF (by omega), cF (by omega), zwa (by omega), zwa (by omega), gAi ha (by omega)]
      simp only [Int.toNat_natCast]
      simp only [h1.2 k hkn, h2.2 k hkm, q1, q2, Int.toNat_natCast]
      rw [hrr _ (by omega), hrr _ (by omega), gI_ok (by omega) (by omega), gAi hb (by omega), gI_ok (by omega) (by omega), zw_id (x := r (nib c k - 1) - r (nib e k - 1)) (by omega) (by omega)]
      by_cases heq : r (nib c k - 1) - r (nib e k - 1) = 0
      · rw [cT heq, e_M_compare_62, zwc (by omega)]
        apply ih
        intro q hq'
        by_cases hqk : q = k
        · subst hqk; omega
        · exact hq q (by omega)
      · rw [cF heq]
        refine ⟨_, rfl, ?_⟩
        unfold ahd
        rw [decide_eq_true_eq]
        by_cases hlt : r (nib c k - 1) < r (nib e k - 1)
        · refine ⟨fun _ => kf_lt (dig_rg hr) (dig_rg hr) hq (by omega) 8 (by omega), fun _ => by omega⟩
        · refine ⟨fun h => by omega, fun h => ?_⟩
          have := kf_lt (g := dig e r) (g' := dig c r) (dig_rg hr) (dig_rg hr) (k := k) (fun q hqm => (hq q hqm).symm) (by omega) 8 (by omega)
          omega)
  exact H 0 (by omega) (fun q hq => by omega)
theorem t_isBeating {z : zZ} {d s w v N N' : Nat} {W W' r : Row} {L L' : Nat → Nat} {μ : Mu} (hd : 2 ≤ d) (hs : s < 2) (hx : lexR μ s N W L) (hx' : lexR μ (1 - s) N' W' L') (hw : w < N) (hv : v < N') (hr : rkr r) (hrr : ∀ k, k < 12 → μ 89 (12 * (1 - s) + k) = r k) : mC z d 241 [(2, 86), (0, (s : Int)), (0, (w : Int)), (0, (v : Int))] μ = some (bi (ahd (W w) (W' v) r), μ) := by
  obtain ⟨e', rfl, he⟩ := pred_of hd
  have e1 : zw (1 - (s : Int)) = ((1 - s : Nat) : Int) := by rw [zw_id (by omega) (by omega)]; omega
  obtain ⟨g1, g2, g3⟩ := hx.2.2 w hw
  obtain ⟨k1, k2, k3⟩ := hx'.2.2 v hv
  have g4 := g3.1.2.1
  have k4 := k3.1.2.1
  have n12 := hx.2.1
  have n12' := hx'.2.1
  rw [c_M_isBeating, e1, t_beginOf he hs (by omega)]
  simp only [ob]
  rw [t_longOf he hs (by omega), g2]
  simp only [ob]
  rw [t_beginOf he (by omega) (by omega)]
  simp only [ob]
  rw [t_longOf he (by omega) (by omega), k2]
  simp only [ob]
  obtain ⟨v', q1, q2⟩ := t_compare (z := z) (d := e') (s := 1 - s) he (by omega) ia94 ia94 (by omega) (by omega) (by omega) (by omega) g3 k3 hr hrr
  simp only [Int.cast_ofNat_Int] at q1
  rw [q1]
  simp only [ob]
  by_cases h : v' < 0
  · rw [cF (by omega), e_M_isBeating_49, g01_1, q2.mp h, bi_t]
  · rw [cT (by omega), e_M_isBeating_48, e_M_isBeating_49, g01_0]
    have : ahd (W w) (W' v) r = false := by
      cases hq : ahd (W w) (W' v) r
      · rfl
      · exact absurd (q2.mpr hq) h
    rw [this, bi_f]
