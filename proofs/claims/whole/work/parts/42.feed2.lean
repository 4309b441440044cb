/-! feed, both sides -/
theorem t_typ1 {z : zZ} {e p : Nat} {v k k' x : Int} {M : Mu} (h0 : 0 ≤ k) (h1 : M 86 9 = (p : Int)) (hp : p < 220) (hx : z_i2b (z_i2b (z_shr v (zw (8 * k)))) = x) (hs : zw (k + (-1)) = k') : f_M_types_2 z e v k M = f_M_types_2 z e v k' (zrow (zrow M 93 (rup (M 93) p x)) 86 (rup (M 86) 9 ((p + 1 : Nat) : Int))) := by
  rw [e_M_types_2, cF (by omega), h1, gI_ok (by omega) (by omega), Int.toNat_natCast, hx, hs, zwc (by omega), zupr, zupr, zrow_ne (a := 93) (b := 86) (by omega)]
theorem zsb24 {v : Int} (h : rg v) : z_i2b (z_i2b (z_shr v 24)) = sgn (v / 16777216 % 256) := by
  have := zsb (k := 24) h (by omega)
  simp only [Int.cast_ofNat_Int] at this
  exact this
theorem zsb16 {v : Int} (h : rg v) : z_i2b (z_i2b (z_shr v 16)) = sgn (v / 65536 % 256) := by
  have := zsb (k := 16) h (by omega)
  simp only [Int.cast_ofNat_Int] at this
  exact this
theorem zsb8 {v : Int} (h : rg v) : z_i2b (z_i2b (z_shr v 8)) = sgn (v / 256 % 256) := by
  have := zsb (k := 8) h (by omega)
  simp only [Int.cast_ofNat_Int] at this
  exact this
theorem zsb0 {v : Int} (h : rg v) : z_i2b (z_i2b (z_shr v 0)) = sgn (v % 256) := by
  have := zsb (k := 0) h (by omega)
  simp only [Int.natCast_zero] at this
  rw [this, show (2 : Int) ^ 0 = 1 from rfl, Int.ediv_one]
theorem t_types {z : zZ} {d p : Nat} {v : Int} {μ : Mu} (hd : 1 ≤ d) (hv : rg v) (h1 : μ 86 9 = (p : Int)) (hp : p + 4 ≤ 220) : mC z d 187 [(2, 86), (0, v)] μ = some (0, zrow (zrow μ 93 (fedS (μ 93) p v)) 86 (rup (μ 86) 9 ((p + 4 : Nat) : Int))) := by
  obtain ⟨e, rfl, he⟩ := pred_of hd
  have n21 : ∀ (M : Mu) (h g : Row), zrow (zrow M 93 h) 86 g 93 = h := fun M h g => by rw [zrow_ne (by omega), zrow_same]
  have n22 : ∀ (M : Mu) (h g h' g' : Row), zrow (zrow (zrow (zrow M 93 h) 86 g) 93 h') 86 g' = zrow (zrow M 93 h') 86 g' := fun M h g h' g' => by rw [zrow_comm (a := 86) (b := 93) (by omega), zrow_zrow, zrow_zrow]
  rw [c_M_types, t_typ1 (p := p) (by omega) h1 (by omega) (show z_i2b (z_i2b (z_shr v (zw (8 * 3)))) = _ from zsb24 hv) rfl]
  rw [t_typ1 (p := p + 1) (k := zw (3 + -1)) (by decide) (by rw [zrow_same, rup_same]) (by omega) (show z_i2b (z_i2b (z_shr v (zw (8 * zw (3 + -1))))) = _ from zsb16 hv) rfl]
  simp -implicitDefEqProofs only [n21, n22, zrow_same, rup_rup]
  rw [t_typ1 (p := p + 1 + 1) (k := zw (zw (3 + -1) + -1)) (by decide) (by rw [zrow_same, rup_same]) (by omega) (show z_i2b (z_i2b (z_shr v (zw (8 * zw (zw (3 + -1) + -1))))) = _ from zsb8 hv) rfl]
  simp -implicitDefEqProofs only [n21, n22, zrow_same, rup_rup]
  rw [t_typ1 (p := p + 1 + 1 + 1) (k := zw (zw (zw (3 + -1) + -1) + -1)) (by decide) (by rw [zrow_same, rup_same]) (by omega) (show z_i2b (z_i2b (z_shr v (zw (8 * zw (zw (zw (3 + -1) + -1) + -1))))) = _ from zsb0 hv) rfl]
  simp -implicitDefEqProofs only [n21, n22, zrow_same, rup_rup]
  rw [e_M_types_2, cT (by decide)]
  rfl
def fed5 (h : Row) (p : Nat) (a b c d e : Int) : Row := fed (fed (fed (fed (fed h p a) (p + 4) b) (p + 8) c) (p + 12) d) (p + 16) e
def fedS5 (h : Row) (p : Nat) (a b c d e : Int) : Row := fedS (fedS (fedS (fedS (fedS h p a) (p + 4) b) (p + 8) c) (p + 12) d) (p + 16) e
theorem s_feed {z : zZ} {d p : Nat} {v1 v2 v3 v4 v5 : Int} {μ : Mu} (hd : 2 ≤ d) (r1 : rg v1) (r2 : rg v2) (r3 : rg v3) (r4 : rg v4) (r5 : rg v5) (h1 : μ 1 1 = (p : Int)) (hp : p + 20 ≤ 220) : mC z d 16 [(2, 0), (0, v1), (0, v2), (0, v3), (0, v4), (0, v5)] μ = some (((p + 20 : Nat) : Int), zrow (zrow μ 2 (fed5 (μ 2) p v1 v2 v3 v4 v5)) 1 (rup (μ 1) 1 ((p + 20 : Nat) : Int))) := by
  obtain ⟨e, rfl, he⟩ := pred_of hd
  have n21 : ∀ (M : Mu) (h g : Row), zrow (zrow M 2 h) 1 g 2 = h := fun M h g => by rw [zrow_ne (by omega), zrow_same]
  have n22 : ∀ (M : Mu) (h g h' g' : Row), zrow (zrow (zrow (zrow M 2 h) 1 g) 2 h') 1 g' = zrow (zrow M 2 h') 1 g' := fun M h g h' g' => by rw [zrow_comm (a := 1) (b := 2) (by omega), zrow_zrow, zrow_zrow]
  rw [c_W_feed, h1, zw_id (by omega) (by omega), cT (by omega), s_append he r1 h1 (by omega)]
  simp -implicitDefEqProofs only [ob]
  rw [s_append (p := p + 4) he r2 (by rw [zrow_same, rup_same]) (by omega)]
  simp -implicitDefEqProofs only [ob, n21, n22, zrow_same, rup_rup]
  rw [s_append (p := p + 8) he r3 (by rw [zrow_same, rup_same]) (by omega)]
  simp -implicitDefEqProofs only [ob, n21, n22, zrow_same, rup_rup]
  rw [s_append (p := p + 12) he r4 (by rw [zrow_same, rup_same]) (by omega)]
  simp -implicitDefEqProofs only [ob, n21, n22, zrow_same, rup_rup]
  rw [s_append (p := p + 16) he r5 (by rw [zrow_same, rup_same]) (by omega)]
  simp -implicitDefEqProofs only [ob, n21, n22, zrow_same, rup_rup, rup_same]
  rfl
theorem s_feed_no {z : zZ} {d p : Nat} {v1 v2 v3 v4 v5 : Int} {μ : Mu} (hd : 2 ≤ d) (h1 : μ 1 1 = (p : Int)) (hp2 : p ≤ 220) (hp : 220 < p + 20) : mC z d 16 [(2, 0), (0, v1), (0, v2), (0, v3), (0, v4), (0, v5)] μ = some (-1, μ) := by
  obtain ⟨e, rfl, he⟩ := pred_of hd
  rw [c_W_feed, h1, zw_id (by omega) (by omega), cF (by omega)]
theorem t_feed {z : zZ} {d p : Nat} {v1 v2 v3 v4 v5 : Int} {μ : Mu} (hd : 2 ≤ d) (r1 : rg v1) (r2 : rg v2) (r3 : rg v3) (r4 : rg v4) (r5 : rg v5) (h1 : μ 86 9 = (p : Int)) (hp : p + 20 ≤ 220) : mC z d 186 [(2, 86), (0, v1), (0, v2), (0, v3), (0, v4), (0, v5)] μ = some (((p + 20 : Nat) : Int), zrow (zrow μ 93 (fedS5 (μ 93) p v1 v2 v3 v4 v5)) 86 (rup (μ 86) 9 ((p + 20 : Nat) : Int))) := by
  obtain ⟨e, rfl, he⟩ := pred_of hd
  have n21 : ∀ (M : Mu) (h g : Row), zrow (zrow M 93 h) 86 g 93 = h := fun M h g => by rw [zrow_ne (by omega), zrow_same]
  have n22 : ∀ (M : Mu) (h g h' g' : Row), zrow (zrow (zrow (zrow M 93 h) 86 g) 93 h') 86 g' = zrow (zrow M 93 h') 86 g' := fun M h g h' g' => by rw [zrow_comm (a := 86) (b := 93) (by omega), zrow_zrow, zrow_zrow]
  rw [c_M_feed, h1, zw_id (by omega) (by omega), cT (by omega), t_types he r1 h1 (by omega)]
  simp -implicitDefEqProofs only [ob]
  rw [t_types (p := p + 4) he r2 (by rw [zrow_same, rup_same]) (by omega)]
  simp -implicitDefEqProofs only [ob, n21, n22, zrow_same, rup_rup]
  rw [t_types (p := p + 8) he r3 (by rw [zrow_same, rup_same]) (by omega)]
  simp -implicitDefEqProofs only [ob, n21, n22, zrow_same, rup_rup]
  rw [t_types (p := p + 12) he r4 (by rw [zrow_same, rup_same]) (by omega)]
  simp -implicitDefEqProofs only [ob, n21, n22, zrow_same, rup_rup]
  rw [t_types (p := p + 16) he r5 (by rw [zrow_same, rup_same]) (by omega)]
  simp -implicitDefEqProofs only [ob, n21, n22, zrow_same, rup_rup, rup_same]
  rfl
theorem t_feed_no {z : zZ} {d p : Nat} {v1 v2 v3 v4 v5 : Int} {μ : Mu} (hd : 2 ≤ d) (h1 : μ 86 9 = (p : Int)) (hp2 : p ≤ 220) (hp : 220 < p + 20) : mC z d 186 [(2, 86), (0, v1), (0, v2), (0, v3), (0, v4), (0, v5)] μ = some (-1, μ) := by
  obtain ⟨e, rfl, he⟩ := pred_of hd
  rw [c_M_feed, h1, zw_id (by omega) (by omega), cF (by omega)]
/-- numbers on the tape -/
def nm4 (b : Row) (n p : Nat) : Nat → Int
  | 0 => 0
  | k + 1 => z_or (z_shl (nm4 b n p k) 8) (tx b n (p + k) % 256)
theorem s_takeNumber {z : zZ} {d p n : Nat} {μ : Mu} (hd : 3 ≤ d) (h2 : μ 1 2 = (p : Int)) (h3 : μ 1 3 = (n : Int)) (hn : n ≤ 220) (hp : p ≤ 1000) : mC z d 175 [(2, 1)] μ = some (nm4 (μ 2) n p 4, zup μ 1 2 ((p + 4 : Nat) : Int)) := by
  obtain ⟨e, rfl, he⟩ := pred_of hd
  rw [c_Tape_takeNumber]
  have H := down (n := 4) (P := fun k => f_Tape_takeNumber_4 z e (nm4 (μ 2) n p k) (k : Int) (zup μ 1 2 ((p + k : Nat) : Int)) = some (nm4 (μ 2) n p 4, zup μ 1 2 ((p + 4 : Nat) : Int)))
    (by rw [e_Tape_takeNumber_4, cT (by omega)])
    (by
      intro k hk ih
      have mb : zup μ 1 2 ((p + k : Nat) : Int) 2 = μ 2 := zup_ro (by omega)
      rw [e_Tape_takeNumber_4, cF (by omega), s_takeByte (p := p + k) he zup_hit (by rw [zup_nk (by omega)]; exact h3) hn (by omega), mb, zup_zup]
      simp -implicitDefEqProofs only [ob]
      rw [z_255, zwc (by omega)]
      exact ih)
  have H0 := H 0 (by omega)
  rw [Nat.add_zero, zup_self h2] at H0
  exact H0
theorem t_tapeNumber {z : zZ} {d n i : Nat} {b : Row} {μ : Mu} (hd : 1 ≤ d) (hi : 4 * i + 4 ≤ n) (hn : n ≤ 220) (hb : tpe μ b) : mC z d 307 [(2, 86), (0, (i : Int))] μ = some (nm4 b n (4 * i) 4, μ) := by
  obtain ⟨e, rfl, he⟩ := pred_of hd
  have e1 : zw (4 * (i : Int)) = ((4 * i : Nat) : Int) := by rw [zw_id (by omega) (by omega)]; omega
  rw [c_M_tapeNumber, e1]
  clear e1
  have H := down (n := 4) (P := fun k => f_M_tapeNumber_6 z e (i : Int) (nm4 b n (4 * i) k) ((4 * i + k : Nat) : Int) μ = some (nm4 b n (4 * i) 4, μ))
    (by
      rw [e_M_tapeNumber_6, cT]
      rw [zw_id (x := 4 * (i : Int)) (by omega) (by omega), zw_id (by omega) (by omega)]
      omega)
    (by
      intro k hk ih
      have hbk := hb.2 (4 * i + k) (by omega)
      have hb1 := hb.1 (4 * i + k)
      rw [e_M_tapeNumber_6, cF (by rw [zw_id (x := 4 * (i : Int)) (by omega) (by omega), zw_id (by omega) (by omega)]; omega), gI_ok (by omega) (by omega), Int.toNat_natCast, hbk, z_255, zwc (by omega), show 4 * i + k + 1 = 4 * i + (k + 1) by omega]
      have e2 : (if b (4 * i + k) < 128 then b (4 * i + k) else b (4 * i + k) - 256) % 256 = tx b n (4 * i + k) % 256 := by
        rw [tx_in (by omega)]
        split <;> omega
      rw [e2]
      exact ih)
  exact H 0 (by omega)
