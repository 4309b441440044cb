/-! order -/
def seenS (b : Row) : Nat → Nat
  | 0 => 0
  | k + 1 => seenS b k ||| 2 ^ (b k).toNat
def ordP (b : Row) (k : Nat) : Bool := decide (0 ≤ b k ∧ b k < 12) && !(seenS b k).testBit (b k).toNat
def rowB (g b : Row) (s : Nat) : Nat → Row
  | 0 => g
  | k + 1 => rup (rowB g b s k) (s + k) (b k)
def rkB (g b : Row) (s : Nat) : Nat → Row
  | 0 => g
  | k + 1 => rup (rkB g b s k) (s + (b k).toNat) (k : Int)
theorem seenS_lt {b : Row} : ∀ k, allb (ordP b) k = true → seenS b k < 4096 := by
  intro k
  induction k with
  | zero => intro _; unfold seenS; omega
  | succ k ih =>
    intro h
    unfold allb at h
    rw [Bool.and_eq_true] at h
    have h2 := h.2
    unfold ordP at h2
    rw [Bool.and_eq_true, decide_eq_true_eq] at h2
    unfold seenS
    exact or_lt (ih h.1) (by omega)
theorem ordP_l {b : Row} {k : Nat} (h : allb (ordP b) 12 = true) (hk : k < 12) : 0 ≤ b k ∧ b k < 12 := by
  have := (allb_iff (ordP b) 12).mp h k hk
  unfold ordP at this
  rw [Bool.and_eq_true, decide_eq_true_eq] at this
  exact this.1
theorem s_takeOrder {z : zZ} {d o : Nat} {μ : Mu} (hd : 3 ≤ d) (ho : o = 4 ∨ o = 13) (h2 : μ 1 2 = 0) (h3 : μ 1 3 = 12) : (allb (ordP (μ 2)) 12 = false ∧ ∃ q : Int, mC z d 20 [(2, (o : Int)), (2, 1)] μ = some (0, zup μ 1 2 q)) ∨ (allb (ordP (μ 2)) 12 = true ∧ mC z d 20 [(2, (o : Int)), (2, 1)] μ = some (1, zrow (zrow (zup μ 1 2 12) (o + 1) (rowB (μ (o + 1)) (μ 2) 0 12)) (o + 2) (rkB (μ (o + 2)) (μ 2) 0 12))) := by
  obtain ⟨e, rfl, he⟩ := pred_of hd
  have r3 : ∀ q : Int, zup μ 1 2 q 1 3 = ((12 : Nat) : Int) := fun q => by rw [zup_nk (by omega)]; exact h3
  have rb : ∀ q : Int, zup μ 1 2 q 2 = μ 2 := fun q => zup_ro (by omega)
  have hbyte : ∀ k : Nat, k < 12 → mC z e 21 [(2, 1)] (zup μ 1 2 (k : Int)) = some (μ 2 k, zup μ 1 2 ((k + 1 : Nat) : Int)) := by
    intro k hk
    rw [s_takeByte (p := k) (n := 12) he zup_hit (r3 _) (by omega) (by omega), rb, tx_in hk, zup_zup]
  have hstep : ∀ k : Nat, k < 12 → allb (ordP (μ 2)) k = true → f_Army_takeOrder_4 z e o ((seenS (μ 2) k : Nat) : Int) (k : Int) (zup μ 1 2 (k : Int)) = bif ordP (μ 2) k then f_Army_takeOrder_4 z e o ((seenS (μ 2) (k + 1) : Nat) : Int) ((k + 1 : Nat) : Int) (zup μ 1 2 ((k + 1 : Nat) : Int)) else some (0, zup μ 1 2 ((k + 1 : Nat) : Int)) := by
    intro k hk hall
    have hlt := seenS_lt k hall
    rw [e_Army_takeOrder_4 _ _ _ _ _ _ ho, cF (by omega), hbyte k hk]
    simp -implicitDefEqProofs only [ob]
    rw [s_isLetter (by omega)]
    simp -implicitDefEqProofs only [ob, cB]
    unfold ordP
    by_cases hl : 0 ≤ μ 2 k ∧ μ 2 k < 12
    · have e1 : μ 2 k = (((μ 2 k).toNat : Nat) : Int) := by omega
      rw [decide_eq_true hl]
      simp -implicitDefEqProofs only [cond_true, Bool.true_and]
      obtain ⟨l, hl2⟩ : ∃ l : Nat, μ 2 k = (l : Int) := ⟨(μ 2 k).toNat, e1⟩
      rw [hl2, s_has (by omega) (by omega) (by omega), Int.toNat_natCast]
      simp -implicitDefEqProofs only [ob, cB]
      cases hb : (seenS (μ 2) k).testBit l
      · simp -implicitDefEqProofs only [cond_false, Bool.not_false, cond_true]
        rw [e_Army_takeOrder_35 _ _ _ _ _ _ _ ho, s_or1 (by omega) (by omega), zwc (by omega)]
        have e2 : seenS (μ 2) (k + 1) = seenS (μ 2) k ||| 2 ^ l := by
          show seenS (μ 2) k ||| 2 ^ (μ 2 k).toNat = _
          rw [hl2, Int.toNat_natCast]
        rw [e2]
      · simp -implicitDefEqProofs only [cond_true, Bool.not_true, cond_false]
        rw [e_Army_takeOrder_33]
    · rw [decide_eq_false hl]
      simp -implicitDefEqProofs only [cond_false, Bool.false_and]
      rw [e_Army_takeOrder_33]
  rw [c_Army_takeOrder _ _ _ _ ho]
  have hstart : μ = zup μ 1 2 ((0 : Nat) : Int) := (zup_self h2).symm
  cases hgood : allb (ordP (μ 2)) 12
  · left
    refine ⟨rfl, ?_⟩
    have H := down (n := 12) (P := fun k => allb (ordP (μ 2)) k = true → ∃ q : Int, f_Army_takeOrder_4 z e o ((seenS (μ 2) k : Nat) : Int) (k : Int) (zup μ 1 2 (k : Int)) = some (0, zup μ 1 2 q))
      (by
        intro h
        rw [hgood] at h
        cases h)
      (by
        intro k hk ih hall
        rw [hstep k hk hall]
        cases hp : ordP (μ 2) k
        · exact ⟨_, rfl⟩
        · exact ih (by unfold allb; rw [hall, hp]; rfl))
    have H0 := H 0 (by omega) rfl
    rw [← hstart] at H0
    exact H0
  · right
    refine ⟨rfl, ?_⟩
    have hpre : ∀ k, k ≤ 12 → allb (ordP (μ 2)) k = true := fun k hk => (allb_iff _ _).mpr (fun j hj => (allb_iff _ _).mp hgood j (by omega))
    have n1 : o + 1 ≠ 1 ∧ o + 2 ≠ 1 ∧ o + 1 ≠ 2 ∧ o + 2 ≠ 2 := by omega
    have H2 := down (n := 12) (P := fun k => f_Army_takeOrder_55 z e o (k : Int) (zrow (zrow (zup μ 1 2 (k : Int)) (o + 1) (rowB (μ (o + 1)) (μ 2) 0 k)) (o + 2) (rkB (μ (o + 2)) (μ 2) 0 k)) = some (1, zrow (zrow (zup μ 1 2 12) (o + 1) (rowB (μ (o + 1)) (μ 2) 0 12)) (o + 2) (rkB (μ (o + 2)) (μ 2) 0 12)))
      (by
        rw [e_Army_takeOrder_55 _ _ _ _ _ ho, cT (by omega)]
        rfl)
      (by
        intro k hk ih
        have hl := ordP_l hgood hk
        obtain ⟨l, hl2⟩ : ∃ l : Nat, μ 2 k = (l : Int) := ⟨(μ 2 k).toNat, by omega⟩
        have hz : ∀ (M : Mu) (q : Int) (g h : Row), zup (zrow (zrow M (o + 1) g) (o + 2) h) 1 2 q = zrow (zrow (zup M 1 2 q) (o + 1) g) (o + 2) h := by
          intro M q g h
          rw [zupr, zupr, zrow_ne (by omega), zrow_ne (by omega), zrow_comm (a := o + 2) (b := 1) (by omega), zrow_comm (a := o + 1) (b := 1) (by omega)]
        have hr1 : ∀ (q : Int) (g h : Row), zrow (zrow (zup μ 1 2 q) (o + 1) g) (o + 2) h 1 = zup μ 1 2 q 1 := fun q g h => by rw [zrow_ne (by omega), zrow_ne (by omega)]
        have hr2 : ∀ (q : Int) (g h : Row), zrow (zrow (zup μ 1 2 q) (o + 1) g) (o + 2) h 2 = μ 2 := fun q g h => by rw [zrow_ne (by omega), zrow_ne (by omega), rb]
        rw [e_Army_takeOrder_55 _ _ _ _ _ ho, cF (by omega), s_takeByte (p := k) (n := 12) he (by rw [hr1]; exact zup_hit) (by rw [hr1]; exact r3 _) (by omega) (by omega), hr2, tx_in hk, hz, zup_zup, hl2]
        simp -implicitDefEqProofs only [ob]
        rw [s_isLetter (by omega)]
        have hd1 : (0 : Int) ≤ (l : Int) ∧ (l : Int) < 12 := by omega
        simp -implicitDefEqProofs only [ob, cB, hd1, and_self, decide_true, cond_true, Int.toNat_natCast]
        rw [gI_ok (by omega) (by omega), gI_ok (by omega) (by omega), e_Army_takeOrder_91 _ _ _ _ _ ho, zwc (by omega)]
        have e1 : zup (zup (zrow (zrow (zup μ 1 2 ((k + 1 : Nat) : Int)) (o + 1) (rowB (μ (o + 1)) (μ 2) 0 k)) (o + 2) (rkB (μ (o + 2)) (μ 2) 0 k)) (o + 1) k (l : Int)) (o + 2) l (k : Int) = zrow (zrow (zup μ 1 2 ((k + 1 : Nat) : Int)) (o + 1) (rowB (μ (o + 1)) (μ 2) 0 (k + 1))) (o + 2) (rkB (μ (o + 2)) (μ 2) 0 (k + 1)) := by
          have e2 : rowB (μ (o + 1)) (μ 2) 0 (k + 1) = rup (rowB (μ (o + 1)) (μ 2) 0 k) k (l : Int) := by
            show rup _ (0 + k) (μ 2 k) = _
            rw [Nat.zero_add, hl2]
          have e3 : rkB (μ (o + 2)) (μ 2) 0 (k + 1) = rup (rkB (μ (o + 2)) (μ 2) 0 k) l (k : Int) := by
            show rup _ (0 + (μ 2 k).toNat) (k : Int) = _
            rw [Nat.zero_add, hl2, Int.toNat_natCast]
          rw [e2, e3, zupr (a := o + 1), zrow_ne (a := o + 2) (b := o + 1) (by omega), zrow_same, zrow_comm (a := o + 2) (b := o + 1) (by omega), zrow_zrow, zupr, zrow_same, zrow_zrow]
        rw [e1]
        exact ih)
    have H := down (n := 12) (P := fun k => f_Army_takeOrder_4 z e o ((seenS (μ 2) k : Nat) : Int) (k : Int) (zup μ 1 2 (k : Int)) = some (1, zrow (zrow (zup μ 1 2 12) (o + 1) (rowB (μ (o + 1)) (μ 2) 0 12)) (o + 2) (rkB (μ (o + 2)) (μ 2) 0 12)))
      (by
        rw [e_Army_takeOrder_4 _ _ _ _ _ _ ho, cT (by omega), zup_zup]
        have H20 := H2 0 (by omega)
        have e4 : zrow (zrow (zup μ 1 2 ((0 : Nat) : Int)) (o + 1) (rowB (μ (o + 1)) (μ 2) 0 0)) (o + 2) (rkB (μ (o + 2)) (μ 2) 0 0) = zup μ 1 2 0 := by
          have e5 : rowB (μ (o + 1)) (μ 2) 0 0 = zup μ 1 2 ((0 : Nat) : Int) (o + 1) := by rw [zup_ro (by omega)]; rfl
          rw [e5, zrow_id]
          have e6 : rkB (μ (o + 2)) (μ 2) 0 0 = zup μ 1 2 ((0 : Nat) : Int) (o + 2) := by rw [zup_ro (by omega)]; rfl
          rw [e6, zrow_id]
          rfl
        rw [e4] at H20
        exact H20)
      (by
        intro k hk ih
        rw [hstep k hk (hpre k (by omega)), (allb_iff _ _).mp hgood k hk]
        exact ih)
    have H0 := H 0 (by omega)
    rw [← hstart] at H0
    exact H0
theorem t_order {z : zZ} {e s : Nat} {b : Row} {μ : Mu} (he : 1 ≤ e) (hs : s < 2) (hb : tpe μ b) : (allb (ordP b) 12 = false ∧ f_M_order_27 z e (s : Int) 0 0 μ = some (0, μ)) ∨ (allb (ordP b) 12 = true ∧ f_M_order_27 z e (s : Int) 0 0 μ = some (1, zrow (zrow μ 88 (rowB (μ 88) b (12 * s) 12)) 89 (rkB (μ 89) b (12 * s) 12))) := by
  have hsg : ∀ k, k < 12 → μ 93 k = sgn (b k) := fun k hk => hb.2 k (by omega)
  have hstep : ∀ k : Nat, k < 12 → allb (ordP b) k = true → f_M_order_27 z e (s : Int) ((seenS b k : Nat) : Int) (k : Int) μ = bif ordP b k then f_M_order_27 z e (s : Int) ((seenS b (k + 1) : Nat) : Int) ((k + 1 : Nat) : Int) μ else some (0, μ) := by
    intro k hk hall
    have hlt := seenS_lt k hall
    have hbk := hb.1 k
    rw [e_M_order_27, cF (by omega), gI_ok (by omega) (by omega), Int.toNat_natCast, hsg k hk, t_isLetter he]
    simp -implicitDefEqProofs only [ob, cB, hsg k hk]
    unfold ordP
    by_cases hl : 0 ≤ b k ∧ b k < 12
    · obtain ⟨l, hl2⟩ : ∃ l : Nat, b k = (l : Int) := ⟨(b k).toNat, by omega⟩
      have e1 : sgn (b k) = (l : Int) := by unfold sgn; rw [if_pos (by omega), hl2]
      have hd1 : (0 : Int) ≤ (l : Int) ∧ (l : Int) < 12 := by omega
      rw [e1, hl2]
      simp -implicitDefEqProofs only [hd1, and_self, decide_true, cond_true, Bool.true_and, Int.toNat_natCast]
      rw [gI_ok (by omega) (by omega), t_has he (by omega) (by omega)]
      simp -implicitDefEqProofs only [ob, cB]
      cases hbt : (seenS b k).testBit l
      · simp -implicitDefEqProofs only [cond_false, Bool.not_false, cond_true]
        rw [e_M_order_60, gI_ok (by omega) (by omega), Int.toNat_natCast, hsg k hk, e1, s_or1 (by omega) (by omega), zwc (by omega)]
        have e2 : seenS b (k + 1) = seenS b k ||| 2 ^ l := by
          show seenS b k ||| 2 ^ (b k).toNat = _
          rw [hl2, Int.toNat_natCast]
        rw [e2]
      · simp -implicitDefEqProofs only [cond_true, Bool.not_true, cond_false]
        rw [e_M_order_58]
    · have e1 : ¬ (0 ≤ sgn (b k) ∧ sgn (b k) < 12) := by unfold sgn; split <;> omega
      rw [decide_eq_false e1, decide_eq_false hl]
      simp -implicitDefEqProofs only [cond_false, Bool.false_and]
      rw [e_M_order_58]
  cases hgood : allb (ordP b) 12
  · left
    refine ⟨rfl, ?_⟩
    have H := down (n := 12) (P := fun k => allb (ordP b) k = true → f_M_order_27 z e (s : Int) ((seenS b k : Nat) : Int) (k : Int) μ = some (0, μ))
      (by
        intro h
        rw [hgood] at h
        cases h)
      (by
        intro k hk ih hall
        rw [hstep k hk hall]
        cases hp : ordP b k
        · rfl
        · exact ih (by unfold allb; rw [hall, hp]; rfl))
    exact H 0 (by omega) rfl
  · right
    refine ⟨rfl, ?_⟩
    have hpre : ∀ k, k ≤ 12 → allb (ordP b) k = true := fun k hk => (allb_iff _ _).mpr (fun j hj => (allb_iff _ _).mp hgood j (by omega))
    have H2 := down (n := 12) (P := fun k => f_M_order_79 z e (s : Int) (k : Int) (zrow (zrow μ 88 (rowB (μ 88) b (12 * s) k)) 89 (rkB (μ 89) b (12 * s) k)) = some (1, zrow (zrow μ 88 (rowB (μ 88) b (12 * s) 12)) 89 (rkB (μ 89) b (12 * s) 12)))
      (by rw [e_M_order_79, cT (by omega)])
      (by
        intro k hk ih
        have hl := ordP_l hgood hk
        obtain ⟨l, hl2⟩ : ∃ l : Nat, b k = (l : Int) := ⟨(b k).toNat, by omega⟩
        have h93 : ∀ g h : Row, zrow (zrow μ 88 g) 89 h 93 k = (l : Int) := fun g h => by
          rw [zrow_ne (by omega), zrow_ne (by omega), hsg k hk]; unfold sgn; rw [if_pos (by omega), hl2]
        rw [e_M_order_79, cF (by omega), gI_ok (by omega) (by omega), zi12 (by omega) (by omega), gI_ok (by omega) (by omega)]
        simp -implicitDefEqProofs only [Int.toNat_natCast, h93]
        rw [gI_ok (by omega) (by omega), zi12 (by omega) (by omega), gI_ok (by omega) (by omega), zwc (by omega)]
        simp -implicitDefEqProofs only [Int.toNat_natCast]
        have e1 : zup (zup (zrow (zrow μ 88 (rowB (μ 88) b (12 * s) k)) 89 (rkB (μ 89) b (12 * s) k)) 88 (12 * s + k) (l : Int)) 89 (12 * s + l) (k : Int) = zrow (zrow μ 88 (rowB (μ 88) b (12 * s) (k + 1))) 89 (rkB (μ 89) b (12 * s) (k + 1)) := by
          have e2 : rowB (μ 88) b (12 * s) (k + 1) = rup (rowB (μ 88) b (12 * s) k) (12 * s + k) (l : Int) := by
            show rup _ (12 * s + k) (b k) = _
            rw [hl2]
          have e3 : rkB (μ 89) b (12 * s) (k + 1) = rup (rkB (μ 89) b (12 * s) k) (12 * s + l) (k : Int) := by
            show rup _ (12 * s + (b k).toNat) (k : Int) = _
            rw [hl2, Int.toNat_natCast]
          rw [e2, e3, zupr (a := 88), zrow_ne (a := 89) (b := 88) (by omega), zrow_same, zrow_comm (a := 89) (b := 88) (by omega), zrow_zrow, zupr, zrow_same, zrow_zrow]
        rw [e1]
        exact ih)
    have H := down (n := 12) (P := fun k => f_M_order_27 z e (s : Int) ((seenS b k : Nat) : Int) (k : Int) μ = some (1, zrow (zrow μ 88 (rowB (μ 88) b (12 * s) 12)) 89 (rkB (μ 89) b (12 * s) 12)))
      (by
        rw [e_M_order_27, cT (by omega)]
        have H20 := H2 0 (by omega)
        have e4 : zrow (zrow μ 88 (rowB (μ 88) b (12 * s) 0)) 89 (rkB (μ 89) b (12 * s) 0) = μ := by
          have e5 : rowB (μ 88) b (12 * s) 0 = μ 88 := rfl
          have e6 : rkB (μ 89) b (12 * s) 0 = μ 89 := rfl
          rw [e5, zrow_id, e6, zrow_id]
        rw [e4] at H20
        exact H20)
      (by
        intro k hk ih
        rw [hstep k hk (hpre k (by omega)), (allb_iff _ _).mp hgood k hk]
        exact ih)
    exact H 0 (by omega)
