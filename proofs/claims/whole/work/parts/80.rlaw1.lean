/-! the reference reads a law's text: its state, its small methods -/
def UQ (μ : Mu) (st wt : Row) (p q s o m : Int) : Mu := fun a k => if a = 98 then st k else if a = 99 then wt k else if a = 86 then (if k = 10 then p else if k = 24 then q else if k = 25 then s else if k = 23 then o else if k = 13 then m else μ 86 k) else μ a k
theorem UQ_10 {μ : Mu} {st wt : Row} {p q s o m : Int} : UQ μ st wt p q s o m 86 10 = p := rfl
theorem UQ_24 {μ : Mu} {st wt : Row} {p q s o m : Int} : UQ μ st wt p q s o m 86 24 = q := rfl
theorem UQ_25 {μ : Mu} {st wt : Row} {p q s o m : Int} : UQ μ st wt p q s o m 86 25 = s := rfl
theorem UQ_23 {μ : Mu} {st wt : Row} {p q s o m : Int} : UQ μ st wt p q s o m 86 23 = o := rfl
theorem UQ_13 {μ : Mu} {st wt : Row} {p q s o m : Int} : UQ μ st wt p q s o m 86 13 = m := rfl
theorem UQ_98 {μ : Mu} {st wt : Row} {p q s o m : Int} : UQ μ st wt p q s o m 98 = st := by funext k; unfold UQ; rw [if_pos rfl]
theorem UQ_99 {μ : Mu} {st wt : Row} {p q s o m : Int} : UQ μ st wt p q s o m 99 = wt := by funext k; unfold UQ; rw [if_neg (by decide), if_pos rfl]
theorem UQ_o {μ : Mu} {st wt : Row} {p q s o m : Int} {a : Nat} (h1 : a ≠ 86) (h2 : a ≠ 98) (h3 : a ≠ 99) : UQ μ st wt p q s o m a = μ a := by funext k; unfold UQ; rw [if_neg h2, if_neg h3, if_neg h1]
theorem UQ_k {μ : Mu} {st wt : Row} {p q s o m : Int} {k : Nat} (h1 : k ≠ 10) (h2 : k ≠ 24) (h3 : k ≠ 25) (h4 : k ≠ 23) (h5 : k ≠ 13) : UQ μ st wt p q s o m 86 k = μ 86 k := by unfold UQ; rw [if_neg (by decide), if_neg (by decide), if_pos rfl, if_neg h1, if_neg h2, if_neg h3, if_neg h4, if_neg h5]
theorem UQ_id {μ : Mu} : UQ μ (μ 98) (μ 99) (μ 86 10) (μ 86 24) (μ 86 25) (μ 86 23) (μ 86 13) = μ := by
  funext a k
  unfold UQ
  repeat' split
  all_goals simp_all
theorem UQ_u10 {μ : Mu} {st wt : Row} {p q s o m v : Int} : zup (UQ μ st wt p q s o m) 86 10 v = UQ μ st wt v q s o m := by
  funext a k
  unfold zup UQ
  by_cases ha : a = 86 <;> by_cases hk : k = 10 <;> simp [ha, hk]
theorem UQ_u24 {μ : Mu} {st wt : Row} {p q s o m v : Int} : zup (UQ μ st wt p q s o m) 86 24 v = UQ μ st wt p v s o m := by
  funext a k
  unfold zup UQ
  by_cases ha : a = 86 <;> by_cases hk : k = 24 <;> simp [ha, hk]
theorem UQ_u25 {μ : Mu} {st wt : Row} {p q s o m v : Int} : zup (UQ μ st wt p q s o m) 86 25 v = UQ μ st wt p q v o m := by
  funext a k
  unfold zup UQ
  by_cases ha : a = 86 <;> by_cases hk : k = 25 <;> simp [ha, hk]
theorem UQ_u23 {μ : Mu} {st wt : Row} {p q s o m v : Int} : zup (UQ μ st wt p q s o m) 86 23 v = UQ μ st wt p q s v m := by
  funext a k
  unfold zup UQ
  by_cases ha : a = 86 <;> by_cases hk : k = 23 <;> simp [ha, hk]
theorem UQ_u13 {μ : Mu} {st wt : Row} {p q s o m v : Int} : zup (UQ μ st wt p q s o m) 86 13 v = UQ μ st wt p q s o v := by
  funext a k
  unfold zup UQ
  by_cases ha : a = 86 <;> by_cases hk : k = 13 <;> simp [ha, hk]
theorem UQ_u98 {μ : Mu} {st wt : Row} {p q s o m v : Int} {i : Nat} : zup (UQ μ st wt p q s o m) 98 i v = UQ μ (rup st i v) wt p q s o m := by
  funext a k
  unfold zup UQ rup
  by_cases ha : a = 98 <;> by_cases hk : k = i <;> simp [ha, hk]
theorem UQ_u99 {μ : Mu} {st wt : Row} {p q s o m v : Int} {i : Nat} : zup (UQ μ st wt p q s o m) 99 i v = UQ μ st (rup wt i v) p q s o m := by
  funext a k
  unfold zup UQ rup
  by_cases ha : a = 99 <;> by_cases hk : k = i <;> simp [ha, hk]
def CX (μ : Mu) (b : Row) (n : Nat) : Prop := μ 86 11 = (n : Int) ∧ n ≤ 200 ∧ tpe μ b
theorem CX_U {μ : Mu} {b st wt : Row} {n : Nat} {p q s o m : Int} (h : CX μ b n) : tpe (UQ μ st wt p q s o m) b := tpe_congr h.2.2 (UQ_o (by omega) (by omega) (by omega))
theorem CX_11 {μ : Mu} {b st wt : Row} {n : Nat} {p q s o m : Int} (h : CX μ b n) : UQ μ st wt p q s o m 86 11 = (n : Int) := by rw [UQ_k (by omega) (by omega) (by omega) (by omega) (by omega)]; exact h.1
theorem u_here {z : zZ} {d p n : Nat} {b st wt : Row} {q s o m : Int} {μ : Mu} (hd : 1 ≤ d) (hx : CX μ b n) : mC z d 193 [(2, 86)] (UQ μ st wt (p : Int) q s o m) = some (tx b n p, UQ μ st wt (p : Int) q s o m) := t_here hd UQ_10 (CX_11 hx) (by have := hx.2.1; omega) (CX_U hx)
theorem u_isDigit {z : zZ} {d p n : Nat} {b st wt : Row} {q s o m : Int} {μ : Mu} (hd : 2 ≤ d) (hx : CX μ b n) : mC z d 214 [(2, 86)] (UQ μ st wt (p : Int) q s o m) = some (bi (isg b n p), UQ μ st wt (p : Int) q s o m) := t_isDigit hd UQ_10 (CX_11 hx) (by have := hx.2.1; omega) (CX_U hx)
def wtop (wt : Row) (s : Nat) : Int := if s = 0 then -1 else z_div (wt (s - 1)) 1048576
theorem wtop_s {wt : Row} {s t v : Nat} (ht : t < 100) (hv : v < 1048576) (h : wt s = ((1048576 * t + v : Nat) : Int)) : wtop wt (s + 1) = (t : Int) := by
  unfold wtop
  rw [if_neg (by omega), Nat.add_sub_cancel, h, cod_op ht hv]
theorem wtop_congr {wt wt' : Row} {s : Nat} (h : ∀ j, j < s → wt' j = wt j) : wtop wt' s = wtop wt s := by
  unfold wtop
  by_cases hs : s = 0
  · rw [if_pos hs, if_pos hs]
  · rw [if_neg hs, if_neg hs, h (s - 1) (by omega)]
theorem u_waitTop {z : zZ} {d s : Nat} {st wt : Row} {p q o m : Int} {μ : Mu} (hd : 1 ≤ d) (hs : s ≤ 220) : mC z d 220 [(2, 86)] (UQ μ st wt p q (s : Int) o m) = some (wtop wt s, UQ μ st wt p q (s : Int) o m) := by
  obtain ⟨e, rfl, he⟩ := pred_of hd
  unfold wtop
  rw [c_M_waitTop, UQ_25, UQ_99]
  by_cases h : s = 0
  · rw [nT (by omega), if_pos h, e_M_waitTop_26]
  · rw [nF (by omega), if_neg h, show zw ((s : Int) - 1) = ((s - 1 : Nat) : Int) by rw [zw_id (by omega) (by omega)]; omega, gI_ok (by omega) (by omega), Int.toNat_natCast, e_M_waitTop_26]
theorem u_notes {z : zZ} {d q t v : Nat} {st wt : Row} {p s o m : Int} {μ : Mu} (hd : 1 ≤ d) (hq : q < 220) (ht : t < 100) (hv : v < 1048576) : mC z d 216 [(2, 86), (0, (t : Int)), (0, (v : Int))] (UQ μ st wt p (q : Int) s o m) = some (0, UQ μ (rup st q ((1048576 * t + v : Nat) : Int)) wt p ((q + 1 : Nat) : Int) s o m) := by
  obtain ⟨e, rfl, he⟩ := pred_of hd
  rw [c_M_notes, UQ_24, gI_ok (by omega) (by omega), Int.toNat_natCast, UQ_u98, UQ_u24, zwc (by omega), show zw (zw (1048576 * (t : Int)) + (v : Int)) = ((1048576 * t + v : Nat) : Int) by rw [zw_id (x := 1048576 * (t : Int)) (by omega) (by omega), zw_id (by omega) (by omega)]; omega]
theorem u_notes0 {z : zZ} {d q t : Nat} {st wt : Row} {p s o m : Int} {μ : Mu} (hd : 1 ≤ d) (hq : q < 220) (ht : t < 100) : mC z d 216 [(2, 86), (0, (t : Int)), (0, 0)] (UQ μ st wt p (q : Int) s o m) = some (0, UQ μ (rup st q ((1048576 * t : Nat) : Int)) wt p ((q + 1 : Nat) : Int) s o m) := u_notes (v := 0) hd hq ht (by decide)
theorem u_opens {z : zZ} {d p s o t : Nat} {st wt : Row} {q m : Int} {μ : Mu} (hd : 1 ≤ d) (ho : o < 6) (hs : s < 220) (hp : p < 1000) (ht : t < 100) : mC z d 213 [(2, 86), (0, (t : Int))] (UQ μ st wt (p : Int) q (s : Int) (o : Int) m) = some (1, UQ μ st (rup wt s ((1048576 * t : Nat) : Int)) ((p + 1 : Nat) : Int) q ((s + 1 : Nat) : Int) ((o + 1 : Nat) : Int) m) := by
  obtain ⟨e, rfl, he⟩ := pred_of hd
  rw [c_M_opens, UQ_23, nF (by omega), UQ_25, UQ_10, UQ_u23, UQ_u99, UQ_u25, UQ_u10, gI_ok (by omega) (by omega), Int.toNat_natCast, zwc (by omega), zwc (by omega), zwc (by omega), show zw (1048576 * (t : Int)) = ((1048576 * t : Nat) : Int) by rw [zw_id (by omega) (by omega)]; omega]
theorem u_opensNo {z : zZ} {d p : Nat} {t : Int} {st wt : Row} {q s m : Int} {μ : Mu} (hd : 2 ≤ d) (hp : p ≤ 1000) : mC z d 213 [(2, 86), (0, t)] (UQ μ st wt (p : Int) q s 6 m) = some (0, zup (UQ μ st wt (p : Int) q s 6 m) 86 12 (-5000 - (p : Int))) := by
  obtain ⟨e, rfl, he⟩ := pred_of hd
  rw [c_M_opens, UQ_23, nT rfl, UQ_10, t_wrongAt he (by omega) (by omega)]
  simp -implicitDefEqProofs only [ob]
  rw [g01_ok (Or.inl rfl), show (-1000 * 5 - (p : Int)) = -5000 - (p : Int) by omega]
def ssg (c : Int) : Int := if 2 ≤ sgs c ∧ sgs c ≤ 6 then (sgs c : Int) else -1
theorem t_sumSign {z : zZ} {d : Nat} {c : Int} {μ : Mu} (hd : 1 ≤ d) : mC z d 218 [(0, c)] μ = some (ssg c, μ) := by
  obtain ⟨e, rfl, he⟩ := pred_of hd
  rw [c_M_sumSign]
  by_cases h1 : c = 43
  · rw [nT h1, e_M_sumSign_52, h1]; rfl
  rw [nF h1]
  by_cases h2 : c = 45
  · rw [nT h2, e_M_sumSign_52, h2]; rfl
  rw [nF h2]
  by_cases h3 : c = 42
  · rw [nT h3, e_M_sumSign_52, h3]; rfl
  rw [nF h3]
  by_cases h4 : c = 47
  · rw [nT h4, e_M_sumSign_52, h4]; rfl
  rw [nF h4]
  by_cases h5 : c = 37
  · rw [nT h5, e_M_sumSign_52, h5]; rfl
  rw [nF h5, e_M_sumSign_51, e_M_sumSign_52]
  have : ¬ (2 ≤ sgs c ∧ sgs c ≤ 6) := by
    unfold sgs
    rw [if_neg h1, if_neg h2, if_neg h3, if_neg h4, if_neg h5]
    repeat' split
    all_goals omega
  unfold ssg
  rw [if_neg this]
theorem t_factOf {z : zZ} {d : Nat} {c : Int} {μ : Mu} (hd : 1 ≤ d) : mC z d 217 [(0, c)] μ = some (tlx c, μ) := by
  obtain ⟨e, rfl, he⟩ := pred_of hd
  rw [c_M_factOf]
  by_cases h104 : c = 104
  · rw [cT h104, e_M_factOf_106, h104]
    rfl
  rw [cF h104]
  by_cases h105 : c = 105
  · rw [cT h105, e_M_factOf_90, h105]
    rfl
  rw [cF h105]
  by_cases h106 : c = 106
  · rw [cT h106, e_M_factOf_112, h106]
    rfl
  rw [cF h106]
  by_cases h107 : c = 107
  · rw [cT h107, e_M_factOf_112, h107]
    rfl
  rw [cF h107]
  by_cases h108 : c = 108
  · rw [cT h108, e_M_factOf_112, h108]
    rfl
  rw [cF h108]
  by_cases h109 : c = 109
  · rw [cT h109, e_M_factOf_92, h109]
    rfl
  rw [cF h109]
  by_cases h110 : c = 110
  · rw [cT h110, e_M_factOf_96, h110]
    rfl
  rw [cF h110]
  by_cases h111 : c = 111
  · rw [cT h111, e_M_factOf_112, h111]
    rfl
  rw [cF h111]
  by_cases h112 : c = 112
  · rw [cT h112, e_M_factOf_112, h112]
    rfl
  rw [cF h112]
  by_cases h113 : c = 113
  · rw [cT h113, e_M_factOf_98, h113]
    rfl
  rw [cF h113]
  by_cases h114 : c = 114
  · rw [cT h114, e_M_factOf_100, h114]
    rfl
  rw [cF h114]
  by_cases h115 : c = 115
  · rw [cT h115, e_M_factOf_94, h115]
    rfl
  rw [cF h115]
  by_cases h116 : c = 116
  · rw [cT h116, e_M_factOf_88, h116]
    rfl
  rw [cF h116]
  by_cases h117 : c = 117
  · rw [cT h117, e_M_factOf_112, h117]
    rfl
  rw [cF h117]
  by_cases h118 : c = 118
  · rw [cT h118, e_M_factOf_112, h118]
    rfl
  rw [cF h118]
  by_cases h119 : c = 119
  · rw [cT h119, e_M_factOf_112, h119]
    rfl
  rw [cF h119]
  by_cases h120 : c = 120
  · rw [cT h120, e_M_factOf_103, h120]
    rfl
  rw [cF h120]
  by_cases h121 : c = 121
  · rw [cT h121, e_M_factOf_109, h121]
    rfl
  rw [cF h121]
  rw [e_M_factOf_112]
  unfold tlx
  rw [if_neg h116, if_neg h105, if_neg h109, if_neg h115, if_neg h110, if_neg h113, if_neg h114, if_neg h120, if_neg h104, if_neg h121]
/-- a number of the text -/
theorem t_readsNumber {z : zZ} {d p n : Nat} {b st wt : Row} {q s o m : Int} {μ : Mu} (hd : 3 ≤ d) (hx : CX μ b n) (hp : p ≤ n) (hg : isg b n p = true) : mC z d 215 [(2, 86)] (UQ μ st wt (p : Int) q s o m) = (if dgn b n p = 6 then some (0, zup (UQ μ st wt ((p + 5 : Nat) : Int) q s o ((dgv b p 5 : Nat) : Int)) 86 12 (-2000 - ((p + 5 : Nat) : Int))) else some (1, UQ μ st wt ((p + dgn b n p : Nat) : Int) q s o ((dgv b p (dgn b n p) : Nat) : Int))) := by
  obtain ⟨e, rfl, he⟩ := pred_of hd
  have hn := hx.2.1
  have hall : ∀ k, k < dgn b n p → isg b n (p + k) = true := fun k hk => wl9_all (isg b n) 6 p k hk
  have hend : dgn b n p < 6 → isg b n (p + dgn b n p) = false := fun h => wl9_end (isg b n) 6 p h
  have h6 : dgn b n p ≤ 6 := wl9_le (isg b n) 6 p
  have hbv : ∀ k, k ≤ dgn b n p → k ≤ 5 → dgv b p k < 100000 := by
    intro k hk h5
    have q1 := dgv_lt (b := b) (p := p) k (fun j hj => isg_b (hall j (by omega)))
    have q2 : 10 ^ k ≤ 10 ^ 5 := Nat.pow_le_pow_right (by decide) h5
    omega
  rw [c_M_readsNumber, UQ_10, UQ_u13]
  have hz5 : zw ((p : Int) + 5) = ((p + 5 : Nat) : Int) := by rw [zw_id (by omega) (by omega)]; omega
  have H := down (n := if dgn b n p = 6 then 5 else dgn b n p) (P := fun k => f_M_readsNumber_10 z e (p : Int) (UQ μ st wt ((p + k : Nat) : Int) q s o ((dgv b p k : Nat) : Int)) = (if dgn b n p = 6 then some (0, zup (UQ μ st wt ((p + 5 : Nat) : Int) q s o ((dgv b p 5 : Nat) : Int)) 86 12 (-2000 - ((p + 5 : Nat) : Int))) else some (1, UQ μ st wt ((p + dgn b n p : Nat) : Int) q s o ((dgv b p (dgn b n p) : Nat) : Int))))
    (by
      by_cases h : dgn b n p = 6
      · simp only [if_pos h]
        rw [e_M_readsNumber_10, u_isDigit (by omega) hx, hall 5 (by omega)]
        simp -implicitDefEqProofs only [ob]
        rw [bi_t, cF (by decide), nT (by rw [UQ_10, hz5]), UQ_10, t_wrongAt (by omega) (by omega) (by omega)]
        simp -implicitDefEqProofs only [ob]
        rw [g01_ok (Or.inl rfl), show (-1000 * 2 - ((p + 5 : Nat) : Int)) = -2000 - ((p + 5 : Nat) : Int) by omega]
      · simp only [if_neg h]
        rw [e_M_readsNumber_10, u_isDigit (by omega) hx, hend (by omega)]
        simp -implicitDefEqProofs only [ob]
        rw [bi_f, cT rfl])
    (by
      intro k hk ih
      have hk5 : k < 5 := by split at hk <;> omega
      have hkd : k < dgn b n p := by split at hk <;> omega
      have hyes := hall k hkd
      have hlt := isg_lt hyes
      have hbk := isg_b hyes
      have hvk := hbv k (by omega) (by omega)
      rw [e_M_readsNumber_10, u_isDigit (by omega) hx, hyes]
      simp -implicitDefEqProofs only [ob]
      rw [bi_t, cF (by decide), nF (by rw [UQ_10, hz5]; omega), u_here (by omega) hx]
      simp -implicitDefEqProofs only [ob]
      rw [UQ_13, UQ_10, UQ_u13, UQ_u10, tx_in hlt, zwc (by omega), Int.mul_comm 10, dgv_step hvk hbk.1 hbk.2]
      exact ih)
  have H0 := H 0 (by omega)
  exact H0
/-- is a sum open from a place of the stack on -/
def hos (wt : Row) (v s : Nat) : Prop := ∃ k, v ≤ k ∧ k < s ∧ z_div (wt k) 1048576 = 14
theorem u_hosgo {z : zZ} {e s : Nat} {st wt : Row} {p q o m : Int} {μ : Mu} (hs : s ≤ 220) : ∀ j v, j + v = s → (hos wt v s → f_M_hasOpenSum_2 z e (v : Int) (UQ μ st wt p q (s : Int) o m) = some (1, UQ μ st wt p q (s : Int) o m)) ∧ (¬ hos wt v s → f_M_hasOpenSum_2 z e (v : Int) (UQ μ st wt p q (s : Int) o m) = some (0, UQ μ st wt p q (s : Int) o m)) := by
  intro j
  induction j with
  | zero =>
    intro v hv
    refine ⟨fun h => ?_, fun h => ?_⟩
    · obtain ⟨k, h1, h2, _⟩ := h
      omega
    · rw [e_M_hasOpenSum_2, UQ_25, cT (by omega)]
  | succ j ih =>
    intro v hv
    have hi := ih (v + 1) (by omega)
    rw [e_M_hasOpenSum_2, UQ_25, cF (by omega), gI_ok (by omega) (by omega), Int.toNat_natCast, UQ_99, zwc (by omega)]
    by_cases h14 : z_div (wt v) 1048576 = 14
    · rw [nT h14]
      exact ⟨fun _ => rfl, fun h => absurd ⟨v, Nat.le_refl _, by omega, h14⟩ h⟩
    · rw [nF h14]
      refine ⟨fun h => hi.1 ?_, fun h => hi.2 ?_⟩
      · obtain ⟨k, h1, h2, h3⟩ := h
        have : k ≠ v := by intro q; subst q; exact h14 h3
        exact ⟨k, by omega, h2, h3⟩
      · intro h'
        obtain ⟨k, h1, h2, h3⟩ := h'
        exact h ⟨k, by omega, h2, h3⟩
theorem u_hosY {z : zZ} {d v s : Nat} {st wt : Row} {p q o m : Int} {μ : Mu} (hd : 1 ≤ d) (hs : s ≤ 220) (h : hos wt v s) : mC z d 221 [(2, 86), (0, (v : Int))] (UQ μ st wt p q (s : Int) o m) = some (1, UQ μ st wt p q (s : Int) o m) := by
  obtain ⟨e, rfl, he⟩ := pred_of hd
  obtain ⟨k, h1, h2, h3⟩ := id h
  rw [c_M_hasOpenSum]
  exact (u_hosgo hs (s - v) v (by omega)).1 h
theorem u_hosN {z : zZ} {d v s : Nat} {st wt : Row} {p q o m : Int} {μ : Mu} (hd : 1 ≤ d) (hs : s ≤ 220) (hv : v ≤ s) (h : ¬ hos wt v s) : mC z d 221 [(2, 86), (0, (v : Int))] (UQ μ st wt p q (s : Int) o m) = some (0, UQ μ st wt p q (s : Int) o m) := by
  obtain ⟨e, rfl, he⟩ := pred_of hd
  rw [c_M_hasOpenSum]
  exact (u_hosgo hs (s - v) v (by omega)).2 h
/-- signs that wait are noted -/
def pnd (wt : Row) (s : Nat) : List Nat → Prop
  | [] => True
  | t :: P => wt (s + P.length) = ((1048576 * t : Nat) : Int) ∧ pnd wt s P
def emit (st : Row) (q : Nat) : List Nat → Row
  | [] => st
  | t :: P => emit (rup st q ((1048576 * t : Nat) : Int)) (q + 1) P
theorem emit_lo : ∀ (P : List Nat) (st : Row) (q j : Nat), j < q → emit st q P j = st j
  | [], _, _, _, _ => rfl
  | t :: P, st, q, j, h => by
    show emit _ (q + 1) P j = _
    rw [emit_lo P _ (q + 1) j (by omega), rup_ne (by omega)]
theorem emit_app : ∀ (P R : List Nat) (st : Row) (q : Nat), emit st q (P ++ R) = emit (emit st q P) (q + P.length) R
  | [], _, _, _ => rfl
  | t :: P, R, st, q => by
    show emit _ (q + 1) (P ++ R) = emit (emit _ (q + 1) P) (q + (P.length + 1)) R
    rw [emit_app P R _ (q + 1)]
    congr 1
    omega
theorem pnd_congr {wt wt' : Row} {s : Nat} : ∀ P : List Nat, (∀ j, j < s + P.length → wt' j = wt j) → pnd wt s P → pnd wt' s P
  | [], _, _ => trivial
  | t :: P, h, hp => by
    have hl : (t :: P).length = P.length + 1 := rfl
    exact ⟨by rw [h _ (by omega)]; exact hp.1, pnd_congr P (fun j hj => h j (by omega)) hp.2⟩
theorem pnd_app {wt : Row} {s t : Nat} (h : wt s = ((1048576 * t : Nat) : Int)) : ∀ P : List Nat, pnd wt (s + 1) P → pnd wt s (P ++ [t])
  | [], _ => ⟨h, trivial⟩
  | x :: P, hp => by
    have hl : (P ++ [t]).length = P.length + 1 := by simp
    refine ⟨?_, pnd_app h P hp.2⟩
    show wt (s + (P ++ [t]).length) = _
    rw [hl, show s + (P.length + 1) = s + 1 + P.length by omega]
    exact hp.1
def stp (v : Int) (wt : Row) (s : Nat) : Prop := ¬ (4 ≤ wtop wt s ∧ wtop wt s ≤ 6) ∧ ¬ (v = 1 ∧ (wtop wt s = 2 ∨ wtop wt s = 3))
theorem stp_congr {v : Int} {wt wt' : Row} {s : Nat} (h : ∀ j, j < s → wt' j = wt j) (hs : stp v wt s) : stp v wt' s := by
  unfold stp at hs ⊢
  rw [wtop_congr h]
  exact hs
theorem u_closego {z : zZ} {e : Nat} {v : Int} {p o m : Int} {μ : Mu} (he : 2 ≤ e) (hv : v = 0 ∨ v = 1) : ∀ (P : List Nat) (st wt : Row) (q s : Nat), pnd wt s P → (∀ t, t ∈ P → 2 ≤ t ∧ t ≤ 6 ∧ (v = 0 → 4 ≤ t)) → stp v wt s → q + P.length ≤ 220 → s + P.length ≤ 220 → f_M_closesSums_0 z e v (UQ μ st wt p (q : Int) ((s + P.length : Nat) : Int) o m) = some (0, UQ μ (emit st q P) wt p ((q + P.length : Nat) : Int) (s : Int) o m)
  | [], st, wt, q, s, hp, ht, hs, hq, hs2 => by
    have hl : s + ([] : List Nat).length = s := rfl
    have hl2 : q + ([] : List Nat).length = q := rfl
    rw [hl] at hs2 ⊢
    rw [hl2]
    have h17 : f_M_closesSums_17 z e v (UQ μ st wt p (q : Int) (s : Int) o m) = some (0, UQ μ st wt p (q : Int) (s : Int) o m) := by
      rw [e_M_closesSums_17, e_M_closesSums_59, u_waitTop (by omega) hs2]
      simp -implicitDefEqProofs only [ob]
      rcases hv with h | h
      · rw [cT h]
      · rw [cF (by omega), cF (fun h2 => hs.2 ⟨h, Or.inl h2⟩), u_waitTop (by omega) hs2]
        simp -implicitDefEqProofs only [ob]
        rw [nF (fun h2 => hs.2 ⟨h, Or.inr h2⟩), e_M_closesSums_59]
    rw [e_M_closesSums_0, u_waitTop (by omega) hs2]
    simp -implicitDefEqProofs only [ob]
    by_cases h4 : wtop wt s < 4
    · rw [cT h4, h17]
      rfl
    · rw [cF h4, u_waitTop (by omega) hs2]
      simp -implicitDefEqProofs only [ob]
      rw [cF (fun h6 => hs.1 ⟨by omega, h6⟩), h17]
      rfl
  | t :: P, st, wt, q, s, hp, ht, hs, hq, hs2 => by
    have hl : (t :: P).length = P.length + 1 := rfl
    rw [hl] at hq hs2 ⊢
    obtain ⟨t2, t6, t4⟩ := ht t (List.mem_cons_self ..)
    have hw : wtop wt (s + (P.length + 1)) = (t : Int) := wtop_s (s := s + P.length) (v := 0) (by omega) (by decide) hp.1
    have h37 : f_M_closesSums_37 z e v (UQ μ st wt p (q : Int) ((s + (P.length + 1) : Nat) : Int) o m) = some (0, UQ μ (emit st q (t :: P)) wt p ((q + (P.length + 1) : Nat) : Int) (s : Int) o m) := by
      rw [e_M_closesSums_37, u_waitTop (by omega) hs2, hw]
      simp -implicitDefEqProofs only [ob]
      rw [u_notes0 (by omega) (by omega) (by omega)]
      simp -implicitDefEqProofs only [ob]
      rw [UQ_25, UQ_u25, show zw (((s + (P.length + 1) : Nat) : Int) - 1) = ((s + P.length : Nat) : Int) by rw [zw_id (by omega) (by omega)]; omega, u_closego he hv P _ wt (q + 1) s hp.2 (fun x hx => ht x (List.mem_cons_of_mem _ hx)) hs (by omega) (by omega)]
      rw [show q + 1 + P.length = q + (P.length + 1) by omega]
      rfl
    rw [e_M_closesSums_0, u_waitTop (by omega) hs2, hw]
    simp -implicitDefEqProofs only [ob]
    by_cases h4 : (t : Int) < 4
    · have hv1 : v = 1 := by
        rcases hv with h | h
        · have := t4 h; omega
        · exact h
      rw [cT h4, e_M_closesSums_17, cF (by omega), u_waitTop (by omega) hs2, hw]
      simp -implicitDefEqProofs only [ob]
      by_cases h2 : (t : Int) = 2
      · rw [cT h2, h37]
      · rw [cF h2, u_waitTop (by omega) hs2, hw]
        simp -implicitDefEqProofs only [ob]
        rw [nT (by omega), h37]
    · rw [cF h4, u_waitTop (by omega) hs2, hw]
      simp -implicitDefEqProofs only [ob]
      rw [cT (by omega), h37]
theorem u_close {z : zZ} {d q s : Nat} {v p o m : Int} {P : List Nat} {st wt : Row} {μ : Mu} (hd : 3 ≤ d) (hv : v = 0 ∨ v = 1) (hp : pnd wt s P) (ht : ∀ t, t ∈ P → 2 ≤ t ∧ t ≤ 6 ∧ (v = 0 → 4 ≤ t)) (hs : stp v wt s) (hq : q + P.length ≤ 220) (hs2 : s + P.length ≤ 220) : mC z d 219 [(2, 86), (0, v)] (UQ μ st wt p (q : Int) ((s + P.length : Nat) : Int) o m) = some (0, UQ μ (emit st q P) wt p ((q + P.length : Nat) : Int) (s : Int) o m) := by
  obtain ⟨e, rfl, he⟩ := pred_of hd
  rw [c_M_closesSums, ← e_M_closesSums_0]
  exact u_closego he hv P st wt q s hp ht hs hq hs2
