/-! the reference reads a law's text: sums -/
theorem cdR_congr4 {b : Row} {n to : Nat} : ∀ (f m o p base tgt : Nat) (st st' : Row), m ≤ 4 → (∀ j, base ≤ j → j < base + ln b n f m o p → st' j = st j) → cdR b st n to f m o p base tgt → cdR b st' n to f m o p base tgt := by
  intro f
  induction f with
  | zero => intro m o p base tgt st st' _ _ h; exact absurd h (by simp [cdR])
  | succ f ih =>
    intro m o p base tgt st st' hm h hc
    by_cases m0 : m = 0
    · subst m0
      simp only [cdR, ln, if_true] at h hc ⊢
      exact ⟨ih _ _ _ _ _ st st' (by omega) (fun j h1 h2 => h j h1 (by omega)) hc.1, ih _ _ _ _ _ st st' (by omega) (fun j h1 h2 => h j (by omega) (by omega)) hc.2⟩
    by_cases m1 : m = 1
    · subst m1
      simp only [cdR, ln, Nat.one_ne_zero, if_false, if_true] at h hc ⊢
      by_cases hs : tx b n p = 43 ∨ tx b n p = 45
      · simp only [if_pos hs] at h hc ⊢
        exact ⟨ih _ _ _ _ _ st st' (by omega) (fun j h1 h2 => h j h1 (by omega)) hc.1, by rw [h _ (by omega) (by omega)]; exact hc.2.1, ih _ _ _ _ _ st st' (by omega) (fun j h1 h2 => h j (by omega) (by omega)) hc.2.2⟩
      · simp only [if_neg hs]
    by_cases m2 : m = 2
    · subst m2
      simp only [cdR, ln, Nat.reduceEqDiff, if_false, if_true] at h hc ⊢
      exact ⟨ih _ _ _ _ _ st st' (by omega) (fun j h1 h2 => h j h1 (by omega)) hc.1, ih _ _ _ _ _ st st' (by omega) (fun j h1 h2 => h j (by omega) (by omega)) hc.2⟩
    by_cases m3 : m = 3
    · subst m3
      simp only [cdR, ln, Nat.reduceEqDiff, if_false, if_true] at h hc ⊢
      by_cases hs : tx b n p = 42 ∨ tx b n p = 47 ∨ tx b n p = 37
      · simp only [if_pos hs] at h hc ⊢
        exact ⟨ih _ _ _ _ _ st st' (by omega) (fun j h1 h2 => h j h1 (by omega)) hc.1, by rw [h _ (by omega) (by omega)]; exact hc.2.1, ih _ _ _ _ _ st st' (by omega) (fun j h1 h2 => h j (by omega) (by omega)) hc.2.2⟩
      · simp only [if_neg hs]
    have m4 : m = 4 := by omega
    subst m4
    simp only [cdR, ln, Nat.reduceEqDiff, if_false, if_true] at h hc ⊢
    by_cases h91 : tx b n p = 91
    · simp only [if_pos h91] at h hc ⊢
      exact ih _ _ _ _ _ st st' (by omega) h hc
    · simp only [if_neg h91] at h hc ⊢
      by_cases hg : isg b n p = true
      · simp only [if_pos hg] at hc ⊢
        exact ⟨hc.1, by rw [h _ (by omega) (by omega)]; exact hc.2⟩
      · simp only [if_neg hg] at hc ⊢
        exact ⟨hc.1, by rw [h _ (by omega) (by omega)]; exact hc.2⟩
def RF1 (μ : Mu) (x : mR) (F : Int) : Prop := ∃ (st wt : Row) (p q s o m : Int), x = some (0, zup (UQ μ st wt p q s o m) 86 12 F)
noncomputable def Lp (z : zZ) (e v : Nat) (X : Mu) : mR := f_M_readsSum_14 z e (v : Int) X
noncomputable def Kf (z : zZ) (e v : Nat) (X : Mu) : mR := (mC z e 212 [(2, 86)] X).bind fun q1 => (bif !decide (q1.1 = 0) then Lp z e v q1.2 else (some (0, q1.2)))
theorem Kf_1 {z : zZ} {e v : Nat} {X M : Mu} (h : mC z e 212 [(2, 86)] X = some (1, M)) : Kf z e v X = Lp z e v M := by
  unfold Kf
  rw [h]
  rfl
theorem Kf_0 {z : zZ} {e v : Nat} {X M : Mu} (h : mC z e 212 [(2, 86)] X = some (0, M)) : Kf z e v X = some (0, M) := by
  unfold Kf
  rw [h]
  rfl
/-- a bracket that opens -/
theorem K_open {z : zZ} {e v n p s o : Nat} {b st wt : Row} {q m : Int} {μ : Mu} (he : 2 ≤ e) (hx : CX μ b n) (h91 : tx b n p = 91) (ho : o < 6) (hs : s < 220) (hp : p ≤ n) : Kf z e v (UQ μ st wt (p : Int) q (s : Int) (o : Int) m) = Kf z e v (UQ μ st (rup wt s ((1048576 * 14 : Nat) : Int)) ((p + 1 : Nat) : Int) q ((s + 1 : Nat) : Int) ((o + 1 : Nat) : Int) m) := by
  have hn := hx.2.1
  obtain ⟨e, rfl, he'⟩ := pred_of he
  have h1 : mC z (e + 1) 212 [(2, 86)] (UQ μ st wt (p : Int) q (s : Int) (o : Int) m) = mC z (e + 1) 212 [(2, 86)] (UQ μ st (rup wt s ((1048576 * 14 : Nat) : Int)) ((p + 1 : Nat) : Int) q ((s + 1 : Nat) : Int) ((o + 1 : Nat) : Int) m) := by
    have ho14 := u_opens (z := z) (d := e) (p := p) (s := s) (o := o) (t := 14) (st := st) (wt := wt) (q := q) (m := m) (μ := μ) (by omega) ho hs (by omega) (by omega)
    simp -implicitDefEqProofs only [Int.cast_ofNat_Int] at ho14
    rw [c_M_readsFactor, u_here (by omega) hx]
    simp -implicitDefEqProofs only [ob]
    rw [nT h91, ho14]
    simp -implicitDefEqProofs only [ob]
    rw [nF (by decide), e_M_readsFactor_0, c_M_readsFactor]
  unfold Kf
  rw [h1]
theorem K_openNo {z : zZ} {e v n p : Nat} {b st wt : Row} {q s m : Int} {μ : Mu} (he : 3 ≤ e) (hx : CX μ b n) (h91 : tx b n p = 91) (hp : p ≤ n) : Kf z e v (UQ μ st wt (p : Int) q s 6 m) = some (0, zup (UQ μ st wt (p : Int) q s 6 m) 86 12 (-5000 - (p : Int))) := by
  have hn := hx.2.1
  obtain ⟨e, rfl, he'⟩ := pred_of he
  refine Kf_0 ?_
  rw [c_M_readsFactor, u_here (by omega) hx]
  simp -implicitDefEqProofs only [ob]
  rw [nT h91, u_opensNo (by omega) (by omega)]
  simp -implicitDefEqProofs only [ob]
  rw [nTt]
theorem K_num {z : zZ} {e v n p q : Nat} {b st wt : Row} {s o m : Int} {μ : Mu} (he : 4 ≤ e) (hx : CX μ b n) (hp : p ≤ n) (hq : q < 220) (hg : isg b n p = true) : Kf z e v (UQ μ st wt (p : Int) (q : Int) s o m) = if dgn b n p = 6 then some (0, zup (UQ μ st wt ((p + 5 : Nat) : Int) (q : Int) s o ((dgv b p 5 : Nat) : Int)) 86 12 (-2000 - ((p + 5 : Nat) : Int))) else Lp z e v (UQ μ (rup st q ((dgv b p (dgn b n p) : Nat) : Int)) wt ((p + dgn b n p : Nat) : Int) ((q + 1 : Nat) : Int) s o ((dgv b p (dgn b n p) : Nat) : Int)) := by
  have hn := hx.2.1
  obtain ⟨e, rfl, he'⟩ := pred_of he
  have h91 : ¬ tx b n p = 91 := by
    have := of_decide_eq_true hg
    omega
  have hN := t_readsNumber (z := z) (d := e) (st := st) (wt := wt) (q := (q : Int)) (s := s) (o := o) (m := m) (by omega) hx hp hg
  by_cases h6 : dgn b n p = 6
  · rw [if_pos h6] at hN ⊢
    refine Kf_0 ?_
    rw [c_M_readsFactor, u_here (by omega) hx]
    simp -implicitDefEqProofs only [ob]
    rw [nF h91, u_isDigit (by omega) hx]
    simp -implicitDefEqProofs only [ob]
    rw [hg, bi_t, cF (by decide), hN]
    simp -implicitDefEqProofs only [ob]
    rw [nTt]
  · rw [if_neg h6] at hN ⊢
    have hv : dgv b p (dgn b n p) < 100000 := by
      have h5 : dgn b n p ≤ 5 := by have := wl9_le (isg b n) 6 p; unfold dgn at h6 ⊢; omega
      have q1 := dgv_lt (b := b) (p := p) (dgn b n p) (fun j hj => isg_b (wl9_all (isg b n) 6 p j hj))
      have q2 : 10 ^ dgn b n p ≤ 10 ^ 5 := Nat.pow_le_pow_right (by decide) h5
      omega
    have hnt := u_notes (z := z) (d := e) (q := q) (t := 0) (v := dgv b p (dgn b n p)) (st := st) (wt := wt) (p := ((p + dgn b n p : Nat) : Int)) (s := s) (o := o) (m := ((dgv b p (dgn b n p) : Nat) : Int)) (μ := μ) (by omega) hq (by omega) (by omega)
    rw [show 1048576 * 0 + dgv b p (dgn b n p) = dgv b p (dgn b n p) by omega] at hnt
    simp -implicitDefEqProofs only [Int.natCast_zero] at hnt
    refine Kf_1 ?_
    rw [c_M_readsFactor, u_here (by omega) hx]
    simp -implicitDefEqProofs only [ob]
    rw [nF h91, u_isDigit (by omega) hx]
    simp -implicitDefEqProofs only [ob]
    rw [hg, bi_t, cF (by decide), hN]
    simp -implicitDefEqProofs only [ob]
    rw [nF (by decide), e_M_readsFactor_36, UQ_13, hnt]
    rfl
theorem K_let {z : zZ} {e v n p q : Nat} {b st wt : Row} {s o m : Int} {μ : Mu} (he : 4 ≤ e) (hx : CX μ b n) (hp : p ≤ n) (hq : q < 220) (h91 : ¬ tx b n p = 91) (hg : ¬ isg b n p = true) (ht : tlx (tx b n p) ≠ -1) : Kf z e v (UQ μ st wt (p : Int) (q : Int) s o m) = Lp z e v (UQ μ (rup st q ((1048576 + (tlx (tx b n p)).toNat : Nat) : Int)) wt ((p + 1 : Nat) : Int) ((q + 1 : Nat) : Int) s o m) := by
  have hn := hx.2.1
  obtain ⟨e, rfl, he'⟩ := pred_of he
  have hg' : isg b n p = false := by simpa using hg
  have t0 := tlx_nn ht
  have t1 := tlx_lt (tx b n p)
  have hnt := u_notes (z := z) (d := e) (q := q) (t := 1) (v := (tlx (tx b n p)).toNat) (st := st) (wt := wt) (p := (p : Int)) (s := s) (o := o) (m := m) (μ := μ) (by omega) hq (by omega) (by omega)
  rw [show 1048576 * 1 + (tlx (tx b n p)).toNat = 1048576 + (tlx (tx b n p)).toNat by omega, show (((tlx (tx b n p)).toNat : Nat) : Int) = tlx (tx b n p) by omega] at hnt
  simp -implicitDefEqProofs only [Int.natCast_one] at hnt
  refine Kf_1 ?_
  rw [c_M_readsFactor, u_here (by omega) hx]
  simp -implicitDefEqProofs only [ob]
  rw [nF h91, u_isDigit (by omega) hx]
  simp -implicitDefEqProofs only [ob]
  rw [hg', bi_f, cT rfl, u_here (by omega) hx]
  simp -implicitDefEqProofs only [ob]
  rw [t_factOf (by omega)]
  simp -implicitDefEqProofs only [ob]
  rw [nF ht, hnt]
  simp -implicitDefEqProofs only [ob]
  rw [UQ_10, UQ_u10, zwc (by omega)]
theorem K_no {z : zZ} {e v n p : Nat} {b st wt : Row} {q s o m : Int} {μ : Mu} (he : 4 ≤ e) (hx : CX μ b n) (hp : p ≤ n) (h91 : ¬ tx b n p = 91) (hg : ¬ isg b n p = true) (ht : tlx (tx b n p) = -1) : Kf z e v (UQ μ st wt (p : Int) q s o m) = some (0, zup (UQ μ st wt (p : Int) q s o m) 86 12 (-1000 - (p : Int))) := by
  have hn := hx.2.1
  obtain ⟨e, rfl, he'⟩ := pred_of he
  have hg' : isg b n p = false := by simpa using hg
  refine Kf_0 ?_
  rw [c_M_readsFactor, u_here (by omega) hx]
  simp -implicitDefEqProofs only [ob]
  rw [nF h91, u_isDigit (by omega) hx]
  simp -implicitDefEqProofs only [ob]
  rw [hg', bi_f, cT rfl, u_here (by omega) hx]
  simp -implicitDefEqProofs only [ob]
  rw [t_factOf (by omega)]
  simp -implicitDefEqProofs only [ob]
  rw [nT ht, UQ_10, t_wrongAt (by omega) (by omega) (by omega)]
  simp -implicitDefEqProofs only [ob]
  rw [g01_ok (Or.inl rfl), show (-1000 * 1 - (p : Int)) = -1000 - (p : Int) by omega]
/-- a sign: what waits is noted, the sign waits -/
theorem L_sign {z : zZ} {e v n p q s : Nat} {c : Int} {P : List Nat} {b st wt : Row} {o m : Int} {μ : Mu} (he : 4 ≤ e) (hx : CX μ b n) (hp : p ≤ n) (hc : tx b n p = c) (h2 : 2 ≤ sgs c) (h6 : sgs c ≤ 6) (hP : pnd wt s P) (ht : ∀ t, t ∈ P → 2 ≤ t ∧ t ≤ 6 ∧ (4 ≤ sgs c → 4 ≤ t)) (hs : stp (if 4 ≤ sgs c then 0 else 1) wt s) (hq : q + P.length ≤ 220) (hs2 : s + P.length ≤ 220) (hs3 : s < 220) : Lp z e v (UQ μ st wt (p : Int) (q : Int) ((s + P.length : Nat) : Int) o m) = Kf z e v (UQ μ (emit st q P) (rup wt s ((1048576 * sgs c : Nat) : Int)) ((p + 1 : Nat) : Int) ((q + P.length : Nat) : Int) ((s + 1 : Nat) : Int) o m) := by
  have hn := hx.2.1
  have h38 : ∀ x : Int, x = (if 4 ≤ sgs c then 0 else 1) → f_M_readsSum_38 z e (v : Int) (sgs c : Int) x (UQ μ st wt (p : Int) (q : Int) ((s + P.length : Nat) : Int) o m) = Kf z e v (UQ μ (emit st q P) (rup wt s ((1048576 * sgs c : Nat) : Int)) ((p + 1 : Nat) : Int) ((q + P.length : Nat) : Int) ((s + 1 : Nat) : Int) o m) := by
    intro x hxx
    have hx01 : x = 0 ∨ x = 1 := by
      rw [hxx]
      split
      · exact Or.inl rfl
      · exact Or.inr rfl
    rw [← hxx] at hs
    rw [e_M_readsSum_38, u_close (by omega) hx01 hP (fun t h => ⟨(ht t h).1, (ht t h).2.1, fun h0 => (ht t h).2.2 (by
      by_cases h4 : 4 ≤ sgs c
      · exact h4
      · rw [if_neg h4] at hxx; omega)⟩) hs hq hs2]
    simp -implicitDefEqProofs only [ob]
    rw [UQ_25, UQ_10, gI_ok (by omega) (by omega), Int.toNat_natCast, UQ_u99, UQ_u25, UQ_u10, zwc (by omega), zwc (by omega), show zw (1048576 * (sgs c : Int)) = ((1048576 * sgs c : Nat) : Int) by rw [zw_id (by omega) (by omega)]; omega]
    unfold Kf Lp
    congr 1
    funext q1
    rw [e_M_readsSum_164]
  have hsg : ssg c = (sgs c : Int) := by unfold ssg; rw [if_pos ⟨h2, h6⟩]
  unfold Lp
  rw [e_M_readsSum_14, u_here (by omega) hx]
  simp -implicitDefEqProofs only [ob]
  rw [hc, t_sumSign (by omega), hsg]
  simp -implicitDefEqProofs only [ob]
  rw [cF (by omega)]
  by_cases h4 : 4 ≤ sgs c
  · rw [cT (by omega), e_M_readsSum_37]
    exact h38 0 (by rw [if_pos h4])
  · rw [cF (by omega)]
    exact h38 1 (by rw [if_neg h4])
/-- what the loop does at the end of a sum -/
theorem L_stop {z : zZ} {e v n p : Nat} {b st wt : Row} {q s o m : Int} {μ : Mu} (he : 4 ≤ e) (hx : CX μ b n) (hc : ssg (tx b n p) = -1) (h93 : ¬ tx b n p = 93) : Lp z e v (UQ μ st wt (p : Int) q s o m) = f_M_readsSum_139 z e (v : Int) (UQ μ st wt (p : Int) q s o m) := by
  unfold Lp
  rw [e_M_readsSum_14, u_here (by omega) hx]
  simp -implicitDefEqProofs only [ob]
  rw [t_sumSign (by omega), hc]
  simp -implicitDefEqProofs only [ob]
  rw [cTt, u_here (by omega) hx]
  simp -implicitDefEqProofs only [ob]
  rw [nF h93]
theorem L_139 {z : zZ} {e v n p q s : Nat} {b st wt : Row} {o m : Int} {μ : Mu} (he : 4 ≤ e) (hx : CX μ b n) (hp : p ≤ n) (hs2 : s ≤ 220) (hh : hos wt v s) : f_M_readsSum_139 z e (v : Int) (UQ μ st wt (p : Int) (q : Int) (s : Int) o m) = some (0, zup (UQ μ st wt (p : Int) (q : Int) (s : Int) o m) 86 12 (-1000 - (p : Int))) := by
  have hn := hx.2.1
  rw [e_M_readsSum_139, u_hosY (by omega) hs2 hh]
  simp -implicitDefEqProofs only [ob]
  rw [cF (by decide), UQ_10, t_wrongAt (by omega) (by omega) (by omega)]
  simp -implicitDefEqProofs only [ob]
  rw [g01_ok (Or.inl rfl), show (-1000 * 1 - (p : Int)) = -1000 - (p : Int) by omega]
theorem L_end {z : zZ} {e v n p q s : Nat} {P : List Nat} {b st wt : Row} {o m : Int} {μ : Mu} (he : 4 ≤ e) (hx : CX μ b n) (hc : ssg (tx b n p) = -1) (hP : pnd wt s P) (ht : ∀ t, t ∈ P → 2 ≤ t ∧ t ≤ 6) (hs : stp 1 wt s) (hq : q + P.length ≤ 220) (hs2 : s + P.length ≤ 220) (hv : v ≤ s) (hh : ¬ hos wt v (s + P.length)) : Lp z e v (UQ μ st wt (p : Int) (q : Int) ((s + P.length : Nat) : Int) o m) = some (1, UQ μ (emit st q P) wt (p : Int) ((q + P.length : Nat) : Int) (s : Int) o m) := by
  have h139 : f_M_readsSum_139 z e (v : Int) (UQ μ st wt (p : Int) (q : Int) ((s + P.length : Nat) : Int) o m) = some (1, UQ μ (emit st q P) wt (p : Int) ((q + P.length : Nat) : Int) (s : Int) o m) := by
    rw [e_M_readsSum_139, u_hosN (by omega) hs2 (by omega) hh]
    simp -implicitDefEqProofs only [ob]
    rw [cTt, u_close (by omega) (Or.inr rfl) hP (fun t h => ⟨(ht t h).1, (ht t h).2, fun h0 => absurd h0 (by decide)⟩) hs hq hs2]
    rfl
  by_cases h93 : tx b n p = 93
  · unfold Lp
    rw [e_M_readsSum_14, u_here (by omega) hx]
    simp -implicitDefEqProofs only [ob]
    rw [t_sumSign (by omega), hc]
    simp -implicitDefEqProofs only [ob]
    rw [cTt, u_here (by omega) hx]
    simp -implicitDefEqProofs only [ob]
    rw [nT h93, u_hosN (by omega) hs2 (by omega) hh]
    simp -implicitDefEqProofs only [ob]
    rw [cTt, h139]
  · rw [L_stop he hx hc h93, h139]
theorem L_bracket {z : zZ} {e v n p q s o : Nat} {P : List Nat} {b st wt : Row} {m : Int} {μ : Mu} (he : 4 ≤ e) (hx : CX μ b n) (hp : p ≤ n) (h93 : tx b n p = 93) (hP : pnd wt (s + 1) P) (ht : ∀ t, t ∈ P → 2 ≤ t ∧ t ≤ 6) (h14 : wt s = ((1048576 * 14 : Nat) : Int)) (hq : q + P.length ≤ 220) (hs2 : s + 1 + P.length ≤ 220) (hv : v ≤ s) (ho : o ≤ 100) : Lp z e v (UQ μ st wt (p : Int) (q : Int) ((s + 1 + P.length : Nat) : Int) ((o + 1 : Nat) : Int) m) = Lp z e v (UQ μ (emit st q P) wt ((p + 1 : Nat) : Int) ((q + P.length : Nat) : Int) (s : Int) (o : Int) m) := by
  have hn := hx.2.1
  have hw : wtop wt (s + 1) = 14 := wtop_s (t := 14) (v := 0) (by decide) (by decide) h14
  have hd14 : z_div (wt s) 1048576 = 14 := by
    rw [h14]
    exact cod_op (t := 14) (v := 0) (by decide) (by decide)
  have hh : hos wt v (s + 1 + P.length) := ⟨s, hv, by omega, hd14⟩
  have hc : ssg (tx b n p) = -1 := by rw [h93]; rfl
  conv => lhs; unfold Lp
  rw [e_M_readsSum_14, u_here (by omega) hx]
  simp -implicitDefEqProofs only [ob]
  rw [t_sumSign (by omega), hc]
  simp -implicitDefEqProofs only [ob]
  rw [cTt, u_here (by omega) hx]
  simp -implicitDefEqProofs only [ob]
  rw [nT h93, u_hosY (by omega) hs2 hh]
  simp -implicitDefEqProofs only [ob]
  rw [cF (by decide), u_close (by omega) (Or.inr rfl) hP (fun t h => ⟨(ht t h).1, (ht t h).2, fun h0 => absurd h0 (by decide)⟩) ⟨by rw [hw]; omega, by rw [hw]; omega⟩ hq hs2]
  simp -implicitDefEqProofs only [ob]
  rw [UQ_25, UQ_u25, UQ_23, UQ_u23, UQ_10, UQ_u10, zwc (by omega), zn1 (by omega), zn1 (by omega), e_M_readsSum_164]
  rfl
