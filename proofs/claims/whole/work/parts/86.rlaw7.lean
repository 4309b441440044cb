/-! the reference reads a clause -/
def lrf (μ M : Mu) : Prop := (∀ a, a ≠ 86 → a ≠ 98 → a ≠ 99 → a ≠ 100 → a ≠ 101 → a ≠ 102 → a ≠ 103 → M a = μ a) ∧ ∀ i, i ≠ 10 → i ≠ 12 → i ≠ 13 → i ≠ 23 → i ≠ 24 → i ≠ 25 → i ≠ 26 → M 86 i = μ 86 i
theorem lrf_refl (μ : Mu) : lrf μ μ := ⟨fun _ _ _ _ _ _ _ _ => rfl, fun _ _ _ _ _ _ _ _ => rfl⟩
theorem lrf_trans {A B C : Mu} (h1 : lrf A B) (h2 : lrf B C) : lrf A C := ⟨fun a p q r s t u v => by rw [h2.1 a p q r s t u v, h1.1 a p q r s t u v], fun i p q r s t u v => by rw [h2.2 i p q r s t u v, h1.2 i p q r s t u v]⟩
theorem lrf_UQ {μ : Mu} {st wt : Row} {p q s o m : Int} : lrf μ (UQ μ st wt p q s o m) := ⟨fun a p q r _ _ _ _ => UQ_o p q r, fun i p _ r s t u _ => UQ_k p t u s r⟩
theorem lrf_86 {μ : Mu} {i : Nat} {v : Int} (h : i = 10 ∨ i = 12 ∨ i = 13 ∨ i = 23 ∨ i = 24 ∨ i = 25 ∨ i = 26) : lrf μ (zup μ 86 i v) := ⟨fun a p _ _ _ _ _ _ => zup_ro p, fun j _ _ _ _ _ _ _ => zup_nk (by omega)⟩
theorem lrf_row {μ : Mu} {a i : Nat} {v : Int} (h : a = 100 ∨ a = 101 ∨ a = 102 ∨ a = 103) : lrf μ (zup μ a i v) := ⟨fun c _ _ _ _ _ _ _ => zup_ro (by omega), fun j _ _ _ _ _ _ _ => by rw [zup_ro (by omega)]⟩
theorem CX_lrf {μ M : Mu} {b : Row} {n : Nat} (h : CX μ b n) (hf : lrf μ M) : CX M b n := ⟨by rw [hf.2 11 (by omega) (by omega) (by omega) (by omega) (by omega) (by omega) (by omega)]; exact h.1, h.2.1, tpe_congr h.2.2 (hf.1 93 (by omega) (by omega) (by omega) (by omega) (by omega) (by omega) (by omega))⟩
theorem x_here {z : zZ} {d p n : Nat} {b : Row} {μ : Mu} (hd : 1 ≤ d) (hx : CX μ b n) (h10 : μ 86 10 = (p : Int)) : mC z d 193 [(2, 86)] μ = some (tx b n p, μ) := t_here hd h10 hx.1 (by have := hx.2.1; omega) hx.2.2
theorem t_isClause {z : zZ} {d : Nat} {c : Int} {μ : Mu} (hd : 1 ≤ d) : mC z d 210 [(0, c)] μ = some (bi (isK c), μ) := by
  obtain ⟨e, rfl, he⟩ := pred_of hd
  have h30 : f_M_isClause_30 z e μ = some (1, μ) := by rw [e_M_isClause_30, e_M_isClause_35, g01_1]
  have h34 : f_M_isClause_34 z e μ = some (0, μ) := by rw [e_M_isClause_34, e_M_isClause_35, g01_0]
  rw [c_M_isClause, h30, h34]
  unfold isK
  by_cases h1 : c = 102
  · rw [cT h1, bi_dt (Or.inl h1)]
  rw [cF h1]
  by_cases h2 : c = 112
  · rw [cT h2, bi_dt (Or.inr (Or.inl h2))]
  rw [cF h2]
  by_cases h3 : c = 118
  · rw [cT h3, bi_dt (Or.inr (Or.inr (Or.inl h3)))]
  rw [cF h3]
  by_cases h4 : c = 100
  · rw [cT h4, bi_dt (Or.inr (Or.inr (Or.inr (Or.inl h4))))]
  rw [cF h4]
  by_cases h5 : c = 119
  · rw [nT h5, bi_dt (Or.inr (Or.inr (Or.inr (Or.inr h5))))]
  rw [nF h5, bi_df (by omega)]
def rlC (b : Row) (n p q : Nat) (r : Row) : Prop := (∀ to, cdR b r n to fuL 0 0 (p + 1) q 0) ∧ cdR b r n (q + cl1 b n p + cl2 b n p) fuL 5 1 ((clS b n p).2 + 1) (q + cl1 b n p) 0
def RCP (b : Row) (n k p q : Nat) (μ M : Mu) : Prop := M 86 10 = (((clD b n p).2 + 1 : Nat) : Int) ∧ M 86 24 = ((q + cl1 b n p + cl2 b n p : Nat) : Int) ∧ M 86 26 = ((k + 1 : Nat) : Int) ∧ M 100 = rup (μ 100) k (tx b n p) ∧ M 101 = rup (μ 101) k (q : Int) ∧ M 102 = rup (μ 102) k ((q + cl1 b n p : Nat) : Int) ∧ M 103 = rup (μ 103) k ((q + cl1 b n p + cl2 b n p : Nat) : Int) ∧ (∀ j, j < q → M 98 j = μ 98 j) ∧ ∀ r : Row, (∀ j, q ≤ j → j < q + cl1 b n p + cl2 b n p → r j = M 98 j) → rlC b n p q r
theorem t_clause_no {z : zZ} {d n p k : Nat} {b : Row} {μ : Mu} (hd : 9 ≤ d) (hx : CX μ b n) (hp : p ≤ n) (h10 : μ 86 10 = (p : Int)) (h26 : μ 86 26 = (k : Int)) (h : isK (tx b n p) = false ∨ (isK (tx b n p) = true ∧ k = 14)) : mC z d 209 [(2, 86)] μ = some (0, zup μ 86 12 (if isK (tx b n p) = false then -1000 - (p : Int) else -4000 - (p : Int))) := by
  obtain ⟨e, rfl, he⟩ := pred_of (k := 8) hd
  have hn := hx.2.1
  rw [c_M_readsClause, x_here (by omega) hx h10]
  simp -implicitDefEqProofs only [ob]
  rw [t_isClause (by omega)]
  simp -implicitDefEqProofs only [ob]
  rcases h with h | ⟨h, hk⟩
  · rw [h, bi_f, nT rfl, h10, t_wrongAt (by omega) (by omega) (by omega)]
    simp -implicitDefEqProofs only [ob]
    rw [e_M_readsClause_21, g01_0, if_pos trivial, show (-1000 * 1 - (p : Int)) = -1000 - (p : Int) by omega]
  · rw [h, bi_t, nF (by decide), nT (by rw [h26, hk]; rfl), h10, t_wrongAt (by omega) (by omega) (by omega)]
    simp -implicitDefEqProofs only [ob]
    rw [e_M_readsClause_40, g01_0, if_neg (by decide), show (-1000 * 4 - (p : Int)) = -4000 - (p : Int) by omega]
theorem RF1_lrf {μ : Mu} {x : mR} {F : Int} (h : RF1 μ x F) : ∃ M, x = some (0, M) ∧ M 86 12 = F ∧ lrf μ M := by
  obtain ⟨st, wt, p, q, s, o, m, hh⟩ := h
  exact ⟨_, hh, zup_hit, lrf_trans lrf_UQ (lrf_86 (by omega))⟩
theorem t_clause {z : zZ} {d n p q k : Nat} {b : Row} {μ : Mu} (hd : 9 ≤ d) (hx : CX μ b n) (h10 : μ 86 10 = (p : Int)) (h24 : μ 86 24 = (q : Int)) (h26 : μ 86 26 = (k : Int)) (hk : k < 14) (hq : q + (n - p) ≤ 200) (hc : isK (tx b n p) = true) : ∃ (r : Bool) (M : Mu), mC z d 209 [(2, 86)] μ = some (bi r, M) ∧ lrf μ M ∧ ((clF b n p ≠ 0 ∧ r = false ∧ M 86 12 = clF b n p) ∨ (clF b n p = 0 ∧ r = true ∧ RCP b n k p q μ M)) := by
  obtain ⟨e, rfl, he⟩ := pred_of (k := 8) hd
  have hn := hx.2.1
  have hfu := fuL_eq
  have hc' := of_decide_eq_true hc
  have hpn : p < n := by rcases hc' with h | h | h | h | h <;> exact tx_lt h (by decide)
  rw [c_M_readsClause, x_here (by omega) hx h10]
  simp -implicitDefEqProofs only [ob]
  rw [t_isClause (by omega)]
  simp -implicitDefEqProofs only [ob]
  rw [hc, bi_t, nF (by decide), nF (by rw [h26]; omega), h26, gI_ok (by omega) (by omega), gI_ok (by omega) (by omega), Int.toNat_natCast, h10, h24, zwc (by omega)]
  generalize hμ1 : zup (zup (zup (zup (zup μ 100 k (tx b n p)) 86 10 ((p + 1 : Nat) : Int)) 101 k (q : Int)) 86 23 0) 86 25 0 = μ1
  have f1 : lrf μ μ1 := by
    subst hμ1
    exact lrf_trans (lrf_row (by omega)) (lrf_trans (lrf_86 (by omega)) (lrf_trans (lrf_row (by omega)) (lrf_trans (lrf_86 (by omega)) (lrf_86 (by omega)))))
  have m10 : μ1 86 10 = ((p + 1 : Nat) : Int) := by subst hμ1; rw [zup_nk (by omega), zup_nk (by omega), zup_ro (by omega)]; exact zup_hit
  have m24 : μ1 86 24 = (q : Int) := by subst hμ1; rw [zup_nk (by omega), zup_nk (by omega), zup_ro (by omega), zup_nk (by omega), zup_ro (by omega)]; exact h24
  have m25 : μ1 86 25 = 0 := by subst hμ1; exact zup_hit
  have m23 : μ1 86 23 = 0 := by subst hμ1; rw [zup_nk (by omega)]; exact zup_hit
  have m26 : μ1 86 26 = (k : Int) := by subst hμ1; rw [zup_nk (by omega), zup_nk (by omega), zup_ro (by omega), zup_nk (by omega), zup_ro (by omega)]; exact h26
  have m98 : μ1 98 = μ 98 := by subst hμ1; rw [zup_ro (by omega), zup_ro (by omega), zup_ro (by omega), zup_ro (by omega), zup_ro (by omega)]
  have m100 : μ1 100 = rup (μ 100) k (tx b n p) := by subst hμ1; rw [zup_ro (by omega), zup_ro (by omega), zup_ro (by omega), zup_ro (by omega), zupr, zrow_same]
  have m101 : μ1 101 = rup (μ 101) k (q : Int) := by subst hμ1; rw [zup_ro (by omega), zup_ro (by omega), zupr, zrow_same, zup_ro (by omega), zup_ro (by omega)]
  have m102 : μ1 102 = μ 102 := by subst hμ1; rw [zup_ro (by omega), zup_ro (by omega), zup_ro (by omega), zup_ro (by omega), zup_ro (by omega)]
  have m103 : μ1 103 = μ 103 := by subst hμ1; rw [zup_ro (by omega), zup_ro (by omega), zup_ro (by omega), zup_ro (by omega), zup_ro (by omega)]
  clear hμ1
  have hx1 := CX_lrf hx f1
  have eU : μ1 = UQ μ1 (μ1 98) (μ1 99) ((p + 1 : Nat) : Int) (q : Int) ((0 : Nat) : Int) ((0 : Nat) : Int) (μ1 86 13) := by
    have h := UQ_id (μ := μ1)
    rw [m10, m24, m25, m23] at h
    exact h.symm
  have hst0 : ∀ wt : Row, stp 1 wt 0 := fun wt => by
    have h0 : wtop wt 0 = -1 := rfl
    exact ⟨by rw [h0]; omega, by rw [h0]; omega⟩
  have hA := t_readsSum (z := z) (d := e) (f := fuL) (o := 0) (p := p + 1) (q := q) (s := 0) (st := μ1 98) (wt := μ1 99) (m := μ1 86 13) (by omega) hx1 hpn (by omega) (by omega) (by omega) (by omega) (hst0 _)
  rw [← eU] at hA
  have eS : (pz b n fuL 0 0 (p + 1)) = clS b n p := rfl
  have el1 : ln b n fuL 0 0 (p + 1) = cl1 b n p := rfl
  rw [eS, el1] at hA
  by_cases hF : (clS b n p).1 = 0
  · have zl := pz_ln fuL 0 0 (p + 1) hpn hF
    rw [eS, el1] at zl
    obtain ⟨st1, wt1, mm1, r1, r2, r3, r4⟩ := hA.2 hF
    rw [r1]
    simp -implicitDefEqProofs only [ob]
    rw [nF (by decide), e_M_readsClause_93, UQ_k (by omega) (by omega) (by omega) (by omega) (by omega), m26, gI_ok (by omega) (by omega), Int.toNat_natCast, UQ_24]
    generalize hμ2 : zup (UQ μ1 st1 wt1 (((clS b n p).2 : Nat) : Int) ((q + cl1 b n p : Nat) : Int) ((0 : Nat) : Int) ((0 : Nat) : Int) mm1) 102 k ((q + cl1 b n p : Nat) : Int) = μ2
    have f2 : lrf μ1 μ2 := by subst hμ2; exact lrf_trans lrf_UQ (lrf_row (by omega))
    have n10 : μ2 86 10 = (((clS b n p).2 : Nat) : Int) := by subst hμ2; rw [zup_ro (by omega)]; exact UQ_10
    have n24 : μ2 86 24 = ((q + cl1 b n p : Nat) : Int) := by subst hμ2; rw [zup_ro (by omega)]; exact UQ_24
    have n26 : μ2 86 26 = (k : Int) := by subst hμ2; rw [zup_ro (by omega), UQ_k (by omega) (by omega) (by omega) (by omega) (by omega)]; exact m26
    have n98 : μ2 98 = st1 := by subst hμ2; rw [zup_ro (by omega)]; exact UQ_98
    have n100 : μ2 100 = μ1 100 := by subst hμ2; rw [zup_ro (by omega)]; exact UQ_o (by omega) (by omega) (by omega)
    have n101 : μ2 101 = μ1 101 := by subst hμ2; rw [zup_ro (by omega)]; exact UQ_o (by omega) (by omega) (by omega)
    have n103 : μ2 103 = μ1 103 := by subst hμ2; rw [zup_ro (by omega)]; exact UQ_o (by omega) (by omega) (by omega)
    have n102 : μ2 102 = rup (μ1 102) k ((q + cl1 b n p : Nat) : Int) := by subst hμ2; rw [zupr, zrow_same, UQ_o (by omega) (by omega) (by omega)]
    clear hμ2
    have hx2 := CX_lrf hx1 f2
    obtain ⟨e, rfl, he'⟩ := pred_of (k := 7) he
    rw [c_M_readsCondition, x_here (by omega) hx2 n10]
    simp -implicitDefEqProofs only [ob]
    by_cases h40 : tx b n (clS b n p).2 = 40
    · have hE := tx_lt h40 (by decide)
      have eV : zup (zup μ2 86 23 0) 86 25 0 = UQ μ2 (μ2 98) (μ2 99) (((clS b n p).2 : Nat) : Int) ((q + cl1 b n p : Nat) : Int) ((0 : Nat) : Int) ((0 : Nat) : Int) (μ2 86 13) := by
        have h := UQ_id (μ := μ2)
        rw [n10, n24] at h
        conv => lhs; rw [← h]
        rw [UQ_u23, UQ_u25]
        rfl
      have hop := u_opens (z := z) (d := e) (p := (clS b n p).2) (s := 0) (o := 0) (t := 13) (st := μ2 98) (wt := μ2 99) (q := ((q + cl1 b n p : Nat) : Int)) (m := μ2 86 13) (μ := μ2) (by omega) (by omega) (by omega) (by omega) (by decide)
      rw [show ((13 : Nat) : Int) = 13 from rfl] at hop
      rw [cT h40, eV, hop]
      simp -implicitDefEqProofs only [ob]
      have h13 : wtop (rup (μ2 99) 0 ((1048576 * 13 : Nat) : Int)) (0 + 1) = 13 := wtop_s (s := 0) (t := 13) (v := 0) (by decide) (by decide) rup_same
      have hB := (bAll (z := z) (e := e) (by omega) hx2 fuL).1 1 ((clS b n p).2 + 1) (q + cl1 b n p) 1 (μ2 98) (rup (μ2 99) 0 ((1048576 * 13 : Nat) : Int)) (μ2 86 13) hE (by omega) (by omega) (by omega) (by omega) (by omega) h13
      have eD : pz b n fuL 5 1 ((clS b n p).2 + 1) = clD b n p := rfl
      have el2 : ln b n fuL 5 1 ((clS b n p).2 + 1) = cl2 b n p := rfl
      rw [eD, el2] at hB
      rw [nF (by decide)]
      have hfold : ∀ X, f_M_readsCondition_40 z e X = C40 z e X := fun _ => rfl
      rw [hfold]
      by_cases hG : (clD b n p).1 = 0
      · have zl2 := pz_ln fuL 5 1 ((clS b n p).2 + 1) hE (by rw [eD]; exact hG)
        rw [eD, el2] at zl2
        obtain ⟨st', wt', m', ji, jn, k1, k2, k3, k4, k5, k6, k7, k8, k9, k10, k11⟩ := hB.2 hG
        have k1' : C40 z e (UQ μ2 (μ2 98) (rup (μ2 99) 0 ((1048576 * 13 : Nat) : Int)) (((clS b n p).2 + 1 : Nat) : Int) ((q + cl1 b n p : Nat) : Int) ((0 + 1 : Nat) : Int) ((0 + 1 : Nat) : Int) (μ2 86 13)) = C92 z e (UQ μ2 st' wt' (((clD b n p).2 : Nat) : Int) ((q + cl1 b n p + cl2 b n p : Nat) : Int) ((0 + 1 + oz ji + oz jn : Nat) : Int) ((0 + 1 : Nat) : Int) m') := k1
        rw [k1']
        by_cases h41 : tx b n (clD b n p).2 = 41
        · have hE2 := tx_lt h41 (by decide)
          have hcl : clF b n p = 0 := by
            unfold clF
            rw [if_neg (by intro h; exact h hF), if_neg (by intro h; exact h h40), if_neg (by intro h; exact h hG), if_neg (by intro h; exact h h41)]
          rw [C92_par (s := 0) (o := 0) (by omega) hx2 zl2.1 (by omega) (by omega) (by omega) h41 k2 k3 k4 (by rw [wtop_congr k10]; exact h13), if_pos rfl]
          simp -implicitDefEqProofs only [ob]
          rw [nF (by decide), UQ_k (by omega) (by omega) (by omega) (by omega) (by omega), n26, gI_ok (by omega) (by omega), Int.toNat_natCast, UQ_24]
          rw [zwc (by omega)]
          refine ⟨true, _, rfl, lrf_trans f1 (lrf_trans f2 (lrf_trans lrf_UQ (lrf_trans (lrf_row (by omega)) (lrf_86 (by omega))))), Or.inr ⟨hcl, rfl, ?_⟩⟩
          refine ⟨by rw [zup_nk (by omega), zup_ro (by omega)]; exact UQ_10, by rw [zup_nk (by omega), zup_ro (by omega)]; exact UQ_24, zup_hit, by rw [zup_ro (by omega), zup_ro (by omega), UQ_o (by omega) (by omega) (by omega), n100, m100], by rw [zup_ro (by omega), zup_ro (by omega), UQ_o (by omega) (by omega) (by omega), n101, m101], by rw [zup_ro (by omega), zup_ro (by omega), UQ_o (by omega) (by omega) (by omega), n102, m102], by rw [zup_ro (by omega), zupr, zrow_same, UQ_o (by omega) (by omega) (by omega), n103, m103], fun j hj => ?_, fun r hr => ?_⟩
          · rw [zup_ro (by omega), zup_ro (by omega), UQ_98, pat1_ne (fun e => by have := k5 j e; omega), pat1_ne (fun e => by have := k6 j e; omega), k9 j (by omega), n98, r2 j hj, m98]
          · have hr' : ∀ j, q ≤ j → j < q + cl1 b n p + cl2 b n p → r j = pat1 (pat1 st' 11 (q + cl1 b n p + cl2 b n p) jn) 12 (q + cl1 b n p + cl2 b n p) ji j := fun j h1 h2 => by
              rw [hr j h1 h2, zup_ro (by omega), zup_ro (by omega), UQ_98]
            refine ⟨fun to => cdR_congr4 _ _ _ _ _ _ st1 _ (by omega) (fun j h1 h2 => ?_) (r4 to), k11 r _ (by omega) (Nat.le_refl _) (fun j h1 h2 h3 h4 => ?_) (fun y hy => ?_) (fun y hy => ?_)⟩
            · rw [el1] at h2
              rw [hr' j h1 (by omega), pat1_ne (fun e => by have := k5 j e; omega), pat1_ne (fun e => by have := k6 j e; omega), k9 j (by omega), n98]
            · rw [hr' j (by omega) h2, pat1_ne h3, pat1_ne h4]
            · refine ⟨q + cl1 b n p + cl2 b n p, by omega, ?_, thrR_here⟩
              have h5 := k5 y hy
              rw [hr' y (by omega) (k2 y hy).2.1, hy]
              exact rup_same
            · refine ⟨q + cl1 b n p + cl2 b n p, by omega, ?_, thrR_here⟩
              have h6 := k6 y hy
              rw [hr' y (by omega) (k3 y hy).2.1, pat1_ne (fun e => k4 y e hy), hy]
              exact rup_same
        · have hcl : clF b n p = -1000 - (((clD b n p).2 : Nat) : Int) := by
            unfold clF
            rw [if_neg (by intro h; exact h hF), if_neg (by intro h; exact h h40), if_neg (by intro h; exact h hG), if_pos h41]
          rw [C92_no (by omega) hx2 zl2.1 h41 k7 k8]
          simp -implicitDefEqProofs only [ob]
          rw [nTt]
          refine ⟨false, _, rfl, lrf_trans f1 (lrf_trans f2 (lrf_trans lrf_UQ (lrf_86 (by omega)))), Or.inl ⟨by rw [hcl]; omega, rfl, by rw [hcl]; exact zup_hit⟩⟩
      · have hcl : clF b n p = (clD b n p).1 := by
          unfold clF
          rw [if_neg (by intro h; exact h hF), if_neg (by intro h; exact h h40), if_pos hG]
        obtain ⟨M, hM, hM12, hMf⟩ := RF1_lrf (hB.1 hG)
        have hM' : C40 z e (UQ μ2 (μ2 98) (rup (μ2 99) 0 ((1048576 * 13 : Nat) : Int)) (((clS b n p).2 + 1 : Nat) : Int) ((q + cl1 b n p : Nat) : Int) ((0 + 1 : Nat) : Int) ((0 + 1 : Nat) : Int) (μ2 86 13)) = some (0, M) := hM
        rw [hM']
        simp -implicitDefEqProofs only [ob]
        rw [nTt]
        exact ⟨false, _, rfl, lrf_trans f1 (lrf_trans f2 hMf), Or.inl ⟨by rw [hcl]; exact hG, rfl, by rw [hcl]; exact hM12⟩⟩
    · have hcl : clF b n p = -1000 - (((clS b n p).2 : Nat) : Int) := by
        unfold clF
        rw [if_neg (by intro h; exact h hF), if_pos h40]
      rw [cF h40, n10, t_wrongAt (by omega) (by omega) (by omega)]
      simp -implicitDefEqProofs only [ob]
      rw [g01_0]
      simp -implicitDefEqProofs only [ob]
      rw [nTt]
      exact ⟨false, _, rfl, lrf_trans f1 (lrf_trans f2 (lrf_86 (by omega))), Or.inl ⟨by rw [hcl]; omega, rfl, by rw [hcl, zup_hit]; omega⟩⟩
  · have hcl : clF b n p = (clS b n p).1 := by
      unfold clF
      rw [if_pos hF]
    obtain ⟨M, hM, hM12, hMf⟩ := RF1_lrf (hA.1 hF)
    rw [hM]
    simp -implicitDefEqProofs only [ob]
    rw [nTt]
    exact ⟨false, _, rfl, lrf_trans f1 hMf, Or.inl ⟨by rw [hcl]; exact hF, rfl, by rw [hcl]; exact hM12⟩⟩
