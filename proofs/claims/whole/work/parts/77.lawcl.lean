/-! the class reads a clause -/
def fuL : Nat := 1700
theorem fuL_eq : fuL = 1700 := rfl
/-- of a clause at p: its E's end, its C's end, its steps -/
def clS (b : Row) (n p : Nat) : Int × Nat := pz b n fuL 0 0 (p + 1)
def clD (b : Row) (n p : Nat) : Int × Nat := pz b n fuL 5 1 ((clS b n p).2 + 1)
def clF (b : Row) (n p : Nat) : Int := if (clS b n p).1 ≠ 0 then (clS b n p).1 else if tx b n (clS b n p).2 ≠ 40 then -1000 - (((clS b n p).2 : Nat) : Int) else if (clD b n p).1 ≠ 0 then (clD b n p).1 else if tx b n (clD b n p).2 ≠ 41 then -1000 - (((clD b n p).2 : Nat) : Int) else 0
def cl1 (b : Row) (n p : Nat) : Nat := ln b n fuL 0 0 (p + 1)
def cl2 (b : Row) (n p : Nat) : Nat := ln b n fuL 5 1 ((clS b n p).2 + 1)
def clC (b : Row) (n : Nat) (st : Row) (p q : Nat) : Prop := cdC b st n fuL 0 0 (p + 1) q 0 ∧ st (q + cl1 b n p) = 0 ∧ cdC b st n fuL 5 1 ((clS b n p).2 + 1) (q + cl1 b n p + 1) 0 ∧ st (q + cl1 b n p + 1 + cl2 b n p) = 0
def isK (c : Int) : Bool := decide (c = 102 ∨ c = 112 ∨ c = 118 ∨ c = 100 ∨ c = 119)
theorem clF_0 {b : Row} {n p : Nat} (h : clF b n p = 0) : (clS b n p).1 = 0 ∧ tx b n (clS b n p).2 = 40 ∧ (clD b n p).1 = 0 ∧ tx b n (clD b n p).2 = 41 := by
  unfold clF at h
  split at h
  · rename_i h1; exact absurd h h1
  · rename_i h1
    split at h
    · omega
    · rename_i h2
      split at h
      · rename_i h3; exact absurd h h3
      · rename_i h3
        split at h
        · omega
        · rename_i h4
          exact ⟨Classical.not_not.mp h1, Classical.not_not.mp h2, Classical.not_not.mp h3, Classical.not_not.mp h4⟩
theorem clF_ln {b : Row} {n p : Nat} (hp : p < n) (h : clF b n p = 0) : p + 1 + cl1 b n p ≤ (clS b n p).2 ∧ (clS b n p).2 + 1 + cl2 b n p ≤ (clD b n p).2 ∧ (clD b n p).2 < n := by
  obtain ⟨h1, h2, h3, h4⟩ := clF_0 h
  have q1 := pz_ln fuL 0 0 (p + 1) hp h1
  have e1 := tx_lt h2 (by decide)
  have q2 := pz_ln fuL 5 1 ((clS b n p).2 + 1) e1 h3
  have e2 := tx_lt h4 (by decide)
  exact ⟨q1.2.1, q2.2.1, e2⟩
/-- rows that reading a law may change -/
def lwf (w : Nat) (μ M : Mu) : Prop := (∀ a, a ≠ 1 → a ≠ w → a ≠ w + 1 → a ≠ w + 2 → a ≠ w + 3 → a ≠ w + 4 → M a = μ a) ∧ ∀ k, k ≠ 2 → k ≠ 4 → M 1 k = μ 1 k
theorem lwf_refl (w : Nat) (μ : Mu) : lwf w μ μ := ⟨fun _ _ _ _ _ _ _ => rfl, fun _ _ _ => rfl⟩
theorem lwf_trans {w : Nat} {A B C : Mu} (h1 : lwf w A B) (h2 : lwf w B C) : lwf w A C := ⟨fun a p q r s t u => by rw [h2.1 a p q r s t u, h1.1 a p q r s t u], fun k p q => by rw [h2.2 k p q, h1.2 k p q]⟩
theorem lwf_RF {w n : Nat} {A B : Mu} (h : RF w n A B) : lwf w A B := ⟨fun a p q _ _ _ u => h.1 a p q u, h.2.2.1⟩
theorem lwf_pfr {w : Nat} {A B : Mu} (hw : isLw w) (h : pfr w A B) : lwf w A B := by
  have w1 : 1 ≠ w ∧ 1 ≠ w + 4 := by rcases hw with h | h <;> omega
  exact ⟨fun a _ q _ _ _ u => h.1 a q u, fun k _ _ => by rw [h.1 1 w1.1 w1.2]⟩
theorem lwf_up {w i k : Nat} {v : Int} {A : Mu} (hw : isLw w) (hi : i ≤ 4) : lwf w A (zup A (w + i) k v) := by
  have w1 : 1 ≠ w + i := by rcases hw with h | h <;> omega
  refine ⟨fun a _ p0 p1 p2 p3 p4 => zup_ro ?_, fun k _ _ => by rw [zup_ro w1]⟩
  intro e
  rcases (show i = 0 ∨ i = 1 ∨ i = 2 ∨ i = 3 ∨ i = 4 by omega) with h | h | h | h | h
  · exact p0 (by omega)
  · exact p1 (by omega)
  · exact p2 (by omega)
  · exact p3 (by omega)
  · exact p4 (by omega)
theorem lwf_1 {w k : Nat} {v : Int} {A : Mu} (hk : k = 2 ∨ k = 4) : lwf w A (zup A 1 k v) := ⟨fun a p _ _ _ _ _ => zup_ro p, fun j p q => zup_nk (by omega)⟩
def CLP (w n k q : Nat) (b : Row) (p : Nat) (μ M : Mu) : Prop := lwf w μ M ∧ M 1 4 = clF b n p ∧ (∃ p' : Nat, p' ≤ n ∧ M 1 2 = (p' : Int)) ∧ (clF b n p = 0 → M 1 2 = (((clD b n p).2 + 1 : Nat) : Int) ∧ M w 3 = ((k + 1 : Nat) : Int) ∧ M w 5 = ((q + cl1 b n p + 1 + cl2 b n p + 1 : Nat) : Int) ∧ (∀ j, j < q → M (w + 4) j = μ (w + 4) j) ∧ M (w + 1) = rup (μ (w + 1)) k (tx b n p) ∧ M (w + 2) = rup (μ (w + 2)) k (q : Int) ∧ M (w + 3) = rup (μ (w + 3)) k ((q + cl1 b n p + 1 : Nat) : Int) ∧ clC b n (M (w + 4)) p q)
theorem s_clause {z : zZ} {d w n p q k : Nat} {b : Row} {μ : Mu} (hd : 64 ≤ d) (hw : isLw w) (hn : n ≤ 200) (hb : byt b) (hs : RS w μ b n p q) (hk : μ w 3 = (k : Int)) (hk14 : k < 14) (hq : q + (n - p) ≤ 200) (hc : isK (tx b n p) = true) : ∃ M, mC z d 47 [(2, 40)] μ = some (0, M) ∧ CLP w n k q b p μ M := by
  obtain ⟨e, rfl, he⟩ := pred_of (k := 63) hd
  have w1 : w ≠ 1 ∧ w + 1 ≠ 1 ∧ w + 2 ≠ 1 ∧ w + 3 ≠ 1 ∧ w + 4 ≠ 1 ∧ 1 ≠ w ∧ 1 ≠ w + 1 ∧ 1 ≠ w + 2 ∧ 1 ≠ w + 3 ∧ 1 ≠ w + 4 := by rcases hw with h | h <;> omega
  have w40 : 40 ≠ w ∧ 40 ≠ w + 1 ∧ 40 ≠ w + 2 ∧ 40 ≠ w + 3 ∧ 40 ≠ w + 4 := by rcases hw with h | h <;> omega
  have w2 : 2 ≠ w + 1 ∧ 2 ≠ w + 2 ∧ 2 ≠ w + 3 := by rcases hw with h | h <;> omega
  have hc' := of_decide_eq_true hc
  have hpn : p < n := by rcases hc' with h | h | h | h | h <;> exact tx_lt h (by decide)
  have hfu := fuL_eq
  have H := rdAll (z := z) hw hn hb fuL
  rw [c_Rdr_readClause _ _ _ hs.1, s_peek (by omega) hs.2.2.1 hs.2.2.2.1 (by omega), hs.2.2.2.2.2.2]
  simp -implicitDefEqProofs only [ob]
  rw [e_Rdr_readClause_7 _ _ _ _ hs.1 w hw hs.2.1, nT hs.2.2.2.2.1, nF (by intro h; exact (zpl0 _).mp h hc'), hk, cT (by omega), e_Rdr_readClause_74 _ _ _ _ _ hs.1 w hw hs.2.1, gI_ok (by omega) (by omega), gI_ok (by omega) (by omega), Int.toNat_natCast, hs.2.2.1, zwc (by omega), hs.2.2.2.2.2.1]
  generalize hμ1 : zup (zup (zup μ 1 2 ((p + 1 : Nat) : Int)) (w + 1) k (tx b n p)) (w + 2) k (q : Int) = μ1
  have hs1 : RS w μ1 b n (p + 1) q := by
    obtain ⟨a1, a2, a3, a4, a5, a6, a7⟩ := RS_next hw hs
    subst hμ1
    refine ⟨by rw [zup_ro w40.2.2.1, zup_ro w40.2.1]; exact a1, by rw [zup_ro w40.2.2.1, zup_ro w40.2.1]; exact a2, by rw [zup_ro w1.2.2.2.2.2.2.2.1, zup_ro w1.2.2.2.2.2.2.1]; exact a3, by rw [zup_ro w1.2.2.2.2.2.2.2.1, zup_ro w1.2.2.2.2.2.2.1]; exact a4, by rw [zup_ro w1.2.2.2.2.2.2.2.1, zup_ro w1.2.2.2.2.2.2.1]; exact a5, by rw [zup_ro (by omega), zup_ro (by omega)]; exact a6, by rw [zup_ro w2.2.1, zup_ro w2.1]; exact a7⟩
  have hf1 : lwf w μ μ1 := by
    subst hμ1
    exact lwf_trans (lwf_trans (lwf_1 (Or.inl rfl)) (lwf_up hw (i := 1) (by omega))) (lwf_up hw (i := 2) (by omega))
  have m3 : μ1 w 3 = (k : Int) := by subst hμ1; rw [zup_ro (by omega), zup_ro (by omega), zup_ro w1.1]; exact hk
  have mv1 : μ1 (w + 1) = rup (μ (w + 1)) k (tx b n p) := by subst hμ1; rw [zup_ro (by omega), zupr, zrow_same, zup_ro w1.2.1]
  have mv2 : μ1 (w + 2) = rup (μ (w + 2)) k (q : Int) := by subst hμ1; rw [zupr, zrow_same, zup_ro (by omega), zup_ro w1.2.2.1]
  have mv3 : μ1 (w + 3) = μ (w + 3) := by subst hμ1; rw [zup_ro (by omega), zup_ro (by omega), zup_ro w1.2.2.2.1]
  have mv4 : μ1 (w + 4) = μ (w + 4) := by subst hμ1; rw [zup_ro (by omega), zup_ro (by omega), zup_ro w1.2.2.2.2.1]
  clear hμ1
  obtain ⟨M1, r1, P1⟩ := H.1 e 0 (p + 1) q μ1 hs1 hpn (by omega) (by omega) (by omega) (by omega)
  unfold cSum at r1
  simp -implicitDefEqProofs only [Int.natCast_zero] at r1
  rw [r1]
  simp -implicitDefEqProofs only [ob]
  have h40 : M1 40 = μ1 40 := RF_40 hw P1.1
  obtain ⟨q1, hq1, hq15⟩ := P1.1.2.2.2.1
  obtain ⟨p1, hp1, hp12⟩ := P1.1.2.2.2.2
  rw [e_Rdr_readClause_118 _ _ _ _ _ w hw (by rw [h40]; exact hs1.2.1)]
  have h189 : ∀ (M : Mu) (j : Nat), M 40 1 = ((w : Nat) : Int) + 1 → M w 3 = (j : Int) → j ≤ 14 → f_Rdr_readClause_189 z e M = some (0, zup M w 3 ((j + 1 : Nat) : Int)) := by
    intro M j m41 m3 hj
    rw [e_Rdr_readClause_189 _ _ _ w hw m41, m3, zwc (by omega)]
  have hend : ∀ (M : Mu) (F : Int), lwf w μ M → M 1 4 = F → (∃ p' : Nat, p' ≤ n ∧ M 1 2 = (p' : Int)) → F ≠ 0 → clF b n p = F → CLP w n k q b p μ (zup M w 3 ((k + 1 : Nat) : Int)) := by
    intro M F m1 m2 m3 hF hcl
    refine ⟨lwf_trans m1 (lwf_up hw (i := 0) (by omega)), by rw [zup_ro w1.2.2.2.2.2.1, m2, hcl], by rw [zup_ro w1.2.2.2.2.2.1]; exact m3, fun h => absurd (hcl.symm.trans h) hF⟩
  by_cases hF : (clS b n p).1 = 0
  · have hF' : (pz b n fuL 0 0 (p + 1)).1 = 0 := hF
    have zl := pz_ln fuL 0 0 (p + 1) hpn hF'
    have e2 : (pz b n fuL 0 0 (p + 1)).2 = (clS b n p).2 := rfl
    have l1 : ln b n fuL 0 0 (p + 1) = cl1 b n p := rfl
    rw [e2, l1] at P1 zl
    obtain ⟨a1, a2, a3, a4⟩ := P1.2.2 hF'
    have hT := RF_RS hw P1.1 hs1 (by rw [P1.2.1, hF']) a1 a2
    rw [s_put0 (by omega) hw a2 (by omega)]
    simp -implicitDefEqProofs only [ob]
    have hU := RS_put (x := 0) hw hT
    have pf := ptM_fr (μ := M1) (w := w) (x := 0) (show q + cl1 b n p < 256 by omega)
    have hf2 := lwf_trans hf1 (lwf_trans (lwf_RF P1.1) (lwf_pfr hw pf))
    generalize hM2 : ptM M1 w (q + cl1 b n p) 0 = M2 at hU pf hf2
    have k3 : M2 w 3 = (k : Int) := by rw [pf.2.1 3 (by omega), P1.1.2.1 3 (by omega)]; exact m3
    rw [e_Rdr_readClause_127 _ _ _ _ _ hU.1, nT hU.2.2.2.2.1, s_pass (by omega) hU.2.2.1 hU.2.2.2.1 hU.2.2.2.2.1 (by omega) (by omega), hU.2.2.2.2.2.2]
    by_cases h40s : tx b n (clS b n p).2 = 40
    · have hE := tx_lt h40s (by decide)
      rw [if_pos h40s]
      simp -implicitDefEqProofs only [ob]
      have hV := RS_next hw hU
      rw [e_Rdr_readClause_146 _ _ _ _ _ _ w hw hV.2.1, cF (by decide), gI_ok (by omega) (by omega), Int.toNat_natCast, hV.2.2.2.2.2.1]
      generalize hμ3 : zup (zup M2 1 2 (((clS b n p).2 + 1 : Nat) : Int)) (w + 3) k ((q + cl1 b n p + 1 : Nat) : Int) = μ3
      have hs3 : RS w μ3 b n ((clS b n p).2 + 1) (q + cl1 b n p + 1) := by
        obtain ⟨a1, a2, a3, a4, a5, a6, a7⟩ := hV
        subst hμ3
        exact ⟨by rw [zup_ro w40.2.2.2.1]; exact a1, by rw [zup_ro w40.2.2.2.1]; exact a2, by rw [zup_ro w1.2.2.2.2.2.2.2.2.1]; exact a3, by rw [zup_ro w1.2.2.2.2.2.2.2.2.1]; exact a4, by rw [zup_ro w1.2.2.2.2.2.2.2.2.1]; exact a5, by rw [zup_ro (by omega)]; exact a6, by rw [zup_ro w2.2.2]; exact a7⟩
      have hf3 : lwf w μ μ3 := by
        subst hμ3
        exact lwf_trans hf2 (lwf_trans (lwf_1 (Or.inl rfl)) (lwf_up hw (i := 3) (by omega)))
      have n3 : μ3 w 3 = (k : Int) := by subst hμ3; rw [zup_ro (by omega), zup_ro w1.1]; exact k3
      have nv1 : μ3 (w + 1) = rup (μ (w + 1)) k (tx b n p) := by subst hμ3; rw [zup_ro (by omega), zup_ro w1.2.1, pf.1 (w + 1) (by omega) (by omega), P1.1.1 (w + 1) w1.2.1 (by omega) (by omega), mv1]
      have nv2 : μ3 (w + 2) = rup (μ (w + 2)) k (q : Int) := by subst hμ3; rw [zup_ro (by omega), zup_ro w1.2.2.1, pf.1 (w + 2) (by omega) (by omega), P1.1.1 (w + 2) w1.2.2.1 (by omega) (by omega), mv2]
      have nv3 : μ3 (w + 3) = rup (μ (w + 3)) k ((q + cl1 b n p + 1 : Nat) : Int) := by subst hμ3; rw [zupr, zrow_same, zup_ro w1.2.2.2.1, pf.1 (w + 3) (by omega) (by omega), P1.1.1 (w + 3) w1.2.2.2.1 (by omega) (by omega), mv3]
      have nv4 : μ3 (w + 4) = rup (M1 (w + 4)) (q + cl1 b n p) 0 := by subst hμ3; rw [zup_ro (by omega), zup_ro w1.2.2.2.2.1, ← hM2, ptM_st]
      clear hμ3
      obtain ⟨M4, r4, P4⟩ := H.2.2.2.2.2.1 e 1 ((clS b n p).2 + 1) (q + cl1 b n p + 1) μ3 hs3 hE (by omega) (by omega) (by omega) (by omega)
      unfold cCnd at r4
      simp -implicitDefEqProofs only [Int.natCast_one] at r4
      rw [r4]
      simp -implicitDefEqProofs only [ob]
      have h40d : M4 40 = μ3 40 := RF_40 hw P4.1
      obtain ⟨q4, hq4, hq45⟩ := P4.1.2.2.2.1
      obtain ⟨p4, hp4, hp42⟩ := P4.1.2.2.2.2
      have k43 : M4 w 3 = (k : Int) := by rw [P4.1.2.1 3 (by omega)]; exact n3
      rw [e_Rdr_readClause_170 _ _ _ _ _ w hw (by rw [h40d]; exact hs3.2.1)]
      have hcD : (pz b n fuL 5 1 ((clS b n p).2 + 1)) = clD b n p := rfl
      have l2 : ln b n fuL 5 1 ((clS b n p).2 + 1) = cl2 b n p := rfl
      rw [hcD, l2] at P4
      by_cases hG : (clD b n p).1 = 0
      · have zl2 := pz_ln fuL 5 1 ((clS b n p).2 + 1) hE (by rw [hcD]; exact hG)
        rw [hcD, l2] at zl2
        obtain ⟨b1, b2, b3, b4⟩ := P4.2.2 hG
        have hW := RF_RS hw P4.1 hs3 (by rw [P4.2.1, hG]) b1 b2
        rw [s_put0 (by omega) hw b2 (by omega)]
        simp -implicitDefEqProofs only [ob]
        have hX := RS_put (x := 0) hw hW
        have pf2 := ptM_fr (μ := M4) (w := w) (x := 0) (show q + cl1 b n p + 1 + cl2 b n p < 256 by omega)
        rw [e_Rdr_readClause_179 _ _ _ _ _ hX.1, s_pass (by omega) hX.2.2.1 hX.2.2.2.1 hX.2.2.2.2.1 (by omega) (by omega), hX.2.2.2.2.2.2]
        by_cases h41s : tx b n (clD b n p).2 = 41
        · have hE2 := tx_lt h41s (by decide)
          have hcl : clF b n p = 0 := by
            unfold clF
            rw [if_neg (by intro h; exact h hF), if_neg (by intro h; exact h h40s), if_neg (by intro h; exact h hG), if_neg (by intro h; exact h h41s)]
          rw [if_pos h41s]
          simp -implicitDefEqProofs only [ob]
          rw [h189 _ k (by rw [zup_ro (by omega)]; exact hX.2.1) (by rw [zup_ro w1.1, pf2.2.1 3 (by omega)]; exact k43) (by omega)]
          refine ⟨_, rfl, lwf_trans hf3 (lwf_trans (lwf_RF P4.1) (lwf_trans (lwf_pfr hw pf2) (lwf_trans (lwf_1 (Or.inl rfl)) (lwf_up hw (i := 0) (by omega))))), ?_, ?_, fun _ => ?_⟩
          · rw [zup_ro w1.2.2.2.2.2.1, zup_nk (by omega), hcl]; exact hX.2.2.2.2.1
          · rw [zup_ro w1.2.2.2.2.2.1]; exact ⟨_, hE2, zup_hit⟩
          · have hrow : ∀ a, a = w + 1 ∨ a = w + 2 ∨ a = w + 3 → zup (zup (ptM M4 w (q + cl1 b n p + 1 + cl2 b n p) 0) 1 2 (((clD b n p).2 + 1 : Nat) : Int)) w 3 ((k + 1 : Nat) : Int) a = μ3 a := by
              intro a ha
              have ha1 : a ≠ w ∧ a ≠ w + 4 ∧ a ≠ 1 := by rcases ha with h | h | h <;> subst h <;> refine ⟨by omega, by omega, ?_⟩ <;> omega
              rw [zup_ro ha1.1, zup_ro ha1.2.2, pf2.1 a ha1.1 ha1.2.1, P4.1.1 a ha1.2.2 ha1.1 ha1.2.1]
            have hrow4 : zup (zup (ptM M4 w (q + cl1 b n p + 1 + cl2 b n p) 0) 1 2 (((clD b n p).2 + 1 : Nat) : Int)) w 3 ((k + 1 : Nat) : Int) (w + 4) = rup (M4 (w + 4)) (q + cl1 b n p + 1 + cl2 b n p) 0 := by
              rw [zup_ro (by omega), zup_ro w1.2.2.2.2.1, ptM_st]
            have hlow : ∀ j, j < q + cl1 b n p + 1 → M4 (w + 4) j = rup (M1 (w + 4)) (q + cl1 b n p) 0 j := by
              intro j hj
              rw [b3 j hj (by simp), nv4]
            refine ⟨by rw [zup_ro w1.2.2.2.2.2.1]; exact zup_hit, zup_hit, by rw [zup_nk (by omega), zup_ro w1.1, ptM_w5], fun j hj => ?_, by rw [hrow _ (Or.inl rfl)]; exact nv1, by rw [hrow _ (Or.inr (Or.inl rfl))]; exact nv2, by rw [hrow _ (Or.inr (Or.inr rfl))]; exact nv3, ?_⟩
            · rw [hrow4, rup_ne (by omega), hlow j (by omega), rup_ne (by omega), a3 j hj (by simp), mv4]
            · rw [hrow4]
              refine ⟨cdC_congr _ _ _ _ _ _ (M1 (w + 4)) _ (fun j h1 h2 => ?_) a4, ?_, cdC_congr _ _ _ _ _ _ (M4 (w + 4)) _ (fun j h1 h2 => ?_) b4, rup_same⟩
              · rw [l1] at h2
                rw [rup_ne (by omega), hlow j (by omega), rup_ne (by omega)]
              · rw [rup_ne (by omega), hlow _ (by omega), rup_same]
              · rw [l2] at h2
                rw [rup_ne (by omega)]
        · rw [if_neg h41s]
          simp -implicitDefEqProofs only [ob]
          rw [h189 _ k (by rw [zup_ro (by omega)]; exact hX.2.1) (by rw [zup_ro w1.1, pf2.2.1 3 (by omega)]; exact k43) (by omega)]
          refine ⟨_, rfl, hend _ (-1000 - (((clD b n p).2 : Nat) : Int)) (lwf_trans hf3 (lwf_trans (lwf_RF P4.1) (lwf_trans (lwf_pfr hw pf2) (lwf_1 (Or.inr rfl))))) zup_hit ⟨_, zl2.1, by rw [zup_nk (by omega)]; exact hX.2.2.1⟩ (by omega) ?_⟩
          unfold clF
          rw [if_neg (by intro h; exact h hF), if_neg (by intro h; exact h h40s), if_neg (by intro h; exact h hG), if_pos h41s]
      · obtain ⟨M5, r5, pf5⟩ := s_put_any (z := z) (d := e) (k := 0) (v := 0) (by omega) hw hq45 hq4
        have m15 : M5 1 = M4 1 := pf5.1 1 w1.2.2.2.2.2.1 w1.2.2.2.2.2.2.2.2.2
        have m40 : M5 40 = M4 40 := pf5.1 40 w40.1 w40.2.2.2.2
        rw [r5]
        simp -implicitDefEqProofs only [ob]
        obtain ⟨r, q6, hq6, hr6⟩ := s_passF (z := z) (d := e) (p := p4) (n := n) (c := 41) (μ := M5) (by omega) (by rw [m15]; exact hp42) (by rw [m15, P4.1.2.2.1 3 (by omega) (by omega)]; exact hs3.2.2.2.1) (by rw [m15, P4.2.1]; exact hG) (by omega) hp4 (by decide)
        rw [e_Rdr_readClause_179 _ _ _ _ _ (by rw [m40, h40d]; exact hs3.1), hr6]
        simp -implicitDefEqProofs only [ob]
        rw [h189 _ k (by rw [zup_ro (by omega), m40, h40d]; exact hs3.2.1) (by rw [zup_ro w1.1, pf5.2.1 3 (by omega)]; exact k43) (by omega)]
        refine ⟨_, rfl, hend _ (clD b n p).1 (lwf_trans hf3 (lwf_trans (lwf_RF P4.1) (lwf_trans (lwf_pfr hw pf5) (lwf_1 (Or.inl rfl))))) (by rw [zup_nk (by omega), m15, P4.2.1]) ⟨_, hq6, zup_hit⟩ hG ?_⟩
        unfold clF
        rw [if_neg (by intro h; exact h hF), if_neg (by intro h; exact h h40s), if_pos hG]
    · rw [if_neg h40s]
      simp -implicitDefEqProofs only [ob]
      rw [e_Rdr_readClause_146 _ _ _ _ _ _ w hw (by rw [zup_ro (by omega)]; exact hU.2.1), cT rfl, h189 _ k (by rw [zup_ro (by omega)]; exact hU.2.1) (by rw [zup_ro w1.1]; exact k3) (by omega)]
      refine ⟨_, rfl, hend _ (-1000 - (((clS b n p).2 : Nat) : Int)) (lwf_trans hf2 (lwf_1 (Or.inr rfl))) zup_hit ⟨_, zl.1, by rw [zup_nk (by omega)]; exact hU.2.2.1⟩ (by omega) ?_⟩
      unfold clF
      rw [if_neg (by intro h; exact h hF), if_pos h40s]
  · obtain ⟨M2, r2, pf⟩ := s_put_any (z := z) (d := e) (k := 0) (v := 0) (by omega) hw hq15 hq1
    have m15 : M2 1 = M1 1 := pf.1 1 w1.2.2.2.2.2.1 w1.2.2.2.2.2.2.2.2.2
    have m40 : M2 40 = M1 40 := pf.1 40 w40.1 w40.2.2.2.2
    have hF' : (pz b n fuL 0 0 (p + 1)).1 ≠ 0 := hF
    rw [r2]
    simp -implicitDefEqProofs only [ob]
    rw [e_Rdr_readClause_127 _ _ _ _ _ (by rw [m40, h40]; exact hs1.1), nF (by rw [m15, P1.2.1]; exact hF'), h189 _ k (by rw [m40, h40]; exact hs1.2.1) (by rw [pf.2.1 3 (by omega), P1.1.2.1 3 (by omega)]; exact m3) (by omega)]
    refine ⟨_, rfl, hend _ (clS b n p).1 (lwf_trans hf1 (lwf_trans (lwf_RF P1.1) (lwf_pfr hw pf))) (by rw [m15, P1.2.1]; rfl) ⟨p1, hp1, by rw [m15]; exact hp12⟩ hF ?_⟩
    unfold clF
    rw [if_pos hF]
