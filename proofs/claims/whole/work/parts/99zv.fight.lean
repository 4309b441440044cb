/-! a fight is told, in both -/
def ffF (b : Row) (n : Nat) : Int := if wF b n 0 ≠ 0 then wF b n 0 else if tx b n (0 + wln b n 0) ≠ 62 then -1000 - ((0 + wln b n 0 : Nat) : Int) else wF b n (0 + wln b n 0 + 1)
def ffE (b : Row) (n : Nat) : Nat := 0 + wln b n 0 + 1 + wln b n (0 + wln b n 0 + 1)
def ffG (b : Row) (n : Nat) : Int := if ffF b n ≠ 0 then ffF b n else if ffE b n < n then -1000 - ((ffE b n : Nat) : Int) else 0
theorem s_ftake {z : zZ} {d n : Nat} {μ : Mu} (hd : 5 ≤ d) (h2 : μ 1 2 = 0) (h3 : μ 1 3 = (n : Int)) (h4 : μ 1 4 = 0) (hn : n ≤ 220) (hb : byt (μ 2)) : ∃ M, mC z d 138 [(2, 58), (2, 1)] μ = (if ffG (μ 2) n ≠ 0 then some (ffG (μ 2) n, M) else f_Fig_take_68 z (d - 1) (wcd (μ 2) 0 (wln (μ 2) n 0)) (wcd (μ 2) (0 + wln (μ 2) n 0 + 1) (wln (μ 2) n (0 + wln (μ 2) n 0 + 1))) 0 M) ∧ (∀ a, a ≠ 1 → M a = μ a) ∧ M 1 1 = μ 1 1 := by
  obtain ⟨e, rfl, he⟩ := pred_of (k := 4) hd
  rw [Nat.add_sub_cancel]
  obtain ⟨r, M1, m1, m2, m3, m4, m5⟩ := s_word (z := z) (d := e) (p := 0) he (by rw [h2]; rfl) h3 h4 hn (by omega) hb
  have hw0 := wln_n (b := μ 2) (n := n) (p := 0) (by omega)
  have f29 : ∀ (v2 v : Int) (M : Mu), M 1 4 ≠ 0 → f_Fig_take_29 z e v2 v M = some (M 1 4, M) := fun v2 v M h => by
    rw [e_Fig_take_29, nF h, e_Fig_take_53, cF h]
  rw [c_Fig_take, m1]
  simp -implicitDefEqProofs only [ob]
  unfold ffG
  by_cases c1 : wF (μ 2) n 0 ≠ 0
  · have hF : ffF (μ 2) n = wF (μ 2) n 0 := by unfold ffF; rw [if_pos c1]
    have c1' : M1 1 4 ≠ 0 := by rw [m2]; exact c1
    rw [hF, if_pos c1, nF c1', e_Fig_take_28, f29 _ _ _ c1', m2]
    refine ⟨M1, ?_, m3.1, m3.2.1⟩
    rw [if_pos c1]
  · have c0 : wF (μ 2) n 0 = 0 := by
      rcases Classical.em (wF (μ 2) n 0 = 0) with h | h
      · exact h
      · exact absurd h c1
    obtain ⟨k1, k2⟩ := m4 c0
    have hb1 : byt (M1 2) := by rw [m3.1 2 (by omega)]; exact hb
    have e2 : M1 2 = μ 2 := m3.1 2 (by omega)
    have hp := s_pass (z := z) (d := e) (c := 62) (μ := M1) (by omega) k2 (by rw [m3.2.2.1]; exact h3) (by rw [m2]; exact c0) hn (by omega)
    rw [nT (by rw [m2]; exact c0), hp, e2]
    by_cases c2 : tx (μ 2) n (0 + wln (μ 2) n 0) = 62
    · rw [if_pos c2]
      simp -implicitDefEqProofs only [ob]
      rw [cF (by decide)]
      have hlt : 0 + wln (μ 2) n 0 < n := by
        rcases Nat.lt_or_ge (0 + wln (μ 2) n 0) n with h | h
        · exact h
        · rw [tx_out h] at c2; exact absurd c2 (by decide)
      have eM : zup M1 1 2 ((0 + wln (μ 2) n 0 + 1 : Nat) : Int) 2 = μ 2 := by rw [zup_ro (by omega)]; exact e2
      obtain ⟨r2, M2, n1, n2, n3, n4, n5⟩ := s_word (z := z) (d := e) (p := 0 + wln (μ 2) n 0 + 1) (μ := zup M1 1 2 ((0 + wln (μ 2) n 0 + 1 : Nat) : Int)) he zup_hit (by rw [zup_nk (by omega), m3.2.2.1]; exact h3) (by rw [zup_nk (by omega), m2]; exact c0) hn (by omega) (by rw [eM]; exact hb)
      rw [eM] at n2 n4
      rw [n1]
      simp -implicitDefEqProofs only [ob]
      have hF : ffF (μ 2) n = wF (μ 2) n (0 + wln (μ 2) n 0 + 1) := by unfold ffF; rw [if_neg c1, if_neg (fun q => q c2)]
      have hfr : (∀ a, a ≠ 1 → M2 a = μ a) ∧ M2 1 1 = μ 1 1 := ⟨fun a q => by rw [n3.1 a q, zup_ro q, m3.1 a q], by rw [n3.2.1, zup_nk (by omega), m3.2.1]⟩
      by_cases c3 : wF (μ 2) n (0 + wln (μ 2) n 0 + 1) ≠ 0
      · have c3' : M2 1 4 ≠ 0 := by rw [n2]; exact c3
        rw [hF, if_pos c3]
        refine ⟨M2, ?_, hfr⟩
        rw [if_pos c3, f29 _ _ _ c3', n2]
      · have c30 : wF (μ 2) n (0 + wln (μ 2) n 0 + 1) = 0 := by
          rcases Classical.em (wF (μ 2) n (0 + wln (μ 2) n 0 + 1) = 0) with h | h
          · exact h
          · exact absurd h c3
        obtain ⟨k3, k4⟩ := n4 c30
        have hM24 : M2 1 4 = 0 := by rw [n2]; exact c30
        have hM23 : M2 1 3 = (n : Int) := by rw [n3.2.2.1, zup_nk (by omega), m3.2.2.1]; exact h3
        have hw1 := wln_n (b := μ 2) (n := n) (p := 0 + wln (μ 2) n 0 + 1) (by omega)
        have k4' : M2 1 2 = ((ffE (μ 2) n : Nat) : Int) := k4
        rw [hF, if_neg c3, e_Fig_take_29, nT hM24, s_atEnd (by omega) k4' hM23]
        simp -implicitDefEqProofs only [ob]
        rw [nB]
        by_cases c4 : ffE (μ 2) n < n
        · rw [decide_eq_false (show ¬ n ≤ ffE (μ 2) n by omega), cond_false, k4', s_fail0 (by omega) hM24 (by omega) (by omega)]
          simp -implicitDefEqProofs only [ob]
          have h14 : zup M2 1 4 (-1000 * 1 - ((ffE (μ 2) n : Nat) : Int)) 1 4 = -1000 - ((ffE (μ 2) n : Nat) : Int) := by rw [zup_hit]; omega
          rw [if_pos c4, e_Fig_take_53, cF (by rw [h14]; omega), h14]
          refine ⟨zup M2 1 4 (-1000 * 1 - ((ffE (μ 2) n : Nat) : Int)), ?_, fun a q => by rw [zup_ro q]; exact hfr.1 a q, by rw [zup_nk (by omega)]; exact hfr.2⟩
          rw [if_pos (by omega)]
        · rw [decide_eq_true (show n ≤ ffE (μ 2) n by omega), cond_true, if_neg c4, e_Fig_take_53, cT hM24]
          refine ⟨M2, ?_, hfr⟩
          rw [if_neg (show ¬ ((0 : Int) ≠ 0) by decide), k1, k3]
    · rw [if_neg c2]
      simp -implicitDefEqProofs only [ob]
      have hF : ffF (μ 2) n = -1000 - ((0 + wln (μ 2) n 0 : Nat) : Int) := by unfold ffF; rw [if_neg c1, if_pos c2]
      have h14 : zup M1 1 4 (-1000 - ((0 + wln (μ 2) n 0 : Nat) : Int)) 1 4 = -1000 - ((0 + wln (μ 2) n 0 : Nat) : Int) := zup_hit
      rw [cTt, e_Fig_take_28, f29 _ _ _ (by rw [h14]; omega), h14, hF, if_pos (show -1000 - ((0 + wln (μ 2) n 0 : Nat) : Int) ≠ 0 by omega)]
      refine ⟨zup M1 1 4 (-1000 - ((0 + wln (μ 2) n 0 : Nat) : Int)), ?_, fun a q => by rw [zup_ro q, m3.1 a q], by rw [zup_nk (by omega), m3.2.1]⟩
      rw [if_pos (show -1000 - ((0 + wln (μ 2) n 0 : Nat) : Int) ≠ 0 by omega)]
/-- where two words part -/
theorem f96_no {z : zZ} {e m1 m2 k : Nat} {c1 c2 : Int} {M : Mu} (he : 1 ≤ e) (h1 : isW c1 m1) (h2 : isW c2 m2) (hk : m1 ≤ k ∨ m2 ≤ k) : f_Fig_take_96 z e c1 c2 (k : Int) M = some (-5000, M) := by
  have lno : ∀ {c : Int} {m : Nat}, isW c m → m ≤ k → letc c (k : Int) = -1 := fun {c m} h hm => by
    by_cases h8 : k < 8
    · rw [letc_nat h8, h.2.2.2 k hm]; rfl
    · rw [letc_out (by omega)]
  rw [e_Fig_take_96, s_letterAt he]
  simp -implicitDefEqProofs only [ob]
  rw [s_letterAt he]
  simp -implicitDefEqProofs only [ob]
  rw [s_isLetter he]
  simp -implicitDefEqProofs only [ob]
  rw [cB]
  by_cases q1 : m1 ≤ k
  · rw [decide_eq_false (show ¬ (0 ≤ letc c1 (k : Int) ∧ letc c1 (k : Int) < 12) by rw [lno h1 q1]; omega), cond_false, e_Fig_take_128]
  · cases hq : decide (0 ≤ letc c1 (k : Int) ∧ letc c1 (k : Int) < 12) with
    | false => rw [cond_false, e_Fig_take_128]
    | true =>
      rw [cond_true, s_isLetter he]
      simp -implicitDefEqProofs only [ob]
      rw [nB, decide_eq_false (show ¬ (0 ≤ letc c2 (k : Int) ∧ letc c2 (k : Int) < 12) by rw [lno h2 (by omega)]; omega), cond_false, e_Fig_take_128]
theorem f68_no {z : zZ} {e m1 m2 : Nat} {c1 c2 : Int} {M : Mu} (he : 1 ≤ e) (h1 : isW c1 m1) (h2 : isW c2 m2) : ∀ (j k : Nat), j + k = 8 → (m1 ≤ k ∨ m2 ≤ k) → f_Fig_take_68 z e c1 c2 (k : Int) M = some (-5000, M) := by
  intro j
  induction j with
  | zero =>
    intro k hj hk
    rw [e_Fig_take_68, cT (by omega), f96_no he h1 h2 hk]
  | succ j ih =>
    intro k hj hk
    rw [e_Fig_take_68, cF (by omega), s_letterAt he]
    simp -implicitDefEqProofs only [ob]
    rw [s_letterAt he]
    simp -implicitDefEqProofs only [ob]
    by_cases q : letc c1 (k : Int) = letc c2 (k : Int)
    · rw [nT q, zwc (by omega)]
      exact ih (k + 1) (by omega) (by omega)
    · rw [nF q, f96_no he h1 h2 hk]
/-- both find where they part -/
theorem fight_go {z : zZ} {e e' m1 m2 n : Nat} {c1 c2 : Int} {M P : Mu} (he : 1 ≤ e) (h1 : isW c1 m1) (h2 : isW c2 m2) (hn : n ≤ 24) (h58 : M 58 0 = (n : Int)) (h67 : P 86 67 = (n : Int)) (h113 : P 113 0 = (m1 : Int)) (h115 : P 115 0 = (m2 : Int)) (h112 : ∀ k, k < m1 → P 112 k = (nib c1 k : Int) - 1) (h114 : ∀ k, k < m2 → P 114 k = (nib c2 k : Int) - 1) : ∀ (j k : Nat), j + k = 8 → k ≤ m1 → k ≤ m2 → (f_Fig_take_68 z e c1 c2 (k : Int) M = some (-5000, M) ∧ f_M_fight_81 z e' (k : Int) P = some (-5000, P)) ∨ (f_Fig_take_68 z e c1 c2 (k : Int) M = some (-4000, M) ∧ f_M_fight_81 z e' (k : Int) P = some (-4000, P)) ∨ (∃ a b : Nat, a < 12 ∧ b < 12 ∧ n < 24 ∧ f_Fig_take_68 z e c1 c2 (k : Int) M = some (((n + 1 : Nat) : Int), zup (zup (zup (zup M 59 n ((12 * a + b : Nat) : Int)) 58 0 ((n + 1 : Nat) : Int)) 58 8 0) 58 9 0) ∧ f_M_fight_81 z e' (k : Int) P = some (((n + 1 : Nat) : Int), zup (zup (zup P 128 n (a : Int)) 129 n (b : Int)) 86 67 ((n + 1 : Nat) : Int))) := by
  have m18 := h1.2.1
  have m28 := h2.2.1
  intro j
  induction j with
  | zero =>
    intro k hj hk1 hk2
    left
    have hk : k = m1 := by omega
    refine ⟨f68_no he h1 h2 0 k hj (by omega), ?_⟩
    rw [e_M_fight_81, h113, cT (by omega), e_M_fight_123, h113, cT (by omega), e_M_fight_143]
  | succ j ih =>
    intro k hj hk1 hk2
    by_cases q1 : m1 ≤ k
    · left
      refine ⟨f68_no he h1 h2 (j + 1) k hj (by omega), ?_⟩
      rw [e_M_fight_81, h113, cT (by omega), e_M_fight_123, h113, cT (by omega), e_M_fight_143]
    · by_cases q2 : m2 ≤ k
      · left
        refine ⟨f68_no he h1 h2 (j + 1) k hj (by omega), ?_⟩
        rw [e_M_fight_81, h113, cF (by omega), h115, cT (by omega), e_M_fight_123, h113, cF (by omega), h115, nT (by omega), e_M_fight_143]
      · have a1 := h1.2.2.1 k (by omega)
        have a2 := h2.2.2.1 k (by omega)
        have l1 : letc c1 (k : Int) = (nib c1 k : Int) - 1 := letc_nat (by omega)
        have l2 : letc c2 (k : Int) = (nib c2 k : Int) - 1 := letc_nat (by omega)
        have p1 := h112 k (by omega)
        have p2 := h114 k (by omega)
        have hc68 : f_Fig_take_68 z e c1 c2 (k : Int) M = bif !decide (letc c1 (k : Int) = letc c2 (k : Int)) then (f_Fig_take_96 z e c1 c2 (k : Int) M) else (f_Fig_take_68 z e c1 c2 ((k + 1 : Nat) : Int) M) := by
          rw [e_Fig_take_68, cF (by omega), s_letterAt he]
          simp -implicitDefEqProofs only [ob]
          rw [s_letterAt he]
          simp -implicitDefEqProofs only [ob]
          rw [zwc (by omega)]
        have hr81 : f_M_fight_81 z e' (k : Int) P = bif !decide (P 112 k = P 114 k) then (f_M_fight_123 z e' (k : Int) P) else (f_M_fight_81 z e' ((k + 1 : Nat) : Int) P) := by
          rw [e_M_fight_81, h113, cF (by omega), h115, cF (by omega), gI_ok (by omega) (by omega), gI_ok (by omega) (by omega), Int.toNat_natCast, zwc (by omega)]
        by_cases q3 : nib c1 k = nib c2 k
        · rw [hc68, hr81, nT (by rw [l1, l2, q3]), nT (by rw [p1, p2, q3])]
          exact ih (k + 1) (by omega) (by omega) (by omega)
        · have hc96 : f_Fig_take_96 z e c1 c2 (k : Int) M = bif decide (M 58 0 < 24) then (f_Fig_take_145 z e (letc c1 (k : Int)) (letc c2 (k : Int)) M) else (some (-4000, M)) := by
            rw [e_Fig_take_96, s_letterAt he]
            simp -implicitDefEqProofs only [ob]
            rw [s_letterAt he]
            simp -implicitDefEqProofs only [ob]
            rw [s_isLetter he]
            simp -implicitDefEqProofs only [ob]
            rw [cB, decide_eq_true (show 0 ≤ letc c1 (k : Int) ∧ letc c1 (k : Int) < 12 by omega), cond_true, s_isLetter he]
            simp -implicitDefEqProofs only [ob]
            rw [nB, decide_eq_true (show 0 ≤ letc c2 (k : Int) ∧ letc c2 (k : Int) < 12 by omega), cond_true]
          have hr123 : f_M_fight_123 z e' (k : Int) P = bif !decide (P 86 67 = 24) then (f_M_fight_160 z e' (k : Int) P) else (some (-4000, P)) := by
            rw [e_M_fight_123, h113, cF (by omega), h115, nF (by omega)]
          rw [hc68, hr81, nF (by omega), nF (by omega), hc96, hr123]
          by_cases q4 : n < 24
          · right; right
            refine ⟨nib c1 k - 1, nib c2 k - 1, by omega, by omega, q4, ?_, ?_⟩
            · have e1 : letc c1 (k : Int) = ((nib c1 k - 1 : Nat) : Int) := by omega
              have e2 : letc c2 (k : Int) = ((nib c2 k - 1 : Nat) : Int) := by omega
              obtain ⟨e3, rfl, he3⟩ := pred_of (k := 0) he
              rw [cT (by omega), e_Fig_take_145, h58, gI_ok (by omega) (by omega), e1, e2, zy12 (by omega) (by omega), zwc (by omega), Int.toNat_natCast, c_Fig_change]
              simp -implicitDefEqProofs only [ob]
              rw [zup_nk (show (0 : Nat) ≠ 9 by omega), zup_nk (show (0 : Nat) ≠ 8 by omega), zup_hit]
            · have e1 : (nib c1 k : Int) - 1 = ((nib c1 k - 1 : Nat) : Int) := by omega
              have e2 : (nib c2 k : Int) - 1 = ((nib c2 k - 1 : Nat) : Int) := by omega
              rw [nF (by omega), e_M_fight_160, h67, gI_ok (by omega) (by omega), gI_ok (by omega) (by omega), gI_ok (by omega) (by omega), gI_ok (by omega) (by omega), Int.toNat_natCast, Int.toNat_natCast, p1, p2, e1, e2, zwc (by omega)]
          · right; left
            refine ⟨?_, ?_⟩
            · rw [cF (by omega)]
            · rw [nT (by omega)]
