/-! all acts of a text, the reference -/
theorem rfr_mono {k : Nat} {μ M : Mu} (h : rfr k μ M) : rfr 0 μ M := ⟨h.1, h.2.1, fun j hj => by omega, fun j hj => by omega⟩
theorem t_acts {z : zZ} {e n : Nat} {b : Row} (he : 7 ≤ e) (hn : n ≤ 220) (j : Nat) : ∀ (k p : Nat) (K A O : Row) (μ : Mu), j + k = 12 → p ≤ n → μ 86 10 = (p : Int) → μ 86 11 = (n : Int) → μ 86 48 = (k : Int) → tpe μ b → (∀ a, a < k → rA μ a (K a) (A a) (O a)) → ∀ R, actsS b n (j + 1) k p K A O = R → ∃ M, rfr 0 μ M ∧ ((R.1 < 0 ∧ ((mC z e 229 [(2, 86)] μ).bind fun q => f_M_readsActs_20 z e q.1 q.2) = f_M_readsActs_60 z e 0 M ∧ M 86 12 = R.1) ∨ (∃ m : Nat, R.1 = (m : Int) ∧ 1 ≤ m ∧ m ≤ 12 ∧ ((mC z e 229 [(2, 86)] μ).bind fun q => f_M_readsActs_20 z e q.1 q.2) = f_M_readsActs_60 z e 1 M ∧ M 86 48 = (m : Int) ∧ ∀ a, a < m → rA M a (R.2.1 a) (R.2.2.1 a) (R.2.2.2 a))) := by
  induction j using Nat.strongRecOn with
  | ind j ih =>
    intro k p K A O μ hjk hp h2 h3 h48 hb hx R hR
    simp only [actsS] at hR
    have hbad : ∀ M : Mu, f_M_readsActs_20 z e 0 M = f_M_readsActs_60 z e 0 M := fun M => by rw [e_M_readsActs_20, cT rfl]
    cases hc : canB b n p
    · rw [if_pos hc] at hR
      subst hR
      refine ⟨zup μ 86 12 (-1000 - (p : Int)), rfr_86 (by omega), Or.inl ⟨by show -1000 - (p : Int) < 0; omega, ?_, zup_hit⟩⟩
      rw [t_readsAct_no (by omega) h2 h3 h48 hn hp hb (Or.inl hc), if_pos hc]
      simp -implicitDefEqProofs only [ob]
      exact hbad _
    · rw [if_neg (by rw [hc]; decide)] at hR
      by_cases h12 : k = 12
      · rw [if_pos h12] at hR
        subst hR
        refine ⟨zup μ 86 12 (-4000 - (p : Int)), rfr_86 (by omega), Or.inl ⟨by show -4000 - (p : Int) < 0; omega, ?_, zup_hit⟩⟩
        rw [t_readsAct_no (by omega) h2 h3 h48 hn hp hb (Or.inr ⟨hc, h12⟩), if_neg (by rw [hc]; decide)]
        simp -implicitDefEqProofs only [ob]
        exact hbad _
      · rw [if_neg h12] at hR
        have hneg := actF_neg b n p
        obtain ⟨r, M, g1, g2, g3, g4⟩ := t_readsAct (z := z) (d := e) (by omega) h2 h3 h48 (by omega) hn hp hb hc
        rw [g1]
        simp -implicitDefEqProofs only [ob]
        rcases g4 with ⟨c1, c2, c3, c4⟩ | ⟨c1, c2, c3⟩
        · rw [if_neg (by intro h; exact h c1)] at hR
          subst c2
          have m11 : M 86 11 = (n : Int) := by rw [g2.2.1 11 (by omega) (by omega) (by omega) (by omega)]; exact h3
          have mb : tpe M b := tpe_congr hb (g2.1 93 (by omega) (by omega))
          have hx' : ∀ a, a < k + 1 → rA M a (rup K k (aK b n p) a) (rup A k (actA b n p) a) (rup O k (actO b n p) a) := by
            intro a ha
            by_cases hak : a = k
            · subst hak
              rw [rup_same, rup_same, rup_same]
              exact c4
            · rw [rup_ne hak, rup_ne hak, rup_ne hak]
              exact rA_rfr (hx a (by omega)) g2 (by omega)
          rw [bi_t, e_M_readsActs_20, cF (by omega)]
          simp -implicitDefEqProofs only [m11, c3]
          by_cases hend : n ≤ actE b n p
          · rw [if_pos hend] at hR
            subst hR
            rw [cT (by omega)]
            exact ⟨M, rfr_mono g2, Or.inr ⟨k + 1, rfl, by omega, by omega, rfl, g3, hx'⟩⟩
          · rw [if_neg hend] at hR
            rw [cF (by omega), t_takes (by omega) c3 m11 hn (by omega) mb]
            by_cases h59 : tx b n (actE b n p) = 59
            · rw [if_pos h59] at hR ⊢
              simp -implicitDefEqProofs only [ob]
              rw [cF (by omega)]
              obtain ⟨j', rfl⟩ : ∃ j', j = j' + 1 := ⟨j - 1, by omega⟩
              generalize hM1 : zup M 86 10 ((actE b n p + 1 : Nat) : Int) = M1
              have q10 : M1 86 10 = ((actE b n p + 1 : Nat) : Int) := by rw [← hM1]; exact zup_hit
              have q11 : M1 86 11 = (n : Int) := by rw [← hM1, zup_nk (by omega)]; exact m11
              have q48 : M1 86 48 = ((k + 1 : Nat) : Int) := by rw [← hM1, zup_nk (by omega)]; exact g3
              have qb : tpe M1 b := tpe_congr mb (by rw [← hM1, zup_ro (by omega)])
              have qf : rfr (k + 1) M M1 := by rw [← hM1]; exact rfr_86 (by omega)
              have qx : ∀ a, a < k + 1 → rA M1 a (rup K k (aK b n p) a) (rup A k (actA b n p) a) (rup O k (actO b n p) a) := fun a ha => rA_rfr (hx' a ha) qf ha
              have hsame : ((mC z e 229 [(2, 86)] M1).bind fun q2 => bif decide (q2.1 = 0) then f_M_readsActs_55 z e q2.2 else f_M_readsActs_56 z e 1 q2.2) = (mC z e 229 [(2, 86)] M1).bind fun q => f_M_readsActs_20 z e q.1 q.2 := by
                have hbi : ∀ (r : Bool) (Q : Mu), mC z e 229 [(2, 86)] M1 = some (bi r, Q) → ((mC z e 229 [(2, 86)] M1).bind fun q2 => bif decide (q2.1 = 0) then f_M_readsActs_55 z e q2.2 else f_M_readsActs_56 z e 1 q2.2) = (mC z e 229 [(2, 86)] M1).bind fun q => f_M_readsActs_20 z e q.1 q.2 := by
                  intro r Q h
                  rw [h]
                  cases r
                  · simp -implicitDefEqProofs only [ob, bi_f]
                    rw [cT trivial, e_M_readsActs_55, e_M_readsActs_56]
                  · simp -implicitDefEqProofs only [ob, bi_t]
                    rw [cF (by omega), e_M_readsActs_56]
                cases hc' : canB b n (actE b n p + 1)
                · exact hbi false _ (t_readsAct_no (by omega) q10 q11 q48 hn (by omega) qb (Or.inl hc'))
                · by_cases hk1 : k + 1 = 12
                  · exact hbi false _ (t_readsAct_no (by omega) q10 q11 q48 hn (by omega) qb (Or.inr ⟨hc', hk1⟩))
                  · obtain ⟨r, Q, h, _⟩ := t_readsAct (z := z) (d := e) (by omega) q10 q11 q48 (by omega) hn (by omega) qb hc'
                    exact hbi r Q h
              rw [hsame]
              obtain ⟨M', r1, r2⟩ := ih j' (by omega) (k + 1) (actE b n p + 1) _ _ _ M1 (by omega) (by omega) q10 q11 q48 qb qx R hR
              exact ⟨M', rfr_trans (rfr_mono g2) (rfr_trans (rfr_mono qf) r1), r2⟩
            · rw [if_neg h59] at hR ⊢
              simp -implicitDefEqProofs only [ob]
              subst hR
              refine ⟨zup M 86 12 (-1000 - ((actE b n p : Nat) : Int)), rfr_trans (rfr_mono g2) (rfr_86 (by omega)), Or.inl ⟨by show -1000 - ((actE b n p : Nat) : Int) < 0; omega, ?_, zup_hit⟩⟩
              rw [cT trivial, e_M_readsActs_55, e_M_readsActs_56]
              exact hbad _
        · rw [if_pos c1] at hR
          subst hR
          subst c2
          refine ⟨M, rfr_mono g2, Or.inl ⟨by show actF b n p < 0; omega, ?_, c3⟩⟩
          rw [bi_f]
          exact hbad _
