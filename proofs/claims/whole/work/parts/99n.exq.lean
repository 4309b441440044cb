/-! exchange: the question in both -/
theorem exchange_both {z : zZ} {d d' wl : Nat} {s v : Int} {μ ρ : Mu} {N F : Nat → Nat} {L : Nat → Nat → Nat} (hd : 20 ≤ d) (hd' : 10 ≤ d') (hB : BT μ ρ N F L wl) : QU z d d' 122 270 [(2, 0), (0, s), (0, v)] [(2, 86), (0, s), (0, v)] μ ρ := by
  obtain ⟨e, rfl, he⟩ := pred_of (k := 19) hd
  obtain ⟨e', rfl, he'⟩ := pred_of (k := 9) hd'
  unfold QU
  rw [c_W_exchange, c_M_exchange, s_isSide (by omega), t_isSide (by omega)]
  simp -implicitDefEqProofs only [ob]
  rw [cB, cB]
  by_cases h1 : s = 0 ∨ s = 1
  · rw [decide_eq_true h1, cond_true, cond_true, t_in (by omega)]
    simp -implicitDefEqProofs only [ob]
    rw [nB]
    by_cases h2 : v < 0
    · rw [cT h2, decide_eq_false (show ¬ ((0 : Int) ≤ v ∧ v ≤ 3) by omega), cond_false, e_W_exchange_16, e_M_exchange_16]
      exact ⟨_, _, _, rfl, rfl, QC_refl _, QR_refl _⟩
    · rw [cF h2]
      by_cases h3 : v ≤ 3
      · rw [cT h3, decide_eq_true (show (0 : Int) ≤ v ∧ v ≤ 3 by omega), cond_true]
        obtain ⟨t, rfl, ht⟩ : ∃ t : Nat, s = (t : Int) ∧ t < 2 := ⟨s.toNat, by omega, by omega⟩
        have ht' : 1 - t < 2 := by omega
        obtain ⟨hC, hR, ⟨c1, c2, c3, c4⟩, ⟨c5, c6⟩, ⟨c7, _, _⟩, hw, c8, Nn, lt, Dv, Dc, l1, l2, l3, l4⟩ := hB
        have hv : ∀ t w, 0 ≤ vlw μ L Nn lt Dv Dc t w ∧ vlw μ L Nn lt Dv Dc t w ≤ 9999 := fun t w => wrt_rg
        -- the class makes both choosers ready
        obtain ⟨a1, a2, a3, a4, a5, a6, a7, a8, a9, _⟩ := hC 0 (by omega)
        obtain ⟨M1, m1, m2, m3⟩ := s_prep (z := z) (d := e) (s := 0) (by omega) (by omega) hw c8 l1 l3 l4 c5 a1 a2 a3 (f4096 a4 a2) (fun w hw => (a9 w hw).1)
        have hQ1 : QC μ M1 := QC_pcr (by omega) hw m2
        have m0 : M1 0 = μ 0 := QC_lo hQ1 (Or.inl (by omega))
        have m35 : M1 35 = μ 35 := QC_lo hQ1 (Or.inr rfl)
        obtain ⟨g1, g2, g3, g4, g5, g6, g7, g8, g9, _⟩ := SDc_q hQ1 (show 1 < 2 by omega) (hC 1 (by omega))
        have e4 : M1 (4 + 9 * 1 + 4) = μ (4 + 9 * 1 + 4) := QC_lo hQ1 (Or.inl (by omega))
        obtain ⟨M2, n1, n2, n3⟩ := s_prep (z := z) (d := e) (s := 1) (μ := M1) (by omega) (by omega) hw (by rw [m0]; exact c8) (lawC_q hw hQ1 l1) l3 l4 (by rw [m35]; exact c5) g1 g2 g3 (f4096 g4 g2) (fun w hw => (g9 w hw).1)
        rw [m0, m35, e4] at n3
        have hX2 : XC μ N F (vlw μ L Nn lt Dv Dc) M2 := by
          refine ⟨QC_trans hQ1 (QC_pcr (by omega) hw n2), fun u hu => ?_⟩
          have h01 : u = 0 ∨ u = 1 := by omega
          rcases h01 with h | h
          · subst h
            exact CHP_congr m3 (by rw [n2.1 _ (by omega) (by rcases hw with h | h <;> omega) (by rcases hw with h | h <;> omega) (by omega) (by omega) (by omega) (by omega) (by omega)]) (fun i h1 h2 => n2.1 _ (by omega) (by rcases hw with h | h <;> omega) (by rcases hw with h | h <;> omega) (by omega) (by omega) (by omega) (by omega) (by omega))
          · subst h
            exact n3
        obtain ⟨M3, o1, hX3⟩ := XC_search (z := z) (d := e) (t := t) (come := -1) (gone := -1) (fl := -1) (by omega) ht (hC t ht) (hv t) hX2
        obtain ⟨M4, o2, hX4⟩ := XC_search (z := z) (d := e) (t := 1 - t) (come := -1) (gone := -1) (fl := -1) (by omega) ht' (hC _ ht') (hv (1 - t)) hX3
        -- the reference lays both best sums
        have hres : ∀ u, u < 2 → ∀ x, x < 12 → stq (μ (4 + 9 * u + 3)) (-1) (-1) x = ρ 90 (12 * u + x) ∨ (100 ≤ stq (μ (4 + 9 * u + 3)) (-1) (-1) x ∧ 100 ≤ ρ 90 (12 * u + x)) := fun u hu => st_none (hR u hu).2.2.1 (hC u hu).2.2.2.2.2.1
        obtain ⟨P1, p1, p2, p3⟩ := t_lbx (z := z) (d := e') (t := t) (come := -1) (gone := -1) (P0 := ρ) (by omega) ht (hC t ht) (hR t ht) c1 c5 c6 l2 l3 l4 (fun _ _ _ _ _ _ => rfl) (fun _ _ _ _ _ => rfl) rfl c7 (hres t ht)
        have e90 : P1 90 = ρ 90 := p2 90 (by omega) (by omega) (by omega) (by omega) (by omega)
        obtain ⟨P2, q1, q2, q3⟩ := t_lbx (z := z) (d := e') (t := 1 - t) (come := -1) (gone := -1) (P0 := P1) (by omega) ht' (hC _ ht') (hR _ ht') c1 c5 c6 l2 l3 l4 (fun x r1 r2 r3 r4 r5 => p2 x (by omega) (by omega) (by omega) (by omega) (by omega)) (fun k _ _ _ r => p3 k (by omega)) (p3 _ (by omega)) (by rw [e90]; exact c7) (by rw [e90]; exact hres _ ht')
        have hQR : QR ρ P2 := ⟨fun x r1 r2 r3 r4 => by rw [q2 x r1 r2 r3 (by omega) (by omega), p2 x r1 r2 r3 (by omega) (by omega)], fun k r => by rw [q3 k (by omega), p3 k (by omega)]⟩
        obtain ⟨P3, s1, hX3r⟩ := t_begins (z := z) (d := e') (by omega) hQR
        -- the pairs
        obtain ⟨g, hgd⟩ : ∃ g : Nat → Int, ∀ i, i < 144 → g i = exG μ N F (vlw μ L Nn lt Dv Dc) (evl Nn lt Dv Dc (tlX (μ 0 18) (t : Int) ((i / 12 : Nat) : Int) ((i % 12 : Nat) : Int)) 119 999 Nn 0) t (i / 12) (i % 12) := ⟨_, fun i _ => rfl⟩
        obtain ⟨R1, y1, y2⟩ := s_exloop (z := z) (e := e) (v := v) (g := g) (by omega) ht hw c8 l1 l3 l4 hC hv hgd 144 0 M4 (by omega) hX4
        obtain ⟨R2, x1, x2⟩ := t_exloop (z := z) (e := e') (v := v) (g := g) (by omega) ht hC hR c1 c5 c6 c7 l2 l3 l4 hgd 144 0 P3 (by omega) hX3r
        have z00 : ((0 : Nat) : Int) = 0 := rfl
        have z01 : ((1 : Nat) : Int) = 1 := rfl
        rw [z00] at m1 y1 x1
        rw [z01] at n1
        have y1' : f_W_exchange_62 z e (t : Int) v (bsv μ N F (vlw μ L Nn lt Dv Dc) t (-1) (-1)) (bsv μ N F (vlw μ L Nn lt Dv Dc) (1 - t) (-1) (-1)) 0 (-2) 0 0 M4 = some (exV v (exL g 144), R1) := y1
        have x1' : f_M_exchange_49 z e' (t : Int) v (bsv μ N F (vlw μ L Nn lt Dv Dc) t (-1) (-1)) (bsv μ N F (vlw μ L Nn lt Dv Dc) (1 - t) (-1) (-1)) 0 (-1) 0 0 P3 = some (exV v (exL g 144), R2) := x1
        have o1' : mC z e 109 [(2, 0), (0, (t : Int)), (0, -1), (0, -1), (0, -1)] M2 = some (bsv μ N F (vlw μ L Nn lt Dv Dc) t (-1) (-1), M3) := o1
        have o2' : mC z e 109 [(2, 0), (0, ((1 - t : Nat) : Int)), (0, -1), (0, -1), (0, -1)] M3 = some (bsv μ N F (vlw μ L Nn lt Dv Dc) (1 - t) (-1) (-1), M4) := o2
        rw [m1]
        simp -implicitDefEqProofs only [ob]
        rw [n1]
        simp -implicitDefEqProofs only [ob]
        rw [o1']
        simp -implicitDefEqProofs only [ob]
        rw [z1s ht, o2']
        simp -implicitDefEqProofs only [ob]
        rw [y1', p1]
        simp -implicitDefEqProofs only [ob]
        rw [q1]
        simp -implicitDefEqProofs only [ob]
        rw [s1]
        simp -implicitDefEqProofs only [ob]
        rw [x1']
        exact ⟨_, _, _, rfl, rfl, y2.1, x2.1⟩
      · rw [cF h3, decide_eq_false (show ¬ ((0 : Int) ≤ v ∧ v ≤ 3) by omega), cond_false, e_W_exchange_16, e_M_exchange_16]
        exact ⟨_, _, _, rfl, rfl, QC_refl _, QR_refl _⟩
  · rw [decide_eq_false h1, cond_false, cond_false, e_W_exchange_16, e_M_exchange_16]
    exact ⟨_, _, _, rfl, rfl, QC_refl _, QR_refl _⟩
