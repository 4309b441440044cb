/-! what a question may change -/
def QC (μ M : Mu) : Prop := (∀ a, a ≠ 53 → a ≠ 41 → a ≠ 46 → a ≠ 47 → a ≠ 52 → (a < 23 ∨ 34 < a) → (a < 54 ∨ 57 < a) → M a = μ a) ∧ ∀ k, k ≠ 7 → k ≠ 8 → M 41 k = μ 41 k ∧ M 47 k = μ 47 k
def QR (ρ P : Mu) : Prop := (∀ a, a ≠ 86 → a ≠ 109 → a ≠ 110 → (a < 118 ∨ 127 < a) → P a = ρ a) ∧ ∀ k, (k < 53 ∨ 66 < k) → P 86 k = ρ 86 k
theorem QC_refl (μ : Mu) : QC μ μ := ⟨fun _ _ _ _ _ _ _ _ => rfl, fun _ _ _ => ⟨rfl, rfl⟩⟩
theorem QR_refl (ρ : Mu) : QR ρ ρ := ⟨fun _ _ _ _ _ => rfl, fun _ _ => rfl⟩
theorem QC_trans {A B C : Mu} (h1 : QC A B) (h2 : QC B C) : QC A C := ⟨fun a q1 q2 q3 q4 q5 q6 q7 => by rw [h2.1 a q1 q2 q3 q4 q5 q6 q7, h1.1 a q1 q2 q3 q4 q5 q6 q7], fun k q r => ⟨by rw [(h2.2 k q r).1, (h1.2 k q r).1], by rw [(h2.2 k q r).2, (h1.2 k q r).2]⟩⟩
theorem QR_trans {A B C : Mu} (h1 : QR A B) (h2 : QR B C) : QR A C := ⟨fun a q1 q2 q3 q4 => by rw [h2.1 a q1 q2 q3 q4, h1.1 a q1 q2 q3 q4], fun k q => by rw [h2.2 k q, h1.2 k q]⟩
theorem bt_q {μ ρ M P : Mu} {N F : Nat → Nat} {L : Nat → Nat → Nat} {wl : Nat} (hB : BT μ ρ N F L wl) (hM : QC μ M) (hP : QR ρ P) : BT M P N F L wl := by
  obtain ⟨hC, hR, ⟨c1, c2, c3, c4⟩, ⟨c5, c6⟩, c7, hw, c8, Nn, lt, Dv, Dc, l1, l2, l3⟩ := hB
  have p1 : ∀ a, 87 ≤ a → a ≤ 108 → P a = ρ a := fun a h1 h2 => hP.1 a (by omega) (by omega) (by omega) (Or.inl (by omega))
  have p2 : ∀ k, k < 53 → P 86 k = ρ 86 k := fun k h => hP.2 k (Or.inl h)
  have mlo : ∀ a, a < 23 → M a = μ a := fun a h => hM.1 a (by omega) (by omega) (by omega) (by omega) (by omega) (Or.inl h) (Or.inl (by omega))
  have m35 : M 35 = μ 35 := hM.1 35 (by omega) (by omega) (by omega) (by omega) (by omega) (Or.inr (by omega)) (Or.inl (by omega))
  have mo : ∀ t i, t < 2 → i ≤ 4 → M (4 + 9 * t + i) = μ (4 + 9 * t + i) := fun t i ht hi => mlo _ (by omega)
  refine ⟨fun t ht => ?_, fun t ht => ?_, ?_⟩
  · have r0 : M (4 + 9 * t) = μ (4 + 9 * t) := mo t 0 ht (by omega)
    unfold SDc
    rw [r0, mo t 1 ht (by omega), mo t 2 ht (by omega), mo t 3 ht (by omega), mo t 4 ht (by omega)]
    exact hC t ht
  · obtain ⟨b1, b2, b3, b4, b5, b6, b7⟩ := hR t ht
    unfold SDr
    rw [mo t 1 ht (by omega), mo t 2 ht (by omega), mo t 3 ht (by omega), mo t 4 ht (by omega), p1 90 (by omega) (by omega), p1 91 (by omega) (by omega), p1 92 (by omega) (by omega), p1 88 (by omega) (by omega), p1 89 (by omega) (by omega), p2 (16 + t) (by omega)]
    refine ⟨b1, ⟨by rw [p2 _ (by omega)]; exact b2.1, b2.2.1, fun w hw2 => ?_⟩, b3, b4, b5, b6, b7⟩
    obtain ⟨k1, k2, k3⟩ := b2.2.2 w hw2
    exact ⟨k1, by rw [p1 95 (by omega) (by omega)]; exact k2, rwd_congr k3 (fun k _ => by rw [p1 94 (by omega) (by omega)])⟩
  · have m0 : M 0 = μ 0 := mlo 0 (by omega)
    have ml : ∀ i, 1 ≤ i → i ≤ 4 → M (wl + i) = μ (wl + i) := fun i h1 h2 => hM.1 _ (by rcases hw with h | h <;> omega) (by rcases hw with h | h <;> omega) (by rcases hw with h | h <;> omega) (by rcases hw with h | h <;> omega) (by rcases hw with h | h <;> omega) (Or.inr (by rcases hw with h | h <;> omega)) (Or.inl (by rcases hw with h | h <;> omega))
    have mw : ∀ k, k ≠ 7 → k ≠ 8 → M wl k = μ wl k := fun k h1 h2 => by
      rcases hw with h | h
      · subst h; exact (hM.2 k h1 h2).1
      · subst h; exact (hM.2 k h1 h2).2
    exact ⟨⟨by rw [m0, p2 1 (by omega)]; exact c1, by rw [m0, p2 0 (by omega)]; exact c2, by rw [m0]; exact c3, by rw [m0]; exact c4⟩, ⟨by rw [m35]; exact c5, fun k hk => by rw [m35, p1 87 (by omega) (by omega)]; exact c6 k hk⟩, by rw [p1 90 (by omega) (by omega), p1 91 (by omega) (by omega), p1 92 (by omega) (by omega)]; exact c7, hw, by rw [m0]; exact c8, Nn, lt, Dv, Dc, lawC_congr l1 (mw 3 (by omega) (by omega)) (mw 5 (by omega) (by omega)) (ml 1 (by omega) (by omega)) (ml 2 (by omega) (by omega)) (ml 3 (by omega) (by omega)) (ml 4 (by omega) (by omega)), lawR_congr l2 (p2 27 (by omega)) (p1 _ (by omega) (by omega)) (p1 _ (by omega) (by omega)) (p1 _ (by omega) (by omega)) (p1 _ (by omega) (by omega)) (p1 _ (by omega) (by omega)), l3⟩
theorem QC_lfa {wl : Nat} {μ M : Mu} (hw : isLw wl) (h : lfa wl μ M) : QC μ M := by
  rcases hw with e | e
  · subst e
    exact ⟨fun a q1 q2 q3 q4 q5 _ _ => h.1 a q1 q2 q3, fun k q1 q2 => ⟨h.2 k q1 q2, by rw [h.1 47 (by omega) (by omega) (by omega)]⟩⟩
  · subst e
    exact ⟨fun a q1 q2 q3 q4 q5 _ _ => h.1 a q1 q4 q5, fun k q1 q2 => ⟨by rw [h.1 41 (by omega) (by omega) (by omega)], h.2 k q1 q2⟩⟩
theorem QC_pcr {s wl : Nat} {μ M : Mu} (hs : s < 2) (hw : isLw wl) (h : pcr (23 + 6 * s) wl μ M) : QC μ M := by
  rcases hw with e | e
  · subst e
    exact ⟨fun a q1 q2 q3 q4 q5 q6 _ => h.1 a q1 q2 q3 (by omega) (by omega) (by omega) (by omega) (by omega), fun k q1 q2 => ⟨h.2.1 k q1 q2, by rw [h.1 47 (by omega) (by omega) (by omega) (by omega) (by omega) (by omega) (by omega) (by omega)]⟩⟩
  · subst e
    exact ⟨fun a q1 q2 q3 q4 q5 q6 _ => h.1 a q1 q4 q5 (by omega) (by omega) (by omega) (by omega) (by omega), fun k q1 q2 => ⟨by rw [h.1 41 (by omega) (by omega) (by omega) (by omega) (by omega) (by omega) (by omega) (by omega)], h.2.1 k q1 q2⟩⟩
theorem QC_cho {s : Nat} {μ M : Mu} (hs : s < 2) (h : ∀ a, a ≠ 23 + 6 * s → a ≠ 23 + 6 * s + 5 → M a = μ a) : QC μ M := ⟨fun a q1 q2 q3 q4 q5 q6 q7 => h a (by omega) (by omega), fun k _ _ => ⟨by rw [h 41 (by omega) (by omega)], by rw [h 47 (by omega) (by omega)]⟩⟩
theorem bsT_st {N f room : Nat} {val W : Nat → Int} {st st' : Nat → Int} {fl : Int} (h : ∀ x, x < 12 → st x = st' x ∨ (100 ≤ st x ∧ 100 ≤ st' x)) : bsT N f val W room st fl = bsT N f val W room st' fl := by
  unfold bsT
  exact scn_congr _ (fun T _ => gT_congr (okT_st (fun w x => tms_rg (W w) 8 x) h))
theorem stq_no {h : Row} {x : Nat} : stq h (-1) (-1) x = clq (h x) := by
  unfold stq
  rw [if_neg (by omega), Int.add_zero, Int.sub_zero]
/-- a question that both answer alike -/
def QU (z : zZ) (d d' ic ir : Nat) (ac ar : List (Nat × Int)) (μ ρ : Mu) : Prop := ∃ (r : Int) (M P : Mu), mC z d ic ac μ = some (r, M) ∧ mC z d' ir ar ρ = some (r, P) ∧ QC μ M ∧ QR ρ P
theorem best_both {z : zZ} {d d' wl : Nat} {s w : Int} {μ ρ : Mu} {N F : Nat → Nat} {L : Nat → Nat → Nat} (hd : 18 ≤ d) (hd' : 8 ≤ d') (hB : BT μ ρ N F L wl) : QU z d d' 104 262 [(2, 0), (0, s), (0, w)] [(2, 86), (0, s), (0, w)] μ ρ := by
  obtain ⟨e, rfl, he⟩ := pred_of (k := 17) hd
  obtain ⟨e', rfl, he'⟩ := pred_of (k := 7) hd'
  unfold QU
  rw [c_W_best, c_M_best, s_isSide (by omega), t_isSide (by omega)]
  simp -implicitDefEqProofs only [ob]
  rw [cB, cB]
  by_cases h1 : s = 0 ∨ s = 1
  · rw [decide_eq_true h1, cond_true, cond_true, t_in (by omega)]
    simp -implicitDefEqProofs only [ob]
    rw [nB]
    by_cases h2 : w < 0
    · rw [cT h2, decide_eq_false (show ¬ ((0 : Int) ≤ w ∧ w ≤ 1) by omega), cond_false, e_W_best_16, e_M_best_16]
      exact ⟨_, _, _, rfl, rfl, QC_refl _, QR_refl _⟩
    · rw [cF h2]
      by_cases h3 : w ≤ 1
      · rw [cT h3, decide_eq_true (show (0 : Int) ≤ w ∧ w ≤ 1 by omega), cond_true]
        obtain ⟨t, rfl, ht⟩ : ∃ t : Nat, s = (t : Int) ∧ t < 2 := ⟨s.toNat, by omega, by omega⟩
        obtain ⟨a1, a2, a3, a4, a5, a6, a7, a8, a9, a10, a11, a12⟩ := hB.1 t ht
        obtain ⟨b1, b2, b3, b4, b5, b6, b7⟩ := hB.2.1 t ht
        obtain ⟨⟨c1, c2, c3, c4⟩, ⟨c5, c6⟩, ⟨c7, _, _⟩, hw, c8, Nn, lt, Dv, Dc, l1, l2, l3, l4⟩ := hB.2.2
        obtain ⟨M1, m1, m2, m3⟩ := s_prep (z := z) (d := e) (by omega) ht hw c8 l1 l3 l4 c5 a1 a2 a3 (f4096 a4 a2) (fun w hw => (a9 w hw).1)
        have hwo : ∀ i, i ≤ 4 → 4 + 9 * t + i ≠ wl ∧ 4 + 9 * t + i ≠ wl + 5 := by intro i hi; rcases hw with h | h <;> omega
        have r0 : M1 (4 + 9 * t) = μ (4 + 9 * t) := m2.1 _ (by omega) (hwo 0 (by omega)).1 (hwo 0 (by omega)).2 (by omega) (by omega) (by omega) (by omega) (by omega)
        have r3 : M1 (4 + 9 * t + 3) = μ (4 + 9 * t + 3) := m2.1 _ (by omega) (hwo 3 (by omega)).1 (hwo 3 (by omega)).2 (by omega) (by omega) (by omega) (by omega) (by omega)
        obtain ⟨M2, n1, n2, n3, n4, n5⟩ := s_searchBest (z := z) (d := e) (come := -1) (gone := -1) (fl := -1) (μ := M1) (by omega) ht (by rw [r0]; exact a3) (f4096 a4 a2) a5 (by rw [r3]; exact a6) m3 (fun w => wrt_rg)
        obtain ⟨P, q1, q2, q3, q4⟩ := t_laysBest (z := z) (d := e') (by omega) ht b2 b1 a4 a5 c7 l2 l3 l4 c5 c6
        rw [r3] at n1 n2 n3
        rw [bsT_st (st' := fun x => ρ 90 (12 * t + x)) (fun x hx => by
          have hp := b3 x hx
          rw [Nat.zero_add] at hp
          have hq := clq_id (v := μ (4 + 9 * t + 3) x) (a6 x).1
          rw [stq_no, hp]
          exact hq)] at n1 n2 n3
        rw [← c1] at q1 q2
        have hQC : QC μ M2 := QC_trans (QC_pcr ht hw m2) (QC_cho ht n4)
        have hQR : QR ρ P := ⟨fun a g1 g2 g3 g4 => q3 a g1 g2 g3 (by omega) (by omega), fun k g => q4 k (by omega)⟩
        rw [m1]
        simp -implicitDefEqProofs only [ob]
        rw [n1]
        simp -implicitDefEqProofs only [ob]
        rw [q1]
        simp -implicitDefEqProofs only [ob]
        by_cases h0 : w = 0
        · rw [nT h0, nT h0, e_W_best_36 _ _ _ _ _ (by omega), e_W_best_57, e_M_best_36, Int.toNat_natCast, n2]
          exact ⟨_, _, _, rfl, rfl, hQC, hQR⟩
        · rw [nF h0, nF h0, e_W_best_48 _ _ _ _ (by omega), e_W_best_57, e_M_best_36, Int.toNat_natCast, n3, q2]
          exact ⟨_, _, _, rfl, rfl, hQC, hQR⟩
      · rw [cF h3, decide_eq_false (show ¬ ((0 : Int) ≤ w ∧ w ≤ 1) by omega), cond_false, e_W_best_16, e_M_best_16]
        exact ⟨_, _, _, rfl, rfl, QC_refl _, QR_refl _⟩
  · rw [decide_eq_false h1, cond_false, cond_false, e_W_best_16, e_M_best_16]
    exact ⟨_, _, _, rfl, rfl, QC_refl _, QR_refl _⟩
