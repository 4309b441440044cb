/-! a law in both; checking in both -/
theorem bt_gl {μ ρ M P : Mu} {N F : Nat → Nat} {L : Nat → Nat → Nat} {wl wl' : Nat} (hB : BT μ ρ N F L wl) (m0 : M 0 18 = μ 0 18 ∧ M 0 19 = μ 0 19) (mr : ∀ a, (4 ≤ a ∧ a ≤ 8) ∨ (13 ≤ a ∧ a ≤ 17) ∨ a = 35 → M a = μ a) (pr : ∀ a, (87 ≤ a ∧ a ≤ 92) ∨ a = 94 ∨ a = 95 → P a = ρ a) (pk : ∀ k, k ≤ 1 ∨ (14 ≤ k ∧ k ≤ 17) → P 86 k = ρ 86 k) (hG : GL M P wl') : BT M P N F L wl' := by
  obtain ⟨hC, hR, ⟨c1, c2, c3, c4⟩, ⟨c5, c6⟩, ⟨w1, w2, w3⟩, _⟩ := hB
  refine ⟨fun s hs => SDc_rows (fun i hi => mr _ (by omega)) (hC s hs), fun s hs => ?_, ⟨by rw [m0.1, pk 1 (by omega)]; exact c1, by rw [m0.2, pk 0 (by omega)]; exact c2, by rw [m0.2]; exact c3, by rw [m0.2]; exact c4⟩, ⟨by rw [mr 35 (by omega)]; exact c5, fun k hk => by rw [mr 35 (by omega), pr 87 (by omega)]; exact c6 k hk⟩, ⟨by rw [pr 90 (by omega)]; exact w1, by rw [pr 91 (by omega)]; exact w2, by rw [pr 92 (by omega)]; exact w3⟩, hG⟩
  obtain ⟨b1, b2, b3, b4, b5, b6, b7⟩ := hR s hs
  have r : ∀ i, i ≤ 4 → M (4 + 9 * s + i) = μ (4 + 9 * s + i) := fun i hi => mr _ (by omega)
  refine ⟨by rw [pk _ (by omega)]; exact b1, ?_, by rw [r 3 (by omega), pr 90 (by omega)]; exact b3, by rw [r 3 (by omega), pr 91 (by omega)]; exact b4, by rw [r 3 (by omega), pr 92 (by omega)]; exact b5, by rw [r 1 (by omega), pr 88 (by omega)]; exact b6, by rw [r 2 (by omega), pr 89 (by omega)]; exact b7⟩
  rw [r 4 (by omega)]
  refine ⟨by rw [pk _ (by omega)]; exact b2.1, b2.2.1, fun w hw => ?_⟩
  obtain ⟨x1, x2, x3⟩ := b2.2.2 w hw
  exact ⟨x1, by rw [pr 95 (by omega)]; exact x2, rwd_congr x3 (fun k _ => by rw [pr 94 (by omega)])⟩
/-- the spare law of the class -/
def SP (μ : Mu) (wl : Nat) : Prop := ∃ ws, isLw ws ∧ wl ≠ ws ∧ μ 0 7 = (ws : Int) + 1
theorem law_both {z : zZ} {d d' wl : Nat} {v : Int} {μ ρ : Mu} {N F : Nat → Nat} {L : Nat → Nat → Nat} (hd : 68 ≤ d) (hd' : 10 ≤ d') (hB : BT μ ρ N F L wl) (hT : TI μ ρ) (hS : SP μ wl) : ∃ (r : Int) (M P : Mu), mC z d 44 [(2, 0), (0, v)] μ = some (r, M) ∧ mC z d' 208 [(2, 86), (0, v)] ρ = some (r, P) ∧ (∃ wl', BT M P N F L wl' ∧ SP M wl') ∧ TI M P ∧ (∀ a, 58 ≤ a → M a = μ a) ∧ (∀ k, 15 ≤ k → k ≤ 17 → M 0 k = μ 0 k) ∧ KR ρ P := by
  obtain ⟨sz, t1, t2, t3, t4⟩ := id hT
  obtain ⟨ws, s1, s2, s3⟩ := id hS
  by_cases h : 1 ≤ v ∧ v ≤ 200 ∧ v ≤ (sz : Int)
  · obtain ⟨n, rfl, hn1, hn2, hn3⟩ : ∃ n : Nat, v = (n : Int) ∧ 1 ≤ n ∧ n ≤ 200 ∧ n ≤ sz := ⟨v.toNat, by omega, by omega, by omega, by omega⟩
    obtain ⟨hw, c8, Nn, lt, Dv, Dc, l1, l2, l3⟩ := id hB.2.2.2.2.2
    obtain ⟨M, m1, m2, m3, m4, m5⟩ := s_law (z := z) (d := d) (n := n) (sz := sz) (wl := wl) (ws := ws) (μ := μ) hd hw s1 s2 c8 s3 t2 hn1 hn2 hn3 t4.1
    obtain ⟨P, p1, p2, p3, p4, p5⟩ := t_law (z := z) (d := d') (n := n) (sz := sz) (b := μ 2) (μ := ρ) hd' t3 hn1 hn2 hn3 t4
    have wsv : ws = 41 ∨ ws = 47 := s1
    have mr : ∀ a, a ≠ 0 → a ≠ 1 → a ≠ 40 → (a < 41 ∨ 51 < a) → M a = μ a := fun a q1 q2 q3 q4 => m2 a q1 q2 q3 (by omega) (by omega) (by omega) (by omega) (by omega)
    have hKR : KR ρ P := ⟨fun a q => p2 a (by omega) (by omega), fun k q => p4 k (by omega) (by omega) (by omega) (by omega) (by omega) (by omega) (by omega) (by omega) (by omega) (by omega), fun a q => p2 a (by omega) (by omega)⟩
    have hTI : TI M P := ⟨0, by omega, m3, by rw [p3]; rfl, by rw [mr 2 (by omega) (by omega) (by omega) (by omega)]; exact tpe_congr t4 (p2 93 (by omega) (by omega))⟩
    have hgl : ∀ wl', GL M P wl' → BT M P N F L wl' := fun wl' hG => bt_gl hB ⟨m4 18 (by omega) (by omega), m4 19 (by omega) (by omega)⟩ (fun a q => mr a (by omega) (by omega) (by omega) (by omega)) (fun a q => p2 a (by omega) (by omega)) (fun k q => p4 k (by omega) (by omega) (by omega) (by omega) (by omega) (by omega) (by omega) (by omega) (by omega) (by omega)) hG
    refine ⟨_, M, P, m1, p1, ?_, hTI, fun a q => mr a (by omega) (by omega) (by omega) (by omega), fun k q1 q2 => m4 k (by omega) (by omega), hKR⟩
    rcases m5 with ⟨f1, f2, f3⟩ | ⟨K, f1, f2, f3, f4, f5⟩
    · rcases p5 with ⟨g1, g2, g3, g4, g5, g6, g7⟩ | ⟨K', g1, _⟩
      · refine ⟨wl, hgl wl ?_, ws, s1, s2, f3⟩
        have wlv : wl = 41 ∨ wl = 47 := hw
        have mw : ∀ i, i ≤ 4 → M (wl + i) = μ (wl + i) := fun i hi => m2 _ (by omega) (by omega) (by omega) (by omega) (by omega) (by omega) (by omega) (by omega)
        have mw0 : M wl = μ wl := mw 0 (by omega)
        exact ⟨hw, f2, Nn, lt, Dv, Dc, lawC_congr l1 (by rw [mw0]) (by rw [mw0]) (mw 1 (by omega)) (mw 2 (by omega)) (mw 3 (by omega)) (mw 4 (by omega)), lawR_congr l2 g2 g3 g4 g5 g6 g7, l3⟩
      · rw [g1] at f1; exact absurd f1 (by omega)
    · rcases p5 with ⟨g1, _⟩ | ⟨K', g1, g2, g3⟩
      · rw [f1] at g1; exact absurd g1 (by omega)
      · have eK : K' = K := by rw [f1] at g1; omega
        subst eK
        exact ⟨ws, hgl ws ⟨s1, f3, K', _, _, _, f5, g3, dep_v _ _, dep_c _ _⟩, wl, hw, Ne.symm s2, f4⟩
  · rw [s_law_no (by omega) t2 h, t_law_no (by omega) t3 h]
    exact ⟨_, _, _, rfl, rfl, ⟨wl, hB, hS⟩, hT, fun _ _ => rfl, fun _ _ _ => rfl, KR_refl ρ⟩
set_option maxRecDepth 100000 in
theorem zdiv4 : ∀ n : Nat, n < 221 → z_div (n : Int) 4 = ((n / 4 : Nat) : Int) := by decide +kernel
theorem check_both {z : zZ} {d d' wl : Nat} {s v : Int} {μ ρ : Mu} {N F : Nat → Nat} {L : Nat → Nat → Nat} (hd : 5 ≤ d) (hd' : 3 ≤ d') (hB : BT μ ρ N F L wl) (hT : TI μ ρ) : GO z d d' 174 306 [(0, s), (0, v)] [(0, s), (0, v)] μ ρ (fun M P => BT M P N F L wl ∧ TI M P ∧ M 0 = μ 0) := by
  obtain ⟨e, rfl, he⟩ := pred_of (k := 4) hd
  obtain ⟨e', rfl, he'⟩ := pred_of (k := 2) hd'
  obtain ⟨sz, t1, t2, t3, t4⟩ := id hT
  unfold GO
  rw [c_W_check, c_M_check, s_isSide (by omega), t_isSide (by omega)]
  simp -implicitDefEqProofs only [ob]
  rw [cB, cB]
  by_cases h0 : s = 0 ∨ s = 1
  · rw [decide_eq_true h0, cond_true, cond_true, t_in (by omega)]
    simp -implicitDefEqProofs only [ob]
    rw [cB]
    by_cases h1 : 0 ≤ v ∧ v ≤ 12
    · obtain ⟨s, rfl, hs⟩ : ∃ t : Nat, s = (t : Int) ∧ t < 2 := ⟨s.toNat, by omega, by omega⟩
      obtain ⟨n, rfl, hn⟩ : ∃ t : Nat, v = (t : Int) ∧ t ≤ 12 := ⟨v.toNat, by omega, by omega⟩
      have e4 : zw (4 * (n : Int)) = ((4 * n : Nat) : Int) := by rw [zw_id (by omega) (by omega)]; omega
      rw [decide_eq_true h1, cond_true, cF (show ¬ (n : Int) < 0 by omega), cF (show ¬ (12 : Int) < (n : Int) by omega), e4]
      have ez : z_div (ρ 86 9) 4 = ((sz / 4 : Nat) : Int) := by rw [t3]; exact zdiv4 sz (by omega)
      by_cases h2 : 4 * n ≤ sz
      · rw [cT (show ((4 * n : Nat) : Int) ≤ μ 1 1 by omega), cT (show (n : Int) ≤ z_div (ρ 86 9) 4 by rw [ez]; omega), e_W_check_33, e4, s_open (by omega) (by omega)]
        simp -implicitDefEqProofs only [ob]
        obtain ⟨q, hq⟩ := s_check (z := z) (e := e) (n := n) (s := s) (μ := opM μ ((4 * n : Nat) : Int)) (by omega) hs hn opM_2 opM_3
        have g3 := (hB.2.1 s hs).2.2.1
        have hr := t_check (z := z) (e := e') (n := n) (s := s) (b := μ 2) (h := μ (4 + 9 * s + 3)) (μ := zup ρ 86 9 0) (by omega) hs hn (tpe_congr t4 (zup_ro (by omega))) (fun k hk => by rw [zup_ro (by omega)]; have := g3 k hk; rw [Nat.zero_add] at this; exact this)
        rw [opM_r (show (2 : Nat) ≠ 1 by omega), opM_r (show 4 + 9 * s + 3 ≠ 1 by omega)] at hq
        rw [hq, hr]
        have n1 : ∀ a, a ≠ 1 → zup (opM μ ((4 * n : Nat) : Int)) 1 2 q a = μ a := fun a qa => by rw [zup_ro qa, opM_r qa]
        exact ⟨_, _, _, rfl, rfl, ⟨bt_rows hB ⟨by rw [n1 0 (by omega)], by rw [n1 0 (by omega)], by rw [n1 0 (by omega)]⟩ (fun a _ => n1 a (by omega)) (fun a _ => zup_ro (by omega)) (fun k _ => zup_nk (by omega)), ⟨0, by omega, by rw [zup_nk (by omega)]; exact opM_1, by rw [zup_hit]; rfl, by rw [n1 2 (by omega)]; exact tpe_congr t4 (zup_ro (by omega))⟩, n1 0 (by omega)⟩, ⟨fun a _ _ => n1 a (by omega), fun k _ _ => by rw [n1 0 (by omega)], fun a _ => n1 a (by omega)⟩, ⟨fun a _ => zup_ro (by omega), fun k _ => zup_nk (by omega), fun a _ => zup_ro (by omega)⟩⟩
      · rw [cF (show ¬ ((4 * n : Nat) : Int) ≤ μ 1 1 by omega), cF (show ¬ (n : Int) ≤ z_div (ρ 86 9) 4 by rw [ez]; omega), e_W_check_30, e_M_check_27]
        exact ⟨_, _, _, rfl, rfl, ⟨hB, hT, rfl⟩, KF_refl μ, KR_refl ρ⟩
    · rw [decide_eq_false h1, cond_false, e_M_check_27]
      by_cases h2 : v < 0
      · rw [cT h2, e_W_check_30]
        exact ⟨_, _, _, rfl, rfl, ⟨hB, hT, rfl⟩, KF_refl μ, KR_refl ρ⟩
      · rw [cF h2, cT (by omega), e_W_check_30]
        exact ⟨_, _, _, rfl, rfl, ⟨hB, hT, rfl⟩, KF_refl μ, KR_refl ρ⟩
  · rw [decide_eq_false h0, cond_false, cond_false, e_W_check_30, e_M_check_27]
    exact ⟨_, _, _, rfl, rfl, ⟨hB, hT, rfl⟩, KF_refl μ, KR_refl ρ⟩
