/-! fight and forget, whole calls -/
def FQ (z : zZ) (d d' ic ir : Nat) (ac ar : List (Nat × Int)) (μ ρ : Mu) (N F : Nat → Nat) (L : Nat → Nat → Nat) (wl : Nat) : Prop := ∃ (r : Int) (M P : Mu), mC z d ic ac μ = some (r, M) ∧ mC z d' ir ar ρ = some (r, P) ∧ (BT M P N F L wl ∧ TI M P) ∧ (∃ A B n, FIc A B n M ∧ FIr A B n P) ∧ ((∀ a, a ≠ 1 → a ≠ 58 → a ≠ 59 → M a = μ a) ∧ ∀ k, k ≠ 0 → k ≠ 8 → k ≠ 9 → M 58 k = μ 58 k) ∧ (∀ a, a ≠ 86 → (a < 111 ∨ 117 < a) → a ≠ 128 → a ≠ 129 → P a = ρ a) ∧ ∀ k, k ≠ 9 → k ≠ 10 → k ≠ 11 → k ≠ 12 → k ≠ 13 → k ≠ 48 → k ≠ 67 → P 86 k = ρ 86 k
theorem ffF_sp {b : Row} {n : Nat} : ffF b n ≤ 0 := by
  unfold ffF
  have h1 := wF_neg b n 0
  have h2 := wF_neg b n (0 + wln b n 0 + 1)
  split
  · exact h1
  · split
    · omega
    · exact h2
theorem t_ftake {z : zZ} {d n : Nat} {b : Row} {ρ : Mu} (hd : 6 ≤ d) (hn3 : 3 ≤ n) (hn : n ≤ 17) (h9 : (n : Int) ≤ ρ 86 9) (hb : tpe ρ b) : ∃ P, mC z d 281 [(2, 86), (0, (n : Int))] ρ = (if ffG b n ≠ 0 then some (ffG b n, P) else f_M_fight_81 z (d - 1) 0 P) ∧ P 86 9 = 0 ∧ (∀ a, a ≠ 86 → (a < 111 ∨ 117 < a) → P a = ρ a) ∧ (∀ k, k ≠ 9 → k ≠ 10 → k ≠ 11 → k ≠ 12 → k ≠ 13 → k ≠ 48 → P 86 k = ρ 86 k) ∧ (ffG b n = 0 → 1 ≤ wln b n 0 ∧ P 113 0 = ((wln b n 0 : Nat) : Int) ∧ rwd P 112 (8 * 0) (wln b n 0) (wcd b 0 (wln b n 0)) ∧ 1 ≤ wln b n (0 + wln b n 0 + 1) ∧ P 115 0 = ((wln b n (0 + wln b n 0 + 1) : Nat) : Int) ∧ rwd P 114 (8 * 0) (wln b n (0 + wln b n 0 + 1)) (wcd b (0 + wln b n 0 + 1) (wln b n (0 + wln b n 0 + 1)))) := by
  obtain ⟨e, rfl, he⟩ := pred_of (k := 5) hd
  rw [Nat.add_sub_cancel]
  generalize hZ : zup (zup (zup ρ 86 10 0) 86 11 (n : Int)) 86 48 0 = Z
  have z10 : Z 86 10 = ((0 : Nat) : Int) := by subst hZ; rw [zup_nk (by omega), zup_nk (by omega)]; exact zup_hit
  have z11 : Z 86 11 = (n : Int) := by subst hZ; rw [zup_nk (by omega)]; exact zup_hit
  have z48 : Z 86 48 = ((0 : Nat) : Int) := by subst hZ; exact zup_hit
  have zr : ∀ a, a ≠ 86 → Z a = ρ a := fun a q => by subst hZ; rw [zup_ro q, zup_ro q, zup_ro q]
  have zk : ∀ k, k ≠ 10 → k ≠ 11 → k ≠ 48 → Z 86 k = ρ 86 k := fun k q1 q2 q3 => by subst hZ; rw [zup_nk q3, zup_nk q2, zup_nk q1]
  obtain ⟨r, M, m1, m2, m3, m4, m5⟩ := t_attack (z := z) (d := e) (p := 0) (n := n) (k := 0) (b := b) (μ := Z) he z10 z11 z48 (by omega) (by omega) (by omega) (tpe_congr hb (zr 93 (by omega))) (ffF b n) rfl
  have fr1 : ∀ a, a ≠ 86 → (a < 111 ∨ 117 < a) → M a = ρ a := fun a q1 q2 => by rw [m2.1 a q1 q2, zr a q1]
  have fr2 : ∀ k, k ≠ 10 → k ≠ 11 → k ≠ 12 → k ≠ 13 → k ≠ 48 → M 86 k = ρ 86 k := fun k q1 q2 q3 q4 q5 => by rw [m2.2.1 k q1 q3 q4 q5, zk k q1 q2 q5]
  have hin := t_in (z := z) (d := e) (l := (n : Int)) (a := 3) (b := 17) (μ := ρ) (by omega)
  rw [c_M_fight, hin]
  simp -implicitDefEqProofs only [ob]
  rw [cB, decide_eq_true (show (3 : Int) ≤ (n : Int) ∧ (n : Int) ≤ 17 by omega), cond_true, cT h9, hZ, m1]
  simp -implicitDefEqProofs only [ob]
  rw [cB]
  rcases m5 with ⟨g1, g2, g3, g4, g5, g6, g7, g8, g9⟩ | ⟨g1, g2, g3⟩
  · subst g2
    have k11 : M 86 11 = (n : Int) := by rw [m2.2.1 11 (by omega) (by omega) (by omega) (by omega)]; exact z11
    have k10 : M 86 10 = ((ffE b n : Nat) : Int) := g3
    rw [cond_true]
    unfold ffG
    rw [if_neg (fun q => q g1)]
    by_cases c : ffE b n < n
    · have hE : ffE b n ≤ 17 := by omega
      rw [cF (show ¬ M 86 11 ≤ M 86 10 by rw [k11, k10]; omega), k10, t_wrongAt (by omega) (by omega) (by omega)]
      simp -implicitDefEqProofs only [ob]
      rw [e_M_fight_65, nT rfl, if_pos c]
      refine ⟨zup (zup M 86 12 (-1000 * 1 - ((ffE b n : Nat) : Int))) 86 9 0, ?_, zup_hit, fun a q1 q2 => by rw [zup_ro q1, zup_ro q1, fr1 a q1 q2], fun k q0 q1 q2 q3 q4 q5 => by rw [zup_nk q0, zup_nk q3, fr2 k q1 q2 q3 q4 q5], fun q => absurd q (by omega)⟩
      rw [if_pos (show -1000 - ((ffE b n : Nat) : Int) ≠ 0 by omega), zup_hit]
      have e1 : -1000 * 1 - ((ffE b n : Nat) : Int) = -1000 - ((ffE b n : Nat) : Int) := by omega
      rw [e1]
    · rw [cT (show M 86 11 ≤ M 86 10 by rw [k11, k10]; omega), e_M_fight_65, nF (by decide), if_neg c]
      refine ⟨zup M 86 9 0, ?_, zup_hit, fun a q1 q2 => by rw [zup_ro q1, fr1 a q1 q2], fun k q0 q1 q2 q3 q4 q5 => by rw [zup_nk q0, fr2 k q1 q2 q3 q4 q5], fun _ => ⟨g4, by rw [zup_ro (by omega)]; exact g5, rwd_congr g6 (fun k _ => by rw [zup_ro (by omega)]), g7, by rw [zup_ro (by omega)]; exact g8, rwd_congr g9 (fun k _ => by rw [zup_ro (by omega)])⟩⟩
      rw [if_neg (show ¬ ((0 : Int) ≠ 0) by decide)]
  · subst g2
    have hG : ffG b n = ffF b n := by unfold ffG; rw [if_pos g1]
    rw [cond_false, e_M_fight_65, bi_f, nT rfl, hG]
    refine ⟨zup M 86 9 0, ?_, zup_hit, fun a q1 q2 => by rw [zup_ro q1, fr1 a q1 q2], fun k q0 q1 q2 q3 q4 q5 => by rw [zup_nk q0, fr2 k q1 q2 q3 q4 q5], fun q => absurd q g1⟩
    rw [if_pos g1, g3]
theorem fight_both {z : zZ} {d d' wl n0 : Nat} {v : Int} {A B : Nat → Nat} {μ ρ : Mu} {N F : Nat → Nat} {L : Nat → Nat → Nat} (hd : 6 ≤ d) (hd' : 6 ≤ d') (hB : BT μ ρ N F L wl) (hT : TI μ ρ) (hF : FIc A B n0 μ) (hR : FIr A B n0 ρ) : FQ z d d' 137 281 [(2, 0), (0, v)] [(2, 86), (0, v)] μ ρ N F L wl := by
  obtain ⟨sz, t1, t2, t3, t4⟩ := id hT
  obtain ⟨e, rfl, he⟩ := pred_of (k := 5) hd
  by_cases h : 3 ≤ v ∧ v ≤ 17 ∧ v ≤ (sz : Int)
  · obtain ⟨n, rfl, hn1, hn2, hn3⟩ : ∃ n : Nat, v = (n : Int) ∧ 3 ≤ n ∧ n ≤ 17 ∧ n ≤ sz := ⟨v.toNat, by omega, by omega, by omega, by omega⟩
    obtain ⟨M, m1, m2, m3⟩ := s_ftake (z := z) (d := e) (n := n) (μ := opM μ (n : Int)) he opM_2 opM_3 opM_4 (by omega) (by rw [opM_r (by omega)]; exact t4.1)
    rw [opM_r (show (2 : Nat) ≠ 1 by omega)] at m1
    obtain ⟨P, p1, p2, p3, p4, p5⟩ := t_ftake (z := z) (d := d') (n := n) (b := μ 2) (ρ := ρ) hd' hn1 hn2 (by rw [t3]; omega) t4
    have hc : mC z (e + 1) 137 [(2, 0), (0, (n : Int))] μ = (mC z e 138 [(2, 58), (2, 1)] (opM μ (n : Int))).bind fun q3 => (some (q3.1, q3.2)) := by
      rw [c_W_fight, s_holdsText (by omega) t2]
      simp -implicitDefEqProofs only [ob]
      rw [nB, decide_eq_true (show (3 : Int) ≤ (n : Int) ∧ (n : Int) ≤ 17 ∧ (n : Int) ≤ (sz : Int) by omega), cond_true, s_open (by omega) (by omega)]
      simp -implicitDefEqProofs only [ob]
    rw [m1] at hc
    have n1 : ∀ a, a ≠ 1 → M a = μ a := fun a q => by rw [m2 a q, opM_r q]
    have n11 : M 1 1 = 0 := by rw [m3]; exact opM_1
    have hMF : FIc A B n0 M := by
      obtain ⟨f1, f2, f3, f4, f5⟩ := hF
      refine ⟨f1, by rw [n1 58 (by omega)]; exact f2, by rw [n1 59 (by omega)]; exact f3, ?_, ?_⟩
      · rw [n1 58 (by omega)]
        rcases f4 with f4 | ⟨f4, f6, f7⟩
        · exact Or.inl f4
        · exact Or.inr ⟨f4, fun x hx => by rw [n1 61 (by omega)]; exact f6 x hx, fun s hs => by rw [n1 62 (by omega)]; exact f7 s hs⟩
      · rw [n1 58 (by omega)]
        rcases f5 with f5 | ⟨f5, f6⟩
        · exact Or.inl f5
        · exact Or.inr ⟨f5, fun a b q1 q2 => by rw [n1 64 (by omega)]; exact f6 a b q1 q2⟩
    have hPF : FIr A B n0 P := by
      obtain ⟨f1, f2, f3, f4⟩ := hR
      exact ⟨f1, by rw [p4 67 (by omega) (by omega) (by omega) (by omega) (by omega) (by omega)]; exact f2, f3, fun i hi => by rw [p3 128 (by omega) (by omega), p3 129 (by omega) (by omega)]; exact f4 i hi⟩
    have hBT : ∀ M' P' : Mu, (∀ a, a ≠ 1 → a ≠ 58 → a ≠ 59 → M' a = μ a) → (∀ a, a ≠ 86 → (a < 111 ∨ 117 < a) → a ≠ 128 → a ≠ 129 → P' a = ρ a) → (∀ k, k ≠ 9 → k ≠ 10 → k ≠ 11 → k ≠ 12 → k ≠ 13 → k ≠ 48 → k ≠ 67 → P' 86 k = ρ 86 k) → M' 1 1 = 0 → P' 86 9 = 0 → BT M' P' N F L wl ∧ TI M' P' := fun M' P' r1 r2 r3 r4 r5 => ⟨bt_rows hB ⟨by rw [r1 0 (by omega) (by omega) (by omega)], by rw [r1 0 (by omega) (by omega) (by omega)], by rw [r1 0 (by omega) (by omega) (by omega)]⟩ (fun a q => r1 a (by omega) (by omega) (by omega)) (fun a q => r2 a (by omega) (by omega) (by omega) (by omega)) (fun k q => r3 k (by omega) (by omega) (by omega) (by omega) (by omega) (by omega) (by omega)), 0, by omega, r4, by rw [r5]; rfl, by rw [r1 2 (by omega) (by omega) (by omega)]; exact tpe_congr t4 (r2 93 (by omega) (by omega) (by omega) (by omega))⟩
    have simple : ∀ r : Int, mC z (e + 1) 137 [(2, 0), (0, (n : Int))] μ = some (r, M) → mC z d' 281 [(2, 86), (0, (n : Int))] ρ = some (r, P) → FQ z (e + 1) d' 137 281 [(2, 0), (0, (n : Int))] [(2, 86), (0, (n : Int))] μ ρ N F L wl := fun r h1 h2 => ⟨r, M, P, h1, h2, hBT M P (fun a q _ _ => n1 a q) (fun a q1 q2 _ _ => p3 a q1 q2) (fun k q1 q2 q3 q4 q5 q6 _ => p4 k q1 q2 q3 q4 q5 q6) n11 p2, ⟨A, B, n0, hMF, hPF⟩, ⟨fun a q _ _ => n1 a q, fun k _ _ _ => by rw [n1 58 (by omega)]⟩, fun a q1 q2 _ _ => p3 a q1 q2, fun k q1 q2 q3 q4 q5 q6 _ => p4 k q1 q2 q3 q4 q5 q6⟩
    by_cases hG : ffG (μ 2) n ≠ 0
    · rw [if_pos hG] at hc p1
      simp -implicitDefEqProofs only [ob] at hc
      exact simple _ hc p1
    · have hG0 : ffG (μ 2) n = 0 := by
        rcases Classical.em (ffG (μ 2) n = 0) with h | h
        · exact h
        · exact absurd h hG
      obtain ⟨k1, k2, k3, k4, k5, k6⟩ := p5 hG0
      rw [if_neg hG] at hc p1
      rcases fight_go (z := z) (e := e - 1) (e' := d' - 1) (M := M) (P := P) (n := n0) (by omega) k3.1 k6.1 hF.1 hMF.2.1 hPF.2.1 k2 k5 (fun k hk => by have := k3.2 k hk; rw [Nat.mul_zero, Nat.zero_add] at this; exact this) (fun k hk => by have := k6.2 k hk; rw [Nat.mul_zero, Nat.zero_add] at this; exact this) 8 0 (by omega) (by omega) (by omega) with ⟨g1, g2⟩ | ⟨g1, g2⟩ | ⟨x, y, g1, g2, g3, g4, g5⟩
      · rw [show ((0 : Nat) : Int) = 0 from rfl] at g1 g2
        rw [g1] at hc
        rw [g2] at p1
        simp -implicitDefEqProofs only [ob] at hc
        exact simple _ hc p1
      · rw [show ((0 : Nat) : Int) = 0 from rfl] at g1 g2
        rw [g1] at hc
        rw [g2] at p1
        simp -implicitDefEqProofs only [ob] at hc
        exact simple _ hc p1
      · rw [show ((0 : Nat) : Int) = 0 from rfl] at g4 g5
        rw [g4] at hc
        rw [g5] at p1
        simp -implicitDefEqProofs only [ob] at hc
        generalize hM' : zup (zup (zup (zup M 59 n0 ((12 * x + y : Nat) : Int)) 58 0 ((n0 + 1 : Nat) : Int)) 58 8 0) 58 9 0 = M' at hc
        generalize hP' : zup (zup (zup P 128 n0 (x : Int)) 129 n0 (y : Int)) 86 67 ((n0 + 1 : Nat) : Int) = P' at p1
        have a1 : ∀ a, a ≠ 1 → a ≠ 58 → a ≠ 59 → M' a = μ a := fun a q1 q2 q3 => by subst hM'; rw [zup_ro q2, zup_ro q2, zup_ro q2, zup_ro q3, n1 a q1]
        have a2 : ∀ k, k ≠ 0 → k ≠ 8 → k ≠ 9 → M' 58 k = μ 58 k := fun k q1 q2 q3 => by subst hM'; rw [zup_nk q3, zup_nk q2, zup_nk q1, zup_ro (by omega), n1 58 (by omega)]
        have a3 : M' 58 0 = ((n0 + 1 : Nat) : Int) := by subst hM'; rw [zup_nk (by omega), zup_nk (by omega), zup_hit]
        have a4 : M' 58 8 = 0 := by subst hM'; rw [zup_nk (by omega), zup_hit]
        have a5 : M' 58 9 = 0 := by subst hM'; exact zup_hit
        have a6 : ∀ i, M' 59 i = if i = n0 then ((12 * x + y : Nat) : Int) else M 59 i := fun i => by
          subst hM'
          rw [zup_ro (by omega), zup_ro (by omega), zup_ro (by omega)]
          by_cases e1 : i = n0
          · subst e1; rw [zup_hit, if_pos rfl]
          · rw [zup_nk e1, if_neg e1]
        have a11 : M' 1 1 = 0 := by subst hM'; rw [zup_ro (by omega), zup_ro (by omega), zup_ro (by omega), zup_ro (by omega)]; exact n11
        have b1 : ∀ a, a ≠ 86 → (a < 111 ∨ 117 < a) → a ≠ 128 → a ≠ 129 → P' a = ρ a := fun a q1 q2 q3 q4 => by subst hP'; rw [zup_ro q1, zup_ro q4, zup_ro q3, p3 a q1 q2]
        have b2 : ∀ k, k ≠ 67 → P' 86 k = P 86 k := fun k q => by subst hP'; rw [zup_nk q, zup_ro (by omega), zup_ro (by omega)]
        have b3 : P' 86 67 = ((n0 + 1 : Nat) : Int) := by subst hP'; exact zup_hit
        have b4 : ∀ i, P' 128 i = (if i = n0 then (x : Int) else P 128 i) ∧ P' 129 i = (if i = n0 then (y : Int) else P 129 i) := fun i => by
          have h128 : P' 128 = zup P 128 n0 (x : Int) 128 := by subst hP'; rw [zup_ro (show (128 : Nat) ≠ 86 by omega), zup_ro (show (128 : Nat) ≠ 129 by omega)]
          have h129 : P' 129 = zup (zup P 128 n0 (x : Int)) 129 n0 (y : Int) 129 := by subst hP'; rw [zup_ro (show (129 : Nat) ≠ 86 by omega)]
          rw [h128, h129]
          by_cases e1 : i = n0
          · subst e1; rw [zup_hit, zup_hit, if_pos rfl, if_pos rfl]; exact ⟨rfl, rfl⟩
          · rw [zup_nk e1, zup_nk e1, if_neg e1, if_neg e1, zup_ro (show (129 : Nat) ≠ 128 by omega)]; exact ⟨rfl, rfl⟩
        clear hM' hP'
        have b5 : ∀ k, k ≠ 9 → k ≠ 10 → k ≠ 11 → k ≠ 12 → k ≠ 13 → k ≠ 48 → k ≠ 67 → P' 86 k = ρ 86 k := fun k q1 q2 q3 q4 q5 q6 q7 => by rw [b2 k q7, p4 k q1 q2 q3 q4 q5 q6]
        refine ⟨_, M', P', hc, p1, hBT M' P' a1 b1 b5 a11 (by rw [b2 9 (by omega)]; exact p2), ⟨fun i => if i = n0 then x else A i, fun i => if i = n0 then y else B i, n0 + 1, ⟨by omega, a3, fun i hi => ?_, Or.inl a4, Or.inl a5⟩, by omega, b3, fun i hi => ?_, fun i hi => ?_⟩, ⟨a1, a2⟩, b1, b5⟩
        · rw [a6 i]
          by_cases e1 : i = n0
          · simp only [e1, if_true]; exact ⟨g1, g2, trivial⟩
          · simp only [if_neg e1]; exact hMF.2.2.1 i (by omega)
        · by_cases e1 : i = n0
          · simp only [e1, if_true]; exact ⟨g1, g2⟩
          · simp only [if_neg e1]; exact hPF.2.2.1 i (by omega)
        · rw [(b4 i).1, (b4 i).2]
          by_cases e1 : i = n0
          · simp only [e1, if_true]; exact ⟨trivial, trivial⟩
          · simp only [if_neg e1]; exact hPF.2.2.2 i (by omega)
  · obtain ⟨e', rfl, he'⟩ := pred_of (k := 5) hd'
    refine ⟨-1, μ, ρ, ?_, ?_, ⟨hB, hT⟩, ⟨A, B, n0, hF, hR⟩, ⟨fun _ _ _ _ => rfl, fun _ _ _ _ => rfl⟩, fun _ _ _ _ _ => rfl, fun _ _ _ _ _ _ _ _ => rfl⟩
    · rw [c_W_fight, s_holdsText (by omega) t2]
      simp -implicitDefEqProofs only [ob]
      rw [nB, decide_eq_false h, cond_false]
    · rw [c_M_fight, t_in (by omega)]
      simp -implicitDefEqProofs only [ob]
      rw [cB]
      by_cases h2 : 3 ≤ v ∧ v ≤ 17
      · rw [decide_eq_true h2, cond_true, cF (show ¬ v ≤ ρ 86 9 by rw [t3]; omega), e_M_fight_18]
      · rw [decide_eq_false h2, cond_false, e_M_fight_18]
theorem forget_both {z : zZ} {d d' wl n0 : Nat} {A B : Nat → Nat} {μ ρ : Mu} {N F : Nat → Nat} {L : Nat → Nat → Nat} (hd : 3 ≤ d) (hd' : 1 ≤ d') (hB : BT μ ρ N F L wl) (hT : TI μ ρ) (hF : FIc A B n0 μ) (hR : FIr A B n0 ρ) : FQ z d d' 152 288 [(2, 0)] [(2, 86)] μ ρ N F L wl := by
  obtain ⟨e, rfl, he⟩ := pred_of (k := 2) hd
  obtain ⟨e2, rfl, he2⟩ := pred_of (k := 1) he
  obtain ⟨e3, rfl, he3⟩ := pred_of (k := 0) he2
  obtain ⟨e', rfl, he'⟩ := pred_of (k := 0) hd'
  have hc : mC z (e3 + 1 + 1 + 1) 152 [(2, 0)] μ = some ((n0 : Int), zup (zup (zup μ 58 0 0) 58 8 0) 58 9 0) := by
    rw [c_W_forget, c_Fig_drop, c_Fig_change]
    simp -implicitDefEqProofs only [ob]
    rw [hF.2.1]
  have hr : mC z (e' + 1) 288 [(2, 86)] ρ = some ((n0 : Int), zup ρ 86 67 0) := by
    rw [c_M_forget, hR.2.1]
  refine ⟨_, _, _, hc, hr, ⟨bt_rows hB ⟨?_, ?_, ?_⟩ (fun a q => ?_) (fun a q => zup_ro (by omega)) (fun k q => zup_nk (by omega)), TI_rows ?_ ?_ (zup_nk (by omega)) (zup_ro (by omega)) hT⟩, ⟨A, B, 0, ⟨by omega, ?_, fun i hi => absurd hi (by omega), Or.inl ?_, Or.inl zup_hit⟩, by omega, zup_hit, fun i hi => absurd hi (by omega), fun i hi => absurd hi (by omega)⟩, ⟨fun a q1 q2 q3 => ?_, fun k q1 q2 q3 => ?_⟩, fun a q1 q2 q3 q4 => zup_ro q1, fun k q1 q2 q3 q4 q5 q6 q7 => zup_nk q7⟩
  · rw [zup_ro (by omega), zup_ro (by omega), zup_ro (by omega)]
  · rw [zup_ro (by omega), zup_ro (by omega), zup_ro (by omega)]
  · rw [zup_ro (by omega), zup_ro (by omega), zup_ro (by omega)]
  · rw [zup_ro (by omega), zup_ro (by omega), zup_ro (by omega)]
  · rw [zup_ro (by omega), zup_ro (by omega), zup_ro (by omega)]
  · rw [zup_ro (by omega), zup_ro (by omega), zup_ro (by omega)]
  · rw [zup_nk (by omega), zup_nk (by omega), zup_hit]; rfl
  · rw [zup_nk (by omega), zup_hit]
  · rw [zup_ro q2, zup_ro q2, zup_ro q2]
  · rw [zup_nk q3, zup_nk q2, zup_nk q1]
