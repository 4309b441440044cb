/-! words at once: the reference, and both -/
def FG (ρ P : Mu) : Prop := ∀ a, a ≠ 109 → a ≠ 110 → a ≠ 124 → a ≠ 125 → P a = ρ a
def LG (A B : Nat) (gn : Nat → Nat → Int) (P : Mu) (k : Nat) : Prop := ∀ i, i < k → P 125 i = bi (A.testBit (i / 12) && B.testBit (i % 12)) ∧ ((A.testBit (i / 12) && B.testBit (i % 12)) = true → P 124 i = gn (i / 12) (i % 12))
theorem t_laysG {z : zZ} {e Nn A B : Nat} {lt : Nat → Int} {Dv Dc : Nat → Row → Option Int} {μ ρ : Mu} {N F : Nat → Nat} {L : Nat → Nat → Nat} (he : 5 ≤ e) (hC : ∀ t, t < 2 → SDc μ t (N t) (F t) (L t)) (hR : ∀ t, t < 2 → SDr μ ρ t (N t) (F t) (L t)) (c1 : μ 0 18 = ρ 86 1) (c5 : r99 (μ 35)) (c6 : ∀ k, k < 12 → ρ 87 k = μ 35 k) (l2 : lawR ρ Nn lt Dv Dc) (l3 : dep10 Dv) (l4 : dep10 Dc) (hA : ∀ w, A.testBit w = (decide (w < N 0) && cfb (F 0) w (μ 8 w) (μ 7) 0)) (hB : ∀ w, B.testBit w = (decide (w < N 1) && cfb (F 1) w (μ 17 w) (μ 16) 0)) : ∀ (j i : Nat) (P : Mu), j + i = 144 → FG ρ P → LG A B (gnS (μ 8) (μ 17) (μ 6) (μ 15) (vlw μ L Nn lt Dv Dc 0) (vlw μ L Nn lt Dv Dc 1)) P i → ∃ R, f_M_laysGains_2 z e (i : Int) P = some (0, R) ∧ FG ρ R ∧ LG A B (gnS (μ 8) (μ 17) (μ 6) (μ 15) (vlw μ L Nn lt Dv Dc 0) (vlw μ L Nn lt Dv Dc 1)) R 144 := by
  obtain ⟨a1, a2, a3, a4, a5, a6, a7, a8, a9, _⟩ := hC 0 (by omega)
  obtain ⟨p1, p2, p3, p4, p5, p6, p7, p8, p9, _⟩ := hC 1 (by omega)
  obtain ⟨b1, b2, b3, b4, b5, b6, b7⟩ := hR 0 (by omega)
  obtain ⟨q1, q2, q3, q4, q5, q6, q7⟩ := hR 1 (by omega)
  have z00 : ((0 : Nat) : Int) = 0 := rfl
  have z01 : ((1 : Nat) : Int) = 1 := rfl
  intro j
  induction j with
  | zero =>
    intro i P hj hF hG
    have : i = 144 := by omega
    subst this
    exact ⟨P, by rw [e_M_laysGains_2, cT (by omega)], hF, hG⟩
  | succ j ih =>
    intro i P hj hF hG
    have hi : i < 144 := by omega
    have hdv := zd12 i hi
    have hw : i / 12 < 12 := by omega
    have hv : i % 12 < 12 := by omega
    have r86 : P 86 = ρ 86 := hF 86 (by omega) (by omega) (by omega) (by omega)
    have r90 : P 90 = ρ 90 := hF 90 (by omega) (by omega) (by omega) (by omega)
    have r94 : P 94 = ρ 94 := hF 94 (by omega) (by omega) (by omega) (by omega)
    have r95 : P 95 = ρ 95 := hF 95 (by omega) (by omega) (by omega) (by omega)
    have x0 := lexR_congr (M := P) b2 r86 r94 r95
    have x1 := lexR_congr (M := P) q2 r86 r94 r95
    -- what the next step asks of a memory
    have hgo : ∀ (x : Int) (hx : x = bi (A.testBit (i / 12) && B.testBit (i % 12))), ∃ R, f_M_laysGains_65 z e (i : Int) ((i / 12 : Nat) : Int) ((i % 12 : Nat) : Int) (i : Int) x P = some (0, R) ∧ FG ρ R ∧ LG A B (gnS (μ 8) (μ 17) (μ 6) (μ 15) (vlw μ L Nn lt Dv Dc 0) (vlw μ L Nn lt Dv Dc 1)) R 144 := by
      intro x hx
      have hx1 : z_and x 1 = x := by
        subst hx
        cases (A.testBit (i / 12) && B.testBit (i % 12)) <;> decide
      rw [e_M_laysGains_65, gI_ok (by omega) (by omega), gI_ok (by omega) (by omega), Int.toNat_natCast, zup_hit, hx1]
      generalize hX : zup P 125 i x = X
      have xr : ∀ a, a ≠ 125 → X a = P a := fun a q => by subst hX; exact zup_ro q
      have x125 : X 125 i = x := by subst hX; exact zup_hit
      have xk : ∀ k, k ≠ i → X 125 k = P 125 k := fun k q => by subst hX; exact zup_nk q
      clear hX
      have hFX : FG ρ X := fun a s1 s2 s3 s4 => by rw [xr a s4]; exact hF a s1 s2 s3 s4
      by_cases ht : (A.testBit (i / 12) && B.testBit (i % 12)) = true
      · have hA1 := (Bool.and_eq_true _ _ ▸ ht : A.testBit (i / 12) = true ∧ B.testBit (i % 12) = true)
        have hwN := hA (i / 12)
        have hvN := hB (i % 12)
        rw [hA1.1] at hwN
        rw [hA1.2] at hvN
        have hwN2 := of_decide_eq_true (Bool.and_eq_true _ _ ▸ hwN.symm : decide (i / 12 < N 0) = true ∧ _).1
        have hvN2 := of_decide_eq_true (Bool.and_eq_true _ _ ▸ hvN.symm : decide (i % 12 < N 1) = true ∧ _).1
        have y0 := lexR_congr (M := X) b2 (by rw [xr 86 (by omega)]; exact r86) (by rw [xr 94 (by omega)]; exact r94) (by rw [xr 95 (by omega)]; exact r95)
        have y1 := lexR_congr (M := X) q2 (by rw [xr 86 (by omega)]; exact r86) (by rw [xr 94 (by omega)]; exact r94) (by rw [xr 95 (by omega)]; exact r95)
        have x89 : X 89 = ρ 89 := hFX 89 (by omega) (by omega) (by omega) (by omega)
        have hfo := t_fightOf (z := z) (d := e) (w := i / 12) (v := i % 12) (r0 := μ 6) (r1 := μ 15) (by omega) y0 y1 hwN2 hvN2 a8 p8 (fun k hk => by
          have := b7 k hk
          rw [Nat.zero_add] at this
          rw [x89, ← this]) (fun k hk => by
          have := q7 k hk
          rw [Nat.zero_add] at this
          rw [x89, ← this])
        rw [nF (by rw [hx, ht]; decide), hfo]
        simp -implicitDefEqProofs only [ob]
        have hW0 : (fun w => μ (4 + 9 * 0 + 4) w) = μ 8 := rfl
        -- the end: the gain is laid
        have hend : ∀ (gv : Int) (Y : Mu), gv = gnS (μ 8) (μ 17) (μ 6) (μ 15) (vlw μ L Nn lt Dv Dc 0) (vlw μ L Nn lt Dv Dc 1) (i / 12) (i % 12) → (∀ a, a ≠ 109 → a ≠ 110 → Y a = X a) → ∃ R, f_M_laysGains_122 z e (i : Int) (i : Int) gv Y = some (0, R) ∧ FG ρ R ∧ LG A B (gnS (μ 8) (μ 17) (μ 6) (μ 15) (vlw μ L Nn lt Dv Dc 0) (vlw μ L Nn lt Dv Dc 1)) R 144 := by
          intro gv Y hgv hY
          rw [e_M_laysGains_122, gI_ok (by omega) (by omega), Int.toNat_natCast, e_M_laysGains_123, zwc (by omega)]
          refine ih (i + 1) _ (by omega) (fun a s1 s2 s3 s4 => by rw [zup_ro s3, hY a s1 s2]; exact hFX a s1 s2 s3 s4) (fun k hk => ?_)
          by_cases e1 : k = i
          · subst e1
            exact ⟨by rw [zup_ro (by omega), hY 125 (by omega) (by omega), x125, hx], fun _ => by rw [zup_hit]; exact hgv⟩
          · have := hG k (by omega)
            exact ⟨by rw [zup_ro (by omega), hY 125 (by omega) (by omega), xk k e1]; exact this.1, fun hh => by rw [zup_nk e1, hY 124 (by omega) (by omega), xr 124 (by omega)]; exact this.2 hh⟩
        have hLX : lawR X Nn lt Dv Dc := lawR_congr l2 (by rw [hFX 86 (by omega) (by omega) (by omega) (by omega)]) (hFX _ (by omega) (by omega) (by omega) (by omega)) (hFX _ (by omega) (by omega) (by omega) (by omega)) (hFX _ (by omega) (by omega) (by omega) (by omega)) (hFX _ (by omega) (by omega) (by omega) (by omega)) (hFX _ (by omega) (by omega) (by omega) (by omega))
        have hgn : gnS (μ 8) (μ 17) (μ 6) (μ 15) (vlw μ L Nn lt Dv Dc 0) (vlw μ L Nn lt Dv Dc 1) (i / 12) (i % 12) = if foc (μ 8 (i / 12)) (μ 17 (i % 12)) (μ 6) (μ 15) = 0 then 0 else if foc (μ 8 (i / 12)) (μ 17 (i % 12)) (μ 6) (μ 15) = 1 then vlw μ L Nn lt Dv Dc 1 (i % 12) else -(vlw μ L Nn lt Dv Dc 0 (i / 12)) := rfl
        have h87 : ∀ k, k < 12 → X 87 k = μ 35 k := fun k hk => by rw [hFX 87 (by omega) (by omega) (by omega) (by omega)]; exact c6 k hk
        have x1t : X 86 1 = μ 0 18 := by rw [hFX 86 (by omega) (by omega) (by omega) (by omega), c1]
        rcases foc_3 (μ 8 (i / 12)) (μ 17 (i % 12)) (μ 6) (μ 15) with h | h | h
        · rw [show foc (μ (4 + 9 * 0 + 4) (i / 12)) (μ (4 + 9 * 1 + 4) (i % 12)) (μ 6) (μ 15) = 0 from h, nT rfl]
          exact hend 0 X (by rw [hgn, h, if_pos rfl]) (fun _ _ _ => rfl)
        · obtain ⟨Y, y1, y2⟩ := t_worthOf (z := z) (d := e) (s := 1) (w := i % 12) he (by omega) y1 hvN2 hLX l3 l4 c5 h87
          rw [z01, x1t] at y1
          rw [show foc (μ (4 + 9 * 0 + 4) (i / 12)) (μ (4 + 9 * 1 + 4) (i % 12)) (μ 6) (μ 15) = 1 from h, nF (by decide), e_M_laysGains_100, nT rfl, y1]
          simp -implicitDefEqProofs only [ob]
          exact hend _ Y (by rw [hgn, h, if_neg (show ¬ (1 : Int) = 0 by decide), if_pos rfl]; rfl) y2
        · obtain ⟨Y, y1, y2⟩ := t_worthOf (z := z) (d := e) (s := 0) (w := i / 12) he (by omega) y0 hwN2 hLX l3 l4 c5 h87
          rw [z00, x1t] at y1
          rw [show foc (μ (4 + 9 * 0 + 4) (i / 12)) (μ (4 + 9 * 1 + 4) (i % 12)) (μ 6) (μ 15) = -1 from h, nF (by decide), e_M_laysGains_100, nF (by decide), y1]
          simp -implicitDefEqProofs only [ob]
          have hrg := wrt_rg (Nn := Nn) (lt := lt) (Dv := Dv) (Dc := Dc) (t := μ 0 18) (s := 0) (r := μ 35) (c := μ (4 + 9 * 0 + 4) (i / 12)) (n := L 0 (i / 12))
          rw [zw_id (by omega) (by omega)]
          exact hend _ Y (by rw [hgn, h, if_neg (show ¬ (-1 : Int) = 0 by decide), if_neg (show ¬ (-1 : Int) = 1 by decide)]; rfl) y2
      · have ht' : (A.testBit (i / 12) && B.testBit (i % 12)) = false := by simpa using ht
        rw [nT (by rw [hx, ht']; rfl), e_M_laysGains_123, zwc (by omega)]
        refine ih (i + 1) X (by omega) hFX (fun k hk => ?_)
        by_cases e1 : k = i
        · subst e1
          exact ⟨by rw [x125, hx], fun hh => absurd hh ht⟩
        · have := hG k (by omega)
          exact ⟨by rw [xk k e1]; exact this.1, fun hh => by rw [xr 124 (by omega)]; exact this.2 hh⟩
    have w0 := t_isWord (z := z) (d := e) (s := 0) (w := ((i / 12 : Nat) : Int)) (μ := P) (by omega) (by omega)
    have w1 := t_isWord (z := z) (d := e) (s := 1) (w := ((i % 12 : Nat) : Int)) (μ := P) (by omega) (by omega)
    have k14 : P 86 (14 + 0) = (N 0 : Int) := x0.1
    have k15 : P 86 (14 + 1) = (N 1 : Int) := x1.1
    rw [z00, k14] at w0
    rw [z01, k15] at w1
    have h64 : (A.testBit (i / 12) && B.testBit (i % 12)) = false → ∃ R, f_M_laysGains_64 z e (i : Int) ((i / 12 : Nat) : Int) ((i % 12 : Nat) : Int) (i : Int) P = some (0, R) ∧ FG ρ R ∧ LG A B (gnS (μ 8) (μ 17) (μ 6) (μ 15) (vlw μ L Nn lt Dv Dc 0) (vlw μ L Nn lt Dv Dc 1)) R 144 := fun hh => by
      rw [e_M_laysGains_64]
      exact hgo 0 (by rw [hh]; rfl)
    rw [e_M_laysGains_2, cF (by omega), hdv.1, hdv.2, w0]
    simp -implicitDefEqProofs only [ob]
    rw [cB]
    have hAi := hA (i / 12)
    have hBi := hB (i % 12)
    by_cases n0 : i / 12 < N 0
    · rw [decide_eq_true (show (0 : Int) ≤ ((i / 12 : Nat) : Int) ∧ ((i / 12 : Nat) : Int) < (N 0 : Int) by omega), cond_true, w1]
      simp -implicitDefEqProofs only [ob]
      rw [cB]
      by_cases n1 : i % 12 < N 1
      · rw [decide_eq_true (show (0 : Int) ≤ ((i % 12 : Nat) : Int) ∧ ((i % 12 : Nat) : Int) < (N 1 : Int) by omega), cond_true]
        have f0 := t_canForm (z := z) (d := e) (s := 0) (w := i / 12) (f := F 0) (by omega) (by omega) x0 n0 (by rw [r86]; exact b1) (f4096 a4 a2)
        have f1 := t_canForm (z := z) (d := e) (s := 1) (w := i % 12) (f := F 1) (by omega) (by omega) x1 n1 (by rw [r86]; exact q1) (f4096 p4 p2)
        rw [z00, r90, cfb_pt b3] at f0
        rw [z01, r90, cfb_pt q3] at f1
        rw [decide_eq_true n0, Bool.true_and] at hAi
        rw [decide_eq_true n1, Bool.true_and] at hBi
        have f0' : mC z e 235 [(2, 86), (0, 0), (0, ((i / 12 : Nat) : Int))] P = some (bi (A.testBit (i / 12)), P) := by rw [hAi]; exact f0
        have f1' : mC z e 235 [(2, 86), (0, 1), (0, ((i % 12 : Nat) : Int))] P = some (bi (B.testBit (i % 12)), P) := by rw [hBi]; exact f1
        rw [f0']
        simp -implicitDefEqProofs only [ob]
        rw [cB]
        by_cases ha : A.testBit (i / 12) = true
        · rw [ha, Bool.true_and] at h64 hgo
          rw [ha, cond_true, f1']
          simp -implicitDefEqProofs only [ob]
          rw [cB]
          by_cases hb : B.testBit (i % 12) = true
          · rw [hb, cond_true]
            exact hgo 1 (by rw [hb]; rfl)
          · have hb' : B.testBit (i % 12) = false := by simpa using hb
            rw [hb', cond_false]
            exact h64 hb'
        · have ha' : A.testBit (i / 12) = false := by simpa using ha
          rw [ha', cond_false]
          exact h64 (by rw [ha']; rfl)
      · rw [decide_eq_false (show ¬ ((0 : Int) ≤ ((i % 12 : Nat) : Int) ∧ ((i % 12 : Nat) : Int) < (N 1 : Int)) by omega), cond_false]
        exact h64 (by rw [hBi, decide_eq_false n1, Bool.false_and, Bool.and_false])
    · rw [decide_eq_false (show ¬ ((0 : Int) ≤ ((i / 12 : Nat) : Int) ∧ ((i / 12 : Nat) : Int) < (N 0 : Int)) by omega), cond_false]
      exact h64 (by rw [hAi, decide_eq_false n0, Bool.false_and, Bool.false_and])
