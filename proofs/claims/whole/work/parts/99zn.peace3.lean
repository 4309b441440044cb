/-! peace in both -/
theorem peace_go {z : zZ} {e e' w v N0 N1 : Nat} {W0 W1 r1 r2 : Row} {L0 L1 : Nat → Nat} {P0 : Mu} (he : 1 ≤ e) (he' : 1 ≤ e') (hx : lexR P0 0 N0 W0 L0) (hx' : lexR P0 1 N1 W1 L1) (hw : w < N0) (hv : v < N1) (h88 : ∀ q, q < 12 → P0 88 q = r1 q) (hr1 : rkr r1) (hr2 : rkr r2) (h12 : ∀ q, q < 12 → r2 (r1 q).toNat = (q : Int)) (h21 : ∀ x, x < 12 → r1 (r2 x).toNat = (x : Int)) : ∀ (t k i j : Nat) (M P : Mu), i ≤ L0 w → j ≤ L1 v → (t : Int) = scs (fun k => letc (W0 w) (k : Int)) (fun k => letc (W1 v) (k : Int)) (L0 w) (L1 v) (L0 w - i) (L1 v - j) → k + t ≤ 16 → M 55 1 = (k : Int) → TBL (fun k => letc (W0 w) (k : Int)) (fun k => letc (W1 v) (k : Int)) (L0 w) (L1 v) (M 57) → M 6 = r2 → TBL (fun k => letc (W0 w) (k : Int)) (fun k => letc (W1 v) (k : Int)) (L0 w) (L1 v) (P 126) → (∀ a, a ≠ 126 → a ≠ 127 → P a = P0 a) → (∀ x, x < k → M 56 x = P 127 x) → ∃ M' P', f_Tre_make_33 z e (W0 w) (W1 v) 6 (L0 w : Int) (L1 v : Int) (i : Int) (j : Int) M = some (0, M') ∧ f_M_laysPeace_38 z e' (w : Int) (v : Int) (L0 w : Int) (L1 v : Int) (i : Int) (j : Int) ((k + t : Nat) : Int) (k : Int) P = some (((k + t : Nat) : Int), P') ∧ M' 55 1 = ((k + t : Nat) : Int) ∧ (∀ x, x < k + t → M' 56 x = P' 127 x) ∧ (∀ a, a ≠ 55 → a ≠ 56 → M' a = M a) ∧ ∀ a, a ≠ 127 → P' a = P a := by
  obtain ⟨x1, x2, x3⟩ := hx.2.2 w hw
  obtain ⟨y1, y2, y3⟩ := hx'.2.2 v hv
  intro t
  induction t with
  | zero =>
    intro k i j M P hi hj hs hk h55 hT h6 hT2 hP hMP
    have hij : i = L0 w ∧ j = L1 v := by
      by_cases h : i < L0 w ∨ j < L1 v
      · have := scs_pos (a := fun k => letc (W0 w) (k : Int)) (b := fun k => letc (W1 v) (k : Int)) (m := L0 w) (n := L1 v) (p := L0 w - i) (q := L1 v - j) (by omega)
        omega
      · omega
    refine ⟨M, P, ?_, ?_, by rw [h55]; rfl, hMP, fun _ _ _ => rfl, fun _ _ => rfl⟩
    · rw [e_Tre_make_33, h55]
      by_cases c1 : (16 : Int) ≤ (k : Int)
      · rw [cT c1, e_Tre_make_192]
      · rw [cF c1, cF (by omega), cT (by omega), e_Tre_make_192]
    · rw [e_M_laysPeace_38, cT (by omega), e_M_laysPeace_204]
  | succ t ih =>
    intro k i j M P hi hj hs hk h55 hT h6 hT2 hP hMP
    have h : i < L0 w ∨ j < L1 v := by
      by_cases h : i < L0 w ∨ j < L1 v
      · exact h
      · exfalso
        have e1 : L0 w - i = 0 := by omega
        have e2 : L1 v - j = 0 := by omega
        rw [e1, e2, scs_0] at hs
        omega
    have u1 := s_mkstep (z := z) (e := e) (M := M) he x3.1 y3.1 hi hj h h55 (by omega) hT (by rw [h6]; exact hr2)
    have hxP : lexR P 0 N0 W0 L0 := lexR_congr hx (hP 86 (by omega) (by omega)) (hP 94 (by omega) (by omega)) (hP 95 (by omega) (by omega))
    have hxP' : lexR P 1 N1 W1 L1 := lexR_congr hx' (hP 86 (by omega) (by omega)) (hP 94 (by omega) (by omega)) (hP 95 (by omega) (by omega))
    have u2 := t_mkstep (z := z) (e := e') (P := P) (k := k) (many := ((k + (t + 1) : Nat) : Int)) he' hxP hxP' hw hv hi hj h (by omega) (by omega) hT2 (by rw [← hs]; omega) (fun q hq => by rw [hP 88 (by omega) (by omega)]; exact h88 q hq) hr1 hr2 h12 h21
    have hp := pc_le (a := fun k => letc (W0 w) (k : Int)) (b := fun k => letc (W1 v) (k : Int)) (r := r2) hi hj h
    rw [h6] at u1
    rw [u1, u2]
    generalize pcI (fun k => letc (W0 w) (k : Int)) (fun k => letc (W1 v) (k : Int)) r2 (L0 w) (L1 v) i j = I at *
    generalize pcJ (fun k => letc (W0 w) (k : Int)) (fun k => letc (W1 v) (k : Int)) r2 (L0 w) (L1 v) i j = J at *
    generalize pcL (fun k => letc (W0 w) (k : Int)) (fun k => letc (W1 v) (k : Int)) r2 (L0 w) (L1 v) i j = Lt at *
    obtain ⟨M', P', v1, v2, v3, v4, v5, v6⟩ := ih (k + 1) I J (zup (zup M 56 k Lt) 55 1 ((k + 1 : Nat) : Int)) (zup P 127 k Lt) hp.1 hp.2.1 (by omega) (by omega) zup_hit (by rw [zup_ro (by omega), zup_ro (by omega)]; exact hT) (by rw [zup_ro (by omega), zup_ro (by omega)]; exact h6) (by rw [zup_ro (by omega)]; exact hT2) (fun a q1 q2 => by rw [zup_ro q2]; exact hP a q1 q2) (fun x hx => by
      by_cases e1 : x = k
      · subst e1
        rw [zup_ro (by omega), zup_hit, zup_hit]
      · rw [zup_ro (by omega), zup_nk e1, zup_nk e1]
        exact hMP x (by omega))
    rw [show k + 1 + t = k + (t + 1) by omega] at v2 v3 v4
    exact ⟨M', P', v1, v2, v3, v4, fun a q1 q2 => by rw [v5 a q1 q2, zup_ro q1, zup_ro q2], fun a q => by rw [v6 a q, zup_ro q]⟩
theorem peace_both {z : zZ} {d d' wl : Nat} {w v x : Int} {μ ρ : Mu} {N F : Nat → Nat} {L : Nat → Nat → Nat} (hd : 5 ≤ d) (hd' : 5 ≤ d') (hB : BT μ ρ N F L wl) : QU z d d' 128 275 [(2, 0), (0, w), (0, v), (0, x)] [(2, 86), (0, w), (0, v), (0, x)] μ ρ := by
  obtain ⟨e, rfl, he⟩ := pred_of (k := 4) hd
  obtain ⟨e', rfl, he'⟩ := pred_of (k := 4) hd'
  obtain ⟨a1, a2, a3, a4, a5, a6, a7, a8, a9, a10, a11, a12⟩ := hB.1 0 (by omega)
  obtain ⟨i1, i2, i3, i4, i5, i6, i7, i8, i9, i10, i11, i12⟩ := hB.1 1 (by omega)
  obtain ⟨b1, b2, b3, b4, b5, b6, b7⟩ := hB.2.1 0 (by omega)
  obtain ⟨c1, c2, c3, c4, c5, c6, c7⟩ := hB.2.1 1 (by omega)
  have hno : QU z (e + 1) (e' + 1) 128 275 [(2, 0), (0, w), (0, v), (0, x)] [(2, 86), (0, w), (0, v), (0, x)] μ ρ ∨ ((0 ≤ w ∧ w < N 0) ∧ (0 ≤ v ∧ v < N 1)) := by
    by_cases h0 : 0 ≤ w ∧ w < N 0
    · by_cases h1 : 0 ≤ v ∧ v < N 1
      · exact Or.inr ⟨h0, h1⟩
      · left
        refine ⟨-1, μ, ρ, ?_, ?_, QC_refl μ, QR_refl ρ⟩
        · have u1 := s_hasWord (z := z) (d := e) (o := 4) (w := w) (μ := μ) (by omega) (Or.inl rfl) a1 a2
          have u2 := s_hasWord (z := z) (d := e) (o := 13) (w := v) (μ := μ) (by omega) (Or.inr rfl) i1 i2
          rw [show ((4 : Nat) : Int) = 4 from rfl] at u1
          rw [show ((13 : Nat) : Int) = 13 from rfl] at u2
          rw [c_W_peace, u1]
          simp -implicitDefEqProofs only [ob]
          rw [cB, decide_eq_true h0, cond_true, u2]
          simp -implicitDefEqProofs only [ob]
          rw [nB, decide_eq_false h1, cond_false, e_W_peace_26]
        · have u1 := t_isWord (z := z) (d := e') (s := 0) (w := w) (μ := ρ) (by omega) (by omega)
          have u2 := t_isWord (z := z) (d := e') (s := 1) (w := v) (μ := ρ) (by omega) (by omega)
          rw [b2.1, show ((0 : Nat) : Int) = 0 from rfl] at u1
          rw [c2.1, show ((1 : Nat) : Int) = 1 from rfl] at u2
          rw [c_M_peace, u1]
          simp -implicitDefEqProofs only [ob]
          rw [cB, decide_eq_true h0, cond_true, u2]
          simp -implicitDefEqProofs only [ob]
          rw [nB, decide_eq_false h1, cond_false, e_M_peace_18]
    · left
      refine ⟨-1, μ, ρ, ?_, ?_, QC_refl μ, QR_refl ρ⟩
      · have u1 := s_hasWord (z := z) (d := e) (o := 4) (w := w) (μ := μ) (by omega) (Or.inl rfl) a1 a2
        rw [show ((4 : Nat) : Int) = 4 from rfl] at u1
        rw [c_W_peace, u1]
        simp -implicitDefEqProofs only [ob]
        rw [cB, decide_eq_false h0, cond_false, e_W_peace_26]
      · have u1 := t_isWord (z := z) (d := e') (s := 0) (w := w) (μ := ρ) (by omega) (by omega)
        rw [b2.1, show ((0 : Nat) : Int) = 0 from rfl] at u1
        rw [c_M_peace, u1]
        simp -implicitDefEqProofs only [ob]
        rw [cB, decide_eq_false h0, cond_false, e_M_peace_18]
  rcases hno with hno | ⟨h0, h1⟩
  · exact hno
  obtain ⟨w, rfl, hw⟩ : ∃ t : Nat, w = (t : Int) ∧ t < N 0 := ⟨w.toNat, by omega, by omega⟩
  obtain ⟨v, rfl, hv⟩ : ∃ t : Nat, v = (t : Int) ∧ t < N 1 := ⟨v.toNat, by omega, by omega⟩
  obtain ⟨x1, x2, x3⟩ := b2.2.2 w hw
  obtain ⟨y1, y2, y3⟩ := c2.2.2 v hv
  rw [show 4 + 9 * 0 + 4 = 8 from rfl] at *
  rw [show 4 + 9 * 1 + 4 = 17 from rfl] at *
  have m8 := x3.1.2.1
  have n8 := y3.1.2.1
  obtain ⟨e2, rfl, he2⟩ := pred_of (k := 3) he
  obtain ⟨e3, rfl, he3⟩ := pred_of (k := 3) he'
  obtain ⟨h, hh1, hh2⟩ := s_fillLeft (z := z) (d := e2) (m := L 0 w) (n := L 1 v) (c := μ 8 w) (e0 := μ 17 v) (M := μ) (by omega) x3.1 y3.1
  obtain ⟨g, hg1, hg2⟩ := t_shortest (z := z) (d := e3) (P := ρ) (by omega) b2 c2 hw hv
  have hs := scs_rg (fun k => letc (μ 8 w) (k : Int)) (fun k => letc (μ 17 v) (k : Int)) (L 0 w) (L 1 v) (L 0 w) (L 1 v)
  obtain ⟨t, ht⟩ : ∃ t : Nat, (t : Int) = scs (fun k => letc (μ 8 w) (k : Int)) (fun k => letc (μ 17 v) (k : Int)) (L 0 w) (L 1 v) (L 0 w) (L 1 v) := ⟨(scs (fun k => letc (μ 8 w) (k : Int)) (fun k => letc (μ 17 v) (k : Int)) (L 0 w) (L 1 v) (L 0 w) (L 1 v)).toNat, by omega⟩
  obtain ⟨M, P, q1, q2, q3, q4, q5, q6⟩ := peace_go (z := z) (e := e2) (e' := e3) (P0 := ρ) (r1 := μ 5) (r2 := μ 6) (by omega) (by omega) b2 c2 hw hv (fun q hq => by have := b6 q hq; rw [Nat.zero_add] at this; exact this) a7 a8 a11 a12 t 0 0 0 (zup (zrow μ 57 h) 55 1 0) (zrow ρ 126 g) (by omega) (by omega) (by rw [Nat.sub_zero, Nat.sub_zero]; exact ht) (by omega) zup_hit (by rw [zup_ro (by omega), zrow_same]; exact hh2) (by rw [zup_ro (by omega), zrow_ne (by omega)]) (by rw [zrow_same]; exact hg2) (fun a r1 r2 => zrow_ne r1) (fun x hx => absurd hx (by omega))
  rw [Nat.zero_add] at q2 q3 q4
  rw [show ((0 : Nat) : Int) = 0 from rfl] at q1 q2
  have hmk : mC z (e2 + 1) 129 [(2, 55), (0, μ 8 w), (0, μ 17 v), (2, 6)] μ = some (0, M) := by
    rw [c_Tre_make, s_sizeOf (by omega) x3.1]
    simp -implicitDefEqProofs only [ob]
    rw [s_sizeOf (by omega) y3.1]
    simp -implicitDefEqProofs only [ob]
    rw [hh1]
    simp -implicitDefEqProofs only [ob]
    exact q1
  have hlp : mC z (e3 + 1) 276 [(2, 86), (0, (w : Int)), (0, (v : Int))] ρ = some ((t : Int), P) := by
    have l1 := t_longOf (z := z) (d := e3) (s := 0) (w := w) (μ := zrow ρ 126 g) (by omega) (by omega) (by have := b2.2.1; omega)
    have l2 := t_longOf (z := z) (d := e3) (s := 1) (w := v) (μ := zrow ρ 126 g) (by omega) (by omega) (by have := c2.2.1; omega)
    rw [zrow_ne (by omega), x2, show ((0 : Nat) : Int) = 0 from rfl] at l1
    rw [zrow_ne (by omega), y2, show ((1 : Nat) : Int) = 1 from rfl] at l2
    have e0 : zrow ρ 126 g 126 0 = (t : Int) := by
      rw [zrow_same]
      have := hg2 0 0 (by omega) (by omega)
      rw [Nat.sub_zero, Nat.sub_zero, ← ht] at this
      exact this
    rw [c_M_laysPeace, hg1]
    simp -implicitDefEqProofs only [ob]
    rw [l1]
    simp -implicitDefEqProofs only [ob]
    rw [l2]
    simp -implicitDefEqProofs only [ob]
    rw [e0]
    exact q2
  have hQC : QC μ M := ⟨fun a r1 r2 r3 r4 r5 r6 r7 => by rw [q5 a (by omega) (by omega), zup_ro (by omega), zrow_ne (by omega)], fun k _ _ => ⟨by rw [q5 41 (by omega) (by omega), zup_ro (by omega), zrow_ne (by omega)], by rw [q5 47 (by omega) (by omega), zup_ro (by omega), zrow_ne (by omega)]⟩⟩
  have hQR : QR ρ P := ⟨fun a r1 r2 r3 r4 => by rw [q6 a (by omega), zrow_ne (by omega)], fun k _ => by rw [q6 86 (by omega), zrow_ne (by omega)]⟩
  have u1 := s_hasWord (z := z) (d := e2 + 1) (o := 4) (w := (w : Int)) (μ := μ) (by omega) (Or.inl rfl) a1 a2
  have u2 := s_hasWord (z := z) (d := e2 + 1) (o := 13) (w := (v : Int)) (μ := μ) (by omega) (Or.inr rfl) i1 i2
  have u3 := t_isWord (z := z) (d := e3 + 1) (s := 0) (w := (w : Int)) (μ := ρ) (by omega) (by omega)
  have u4 := t_isWord (z := z) (d := e3 + 1) (s := 1) (w := (v : Int)) (μ := ρ) (by omega) (by omega)
  rw [show ((4 : Nat) : Int) = 4 from rfl] at u1
  rw [show ((13 : Nat) : Int) = 13 from rfl] at u2
  rw [b2.1, show ((0 : Nat) : Int) = 0 from rfl] at u3
  rw [c2.1, show ((1 : Nat) : Int) = 1 from rfl] at u4
  have N12 := a2
  have N13 := i2
  have hc : mC z (e2 + 1 + 1) 128 [(2, 0), (0, (w : Int)), (0, (v : Int)), (0, x)] μ = (bif !decide (x = 20) then (f_W_peace_80 z (e2 + 1) x M) else (some (M 55 1, M))) := by
    rw [c_W_peace, u1]
    simp -implicitDefEqProofs only [ob]
    rw [cB, decide_eq_true (show (0 : Int) ≤ (w : Int) ∧ (w : Int) < (N 0 : Int) by omega), cond_true, u2]
    simp -implicitDefEqProofs only [ob]
    rw [nB, decide_eq_true (show (0 : Int) ≤ (v : Int) ∧ (v : Int) < (N 1 : Int) by omega), cond_true, gI_ok (by omega) (by omega), gI_ok (by omega) (by omega), Int.toNat_natCast, Int.toNat_natCast, hmk]
    simp -implicitDefEqProofs only [ob]
  have hr : mC z (e3 + 1 + 1) 275 [(2, 86), (0, (w : Int)), (0, (v : Int)), (0, x)] ρ = (bif !decide (x = 20) then (f_M_peace_39 z (e3 + 1) x (t : Int) P) else (f_M_peace_60 z (e3 + 1) (t : Int) P)) := by
    rw [c_M_peace, u3]
    simp -implicitDefEqProofs only [ob]
    rw [cB, decide_eq_true (show (0 : Int) ≤ (w : Int) ∧ (w : Int) < (N 0 : Int) by omega), cond_true, u4]
    simp -implicitDefEqProofs only [ob]
    rw [nB, decide_eq_true (show (0 : Int) ≤ (v : Int) ∧ (v : Int) < (N 1 : Int) by omega), cond_true, hlp]
    simp -implicitDefEqProofs only [ob]
  by_cases k1 : x = 20
  · rw [nT k1, q3] at hc
    rw [nT k1, e_M_peace_60] at hr
    exact ⟨_, M, P, hc, hr, hQC, hQR⟩
  · rw [nF k1, e_W_peace_80, c_Tre_holdsPlace, q3] at hc
    rw [nF k1, e_M_peace_39] at hr
    by_cases k2 : x < 0
    · rw [cT k2, e_Tre_holdsPlace_25, e_Tre_holdsPlace_26, g01_0] at hc
      simp -implicitDefEqProofs only [ob] at hc
      rw [cTt, e_W_peace_105] at hc
      rw [cT k2, e_M_peace_58, e_M_peace_60] at hr
      exact ⟨_, M, P, hc, hr, hQC, hQR⟩
    · rw [cF k2] at hc hr
      by_cases k3 : (t : Int) ≤ x
      · rw [cT k3, e_Tre_holdsPlace_25, e_Tre_holdsPlace_26, g01_0] at hc
        simp -implicitDefEqProofs only [ob] at hc
        rw [cTt, e_W_peace_105] at hc
        rw [cT k3, e_M_peace_58, e_M_peace_60] at hr
        exact ⟨_, M, P, hc, hr, hQC, hQR⟩
      · rw [cF k3, cF (by omega), e_Tre_holdsPlace_26, g01_1] at hc
        simp -implicitDefEqProofs only [ob] at hc
        rw [cF (by decide), gI_ok (by omega) (by omega), e_W_peace_105, q4 x.toNat (by omega)] at hc
        rw [cF k3, gI_ok (by omega) (by omega), e_M_peace_60] at hr
        exact ⟨_, M, P, hc, hr, hQC, hQR⟩
