/-! what both sides rest on -/
theorem bt_rows {μ ρ M P : Mu} {N F : Nat → Nat} {L : Nat → Nat → Nat} {wl : Nat} (hB : BT μ ρ N F L wl) (m0 : M 0 6 = μ 0 6 ∧ M 0 18 = μ 0 18 ∧ M 0 19 = μ 0 19) (mr : ∀ a, (4 ≤ a ∧ a ≤ 8) ∨ (13 ≤ a ∧ a ≤ 17) ∨ a = 35 ∨ (41 ≤ a ∧ a ≤ 52) → M a = μ a) (pr : ∀ a, (87 ≤ a ∧ a ≤ 92) ∨ a = 94 ∨ a = 95 ∨ (104 ≤ a ∧ a ≤ 108) → P a = ρ a) (pk : ∀ k, k ≤ 1 ∨ (14 ≤ k ∧ k ≤ 17) ∨ k = 27 → P 86 k = ρ 86 k) : BT M P N F L wl := by
  obtain ⟨hC, hR, ⟨c1, c2, c3, c4⟩, ⟨c5, c6⟩, ⟨w1, w2, w3⟩, hG⟩ := hB
  refine ⟨fun s hs => SDc_rows (fun i hi => mr _ (by omega)) (hC s hs), fun s hs => ?_, ⟨by rw [m0.2.1, pk 1 (by omega)]; exact c1, by rw [m0.2.2, pk 0 (by omega)]; exact c2, by rw [m0.2.2]; exact c3, by rw [m0.2.2]; exact c4⟩, ⟨by rw [mr 35 (by omega)]; exact c5, fun k hk => by rw [mr 35 (by omega), pr 87 (by omega)]; exact c6 k hk⟩, ⟨by rw [pr 90 (by omega)]; exact w1, by rw [pr 91 (by omega)]; exact w2, by rw [pr 92 (by omega)]; exact w3⟩, GL_rows m0.1 (fun a q1 q2 => mr a (by omega)) (pk 27 (by omega)) (fun a q1 q2 => pr a (by omega)) hG⟩
  obtain ⟨b1, b2, b3, b4, b5, b6, b7⟩ := hR s hs
  have r : ∀ i, i ≤ 4 → M (4 + 9 * s + i) = μ (4 + 9 * s + i) := fun i hi => mr _ (by omega)
  refine ⟨by rw [pk _ (by omega)]; exact b1, ?_, by rw [r 3 (by omega), pr 90 (by omega)]; exact b3, by rw [r 3 (by omega), pr 91 (by omega)]; exact b4, by rw [r 3 (by omega), pr 92 (by omega)]; exact b5, by rw [r 1 (by omega), pr 88 (by omega)]; exact b6, by rw [r 2 (by omega), pr 89 (by omega)]; exact b7⟩
  rw [r 4 (by omega)]
  refine ⟨by rw [pk _ (by omega)]; exact b2.1, b2.2.1, fun w hw => ?_⟩
  obtain ⟨x1, x2, x3⟩ := b2.2.2 w hw
  exact ⟨x1, by rw [pr 95 (by omega)]; exact x2, rwd_congr x3 (fun k _ => by rw [pr 94 (by omega)])⟩
theorem byt_fed5 {h : Row} {p : Nat} {a b c d e : Int} (hb : byt h) : byt (fed5 h p a b c d e) := byt_fed (byt_fed (byt_fed (byt_fed (byt_fed hb))))
theorem fed5_tpe {h g : Row} {p : Nat} {a b c d e : Int} (hh : ∀ j, j < 220 → g j = sgn (h j)) : ∀ j, j < 220 → fedS5 g p a b c d e j = sgn (fed5 h p a b c d e j) := fed_tpe (fed_tpe (fed_tpe (fed_tpe (fed_tpe hh))))
theorem feed_both {z : zZ} {d d' wl : Nat} {v1 v2 v3 v4 v5 : Int} {μ ρ : Mu} {N F : Nat → Nat} {L : Nat → Nat → Nat} (hd : 2 ≤ d) (hd' : 2 ≤ d') (r1 : rg v1) (r2 : rg v2) (r3 : rg v3) (r4 : rg v4) (r5 : rg v5) (hB : BT μ ρ N F L wl) (hT : TI μ ρ) : GO z d d' 16 186 [(0, v1), (0, v2), (0, v3), (0, v4), (0, v5)] [(0, v1), (0, v2), (0, v3), (0, v4), (0, v5)] μ ρ (fun M P => BT M P N F L wl ∧ TI M P) := by
  obtain ⟨sz, t1, t2, t3, t4⟩ := id hT
  unfold GO
  by_cases h : sz + 20 ≤ 220
  · rw [s_feed hd r1 r2 r3 r4 r5 t2 h, t_feed hd' r1 r2 r3 r4 r5 t3 h]
    refine ⟨_, _, _, rfl, rfl, ⟨bt_rows hB ⟨by rw [zrow_ne (by omega), zrow_ne (by omega)], by rw [zrow_ne (by omega), zrow_ne (by omega)], by rw [zrow_ne (by omega), zrow_ne (by omega)]⟩ (fun a q => by rw [zrow_ne (by omega), zrow_ne (by omega)]) (fun a q => by rw [zrow_ne (by omega), zrow_ne (by omega)]) (fun k q => by rw [zrow_same, rup_ne (by omega)]), sz + 20, h, by rw [zrow_same, rup_same], by rw [zrow_same, rup_same], ?_⟩, ⟨fun a q1 q2 => by rw [zrow_ne (by omega), zrow_ne (by omega)], fun k _ _ => by rw [zrow_ne (by omega), zrow_ne (by omega)], fun a q => by rw [zrow_ne (by omega), zrow_ne (by omega)]⟩, ⟨fun a q => by rw [zrow_ne (by omega), zrow_ne (by omega)], fun k q => by rw [zrow_same, rup_ne (by omega)], fun a q => by rw [zrow_ne (by omega), zrow_ne (by omega)]⟩⟩
    rw [zrow_ne (show (2 : Nat) ≠ 1 by omega), zrow_same]
    refine ⟨byt_fed5 t4.1, fun k hk => ?_⟩
    rw [zrow_ne (by omega), zrow_same]
    exact fed5_tpe t4.2 k hk
  · rw [s_feed_no hd t2 t1 (by omega), t_feed_no hd' t3 t1 (by omega)]
    exact ⟨_, _, _, rfl, rfl, ⟨hB, hT⟩, KF_refl μ, KR_refl ρ⟩
/-- the line of the dead, in both -/
theorem mxv_congr {f g : Nat → Int} {n : Nat} (h : ∀ k, k < n → f k = g k) : mxv f n = mxv g n := by
  induction n with
  | zero => rfl
  | succ n ih => unfold mxv; rw [ih (fun k hk => h k (by omega)), h n (by omega)]
theorem dead_both {z : zZ} {d d' wl : Nat} {s v : Int} {μ ρ : Mu} {N F : Nat → Nat} {L : Nat → Nat → Nat} (hd : 3 ≤ d) (hd' : 3 ≤ d') (hB : BT μ ρ N F L wl) : QU z d d' 164 298 [(2, 0), (0, s), (0, v)] [(2, 86), (0, s), (0, v)] μ ρ := by
  obtain ⟨e, rfl, he⟩ := pred_of (k := 2) hd
  obtain ⟨e', rfl, he'⟩ := pred_of (k := 2) hd'
  have fin : ∀ r : Int, mC z (e + 1) 164 [(2, 0), (0, s), (0, v)] μ = some (r, μ) → mC z (e' + 1) 298 [(2, 86), (0, s), (0, v)] ρ = some (r, ρ) → QU z (e + 1) (e' + 1) 164 298 [(2, 0), (0, s), (0, v)] [(2, 86), (0, s), (0, v)] μ ρ := fun r h1 h2 => ⟨r, μ, ρ, h1, h2, QC_refl μ, QR_refl ρ⟩
  have hc := c_W_dead z e s v μ
  have hr := c_M_dead z e' s v ρ
  rw [s_isSide (by omega)] at hc
  rw [t_isSide (by omega)] at hr
  simp -implicitDefEqProofs only [ob] at hc hr
  rw [cB] at hc
  rw [nB] at hr
  by_cases h0 : s = 0 ∨ s = 1
  · rw [decide_eq_true h0, cond_true] at hc hr
    obtain ⟨s, rfl, hs⟩ : ∃ t : Nat, s = (t : Int) ∧ t < 2 := ⟨s.toNat, by omega, by omega⟩
    obtain ⟨a1, a2, a3, a4, a5, a6, a7, a8, a9, a10, a11, a12⟩ := hB.1 s hs
    obtain ⟨b1, b2, b3, b4, b5, b6, b7⟩ := hB.2.1 s hs
    obtain ⟨w1, w2, w3⟩ := hB.2.2.2.2.1
    rw [t_deadsum (by omega) hs w2, e_M_dead_18, cT (by omega)] at hr
    by_cases h1 : -2 ≤ v
    · rw [cT h1, e_W_dead_16 _ _ _ _ _ h0, Int.toNat_natCast] at hc
      by_cases h2 : v = -1
      · have u := s_total (z := z) (d := e) (o := 4 + 9 * s) (b := 12) (μ := μ) (by omega) (o9 hs) (by omega) a6
        rw [show ((12 : Nat) : Int) = 12 from rfl] at u
        rw [nT h2, u] at hc
        rw [nT h2] at hr
        simp -implicitDefEqProofs only [ob] at hc
        refine fin _ hc ?_
        rw [hr, sm_congr (fun k hk => b4 k hk)]
      · by_cases h3 : v = -2
        · have u := s_mostAlike (z := z) (d := e) (o := 4 + 9 * s) (b := 12) (μ := μ) (by omega) (o9 hs) (by omega)
          rw [show ((12 : Nat) : Int) = 12 from rfl] at u
          rw [nF h2, nT h3, u] at hc
          rw [nF h2, nT h3] at hr
          simp -implicitDefEqProofs only [ob] at hc
          refine fin _ hc ?_
          rw [hr, mxv_congr (fun k hk => b4 k hk)]
        · have u := s_letterInLine (z := z) (d := e) (o := 4 + 9 * s) (b := 12) (wh := v) (μ := μ) (by omega) (o9 hs) (by omega) a6 a7
          rw [show ((12 : Nat) : Int) = 12 from rfl] at u
          rw [nF h2, nF h3, u] at hc
          rw [nF h2, nF h3, cF (by omega)] at hr
          simp -implicitDefEqProofs only [ob] at hc
          have rk : ∀ j, j < 12 → (μ (4 + 9 * s + 1) j).toNat < 12 := fun j hj => by have := a7 j; omega
          have rk2 : ∀ j, j < 12 → (μ (4 + 9 * s + 2) j).toNat < 12 := fun j hj => by have := a8 j; omega
          have hl : ∀ i, i ≤ 12 → lnS (ρ 91) (μ (4 + 9 * s + 1)) (12 * s) i = lnS (μ (4 + 9 * s + 3)) (μ (4 + 9 * s + 1)) 12 i := fun i hi => sm_congr (fun k hk => b4 _ (rk k (by omega)))
          have htot : lnS (μ (4 + 9 * s + 3)) (μ (4 + 9 * s + 1)) 12 12 = sm (fun k => ρ 91 (12 * s + k)) 12 := by
            have := sm_perm (fun k => μ (4 + 9 * s + 3) (12 + k)) (fun j => (μ (4 + 9 * s + 1) j).toNat) (fun x => (μ (4 + 9 * s + 2) x).toNat) 12 rk rk2 (fun j hj => by have := a11 j hj; omega) (fun x hx => by have := a12 x hx; omega)
            unfold lnS
            rw [this]
            exact (sm_congr (fun k hk => b4 k hk)).symm
          have hlin : lin (ρ 91) (μ (4 + 9 * s + 1)) (12 * s) v = lin (μ (4 + 9 * s + 3)) (μ (4 + 9 * s + 1)) 12 v := by
            have hf : fst1 (fun i => decide (v < lnS (ρ 91) (μ (4 + 9 * s + 1)) (12 * s) (i + 1))) 12 = fst1 (fun i => decide (v < lnS (μ (4 + 9 * s + 3)) (μ (4 + 9 * s + 1)) 12 (i + 1))) 12 := fst1_congr (fun i hi => by rw [hl (i + 1) (by omega)])
            unfold lin
            rw [hf]
          by_cases h4 : v < sm (fun k => ρ 91 (12 * s + k)) 12
          · have u2 := t_deadline (z := z) (e := e') (s := s) (wh := v) (r := μ (4 + 9 * s + 1)) (μ := ρ) hs w2 a7 (fun k hk => by have := b6 k hk; rw [Nat.zero_add] at this; exact this) (by omega) (by rw [hl 12 (by omega), htot]; exact h4)
            rw [cT h4, u2, hlin] at hr
            have hn1 : lin (μ (4 + 9 * s + 3)) (μ (4 + 9 * s + 1)) 12 v ≠ -1 := by
              unfold lin
              rcases fst1_sp (fun i => decide (v < lnS (μ (4 + 9 * s + 3)) (μ (4 + 9 * s + 1)) 12 (i + 1))) 12 with ⟨h5, h6⟩ | ⟨w, h5, h6, h7, h8⟩
              · have := h6 11 (by omega)
                rw [show (11 + 1 : Nat) = 12 from rfl, htot] at this
                exact absurd h4 (of_decide_eq_false this)
              · rw [h5, if_neg (by omega)]
                have := a7 (w : Int).toNat
                omega
            rw [nF hn1, e_W_dead_68, e_W_dead_70] at hc
            exact fin _ hc hr
          · rw [cF h4, e_M_dead_90] at hr
            have hn1 : lin (μ (4 + 9 * s + 3)) (μ (4 + 9 * s + 1)) 12 v = -1 := by
              unfold lin
              rcases fst1_sp (fun i => decide (v < lnS (μ (4 + 9 * s + 3)) (μ (4 + 9 * s + 1)) 12 (i + 1))) 12 with ⟨h5, h6⟩ | ⟨w, h5, h6, h7, h8⟩
              · rw [h5, if_pos rfl]
              · exfalso
                have h9 := of_decide_eq_true h7
                have mono : ∀ j i, i + j = 12 → lnS (μ (4 + 9 * s + 3)) (μ (4 + 9 * s + 1)) 12 i ≤ lnS (μ (4 + 9 * s + 3)) (μ (4 + 9 * s + 1)) 12 12 := by
                  intro j
                  induction j with
                  | zero => intro i hi; rw [show i = 12 by omega]; exact Int.le_refl _
                  | succ j ih =>
                    intro i hi
                    have h10 := ih (i + 1) (by omega)
                    have h11 : lnS (μ (4 + 9 * s + 3)) (μ (4 + 9 * s + 1)) 12 (i + 1) = lnS (μ (4 + 9 * s + 3)) (μ (4 + 9 * s + 1)) 12 i + μ (4 + 9 * s + 3) (12 + (μ (4 + 9 * s + 1) i).toNat) := rfl
                    have h12 := (a6 (12 + (μ (4 + 9 * s + 1) i).toNat)).1
                    omega
                have h13 := mono (11 - w) (w + 1) (by omega)
                rw [htot] at h13
                omega
            rw [nT hn1, e_W_dead_70] at hc
            exact fin _ hc hr
    · rw [cF h1, e_W_dead_13] at hc
      rw [nF (by omega), nF (by omega), cT (by omega), e_M_dead_90] at hr
      exact fin _ hc hr
  · rw [decide_eq_false h0, cond_false] at hc hr
    rw [e_W_dead_13] at hc
    exact fin _ hc hr
