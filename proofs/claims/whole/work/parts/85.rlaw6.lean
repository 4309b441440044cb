/-! the reference reads a law's text: pieces, and all -/
theorem stp_7 {wt : Row} {s : Nat} (h : 7 ≤ wtop wt s) : stp 1 wt s := ⟨by omega, by omega⟩
theorem b9 {μ : Mu} {z : zZ} {e n f : Nat} {b : Row} (he : 6 ≤ e) (hx : CX μ b n) (h9 : B9c μ z e b n f) (h5 : B5c μ z e b n f) : B9c μ z e b n (f + 1) := by
  intro o p q s P st wt m hp ho ht hP h10 h7 hs1 hf hq hs
  have hn := hx.2.1
  by_cases h33 : tx b n p = 33
  · have hpn : p < n := tx_lt h33 (by decide)
    have hl : ln b n (f + 1) 9 (o + P.length) p = ln b n f 9 (o + P.length + 1) (p + 1) + 1 := by simp only [ln, Nat.reduceEqDiff, if_false, if_pos h33]
    have hcd : ∀ st to, cdR b st n to (f + 1) 9 (o + P.length) p q 0 = (cdR b st n to f 9 (o + P.length + 1) (p + 1) q 0 ∧ st (q + ln b n f 9 (o + P.length + 1) (p + 1)) = ((1048576 * 10 : Nat) : Int)) := fun st to => by simp only [cdR, Nat.reduceEqDiff, if_false, if_pos h33]
    have hC : ∀ (r : Int) (M : Mu), mC z e 213 [(2, 86), (0, 10)] (UQ μ st wt (p : Int) (q : Int) ((s + P.length : Nat) : Int) ((o + P.length : Nat) : Int) m) = some (r, M) → C40 z e (UQ μ st wt (p : Int) (q : Int) ((s + P.length : Nat) : Int) ((o + P.length : Nat) : Int) m) = bif !decide (r = 0) then C40 z e M else some (0, M) := by
      intro r M hr
      unfold C40
      rw [e_M_readsCondition_40, u_here (by omega) hx]
      simp -implicitDefEqProofs only [ob]
      rw [cT h33, e_M_readsCondition_58, u_here (by omega) hx]
      simp -implicitDefEqProofs only [ob]
      rw [nT h33, e_M_readsCondition_75, hr]
      simp -implicitDefEqProofs only [ob]
    by_cases h6 : 6 ≤ o + P.length
    · have hz : pz b n (f + 1) 9 (o + P.length) p = (-5000 - (p : Int), p) := by simp only [pz, Nat.reduceEqDiff, if_false, if_pos h33, if_pos h6]
      have o6 : ((o + P.length : Nat) : Int) = 6 := by omega
      rw [hz]
      refine ⟨fun _ => ?_, fun h => absurd h (by dsimp only; omega)⟩
      rw [o6] at hC ⊢
      rw [hC _ _ (u_opensNo (by omega) (by omega)), nT rfl]
      exact RF1_i rfl
    · have hz : pz b n (f + 1) 9 (o + P.length) p = pz b n f 9 (o + P.length + 1) (p + 1) := by simp only [pz, Nat.reduceEqDiff, if_false, if_pos h33, if_neg h6]
      have hop := u_opens (z := z) (d := e) (p := p) (s := s + P.length) (o := o + P.length) (t := 10) (st := st) (wt := wt) (q := (q : Int)) (m := m) (μ := μ) (by omega) (by omega) (by omega) (by omega) (by decide)
      simp -implicitDefEqProofs only [Int.cast_ofNat_Int] at hop
      have hll : (10 :: P).length = P.length + 1 := rfl
      have hA := h9 o (p + 1) q s (10 :: P) st (rup wt (s + P.length) ((1048576 * 10 : Nat) : Int)) m hpn (by omega) (fun t h => by
        cases h with
        | head => rfl
        | tail _ h => exact ht t h) ⟨rup_same, pnd_congr P (fun j hj => rup_ne (by omega)) hP⟩ (by rw [wtop_congr (fun j hj => rup_ne (by omega))]; exact h10) (by
        have : wtop (rup wt (s + P.length) ((1048576 * 10 : Nat) : Int)) (s + P.length + 1) = 10 := wtop_s (t := 10) (v := 0) (by decide) (by decide) rup_same
        show 7 ≤ wtop _ (s + P.length + 1)
        rw [this]; decide) hs1 (by omega) (by omega) (by omega)
      have e1 : o + (10 :: P).length = o + P.length + 1 := rfl
      have e2 : s + (10 :: P).length = s + P.length + 1 := rfl
      rw [e1, e2] at hA
      rw [hC _ _ hop, nF (by decide), hz, hl]
      refine ⟨hA.1, fun hF => ?_⟩
      obtain ⟨st', wt', m', r1, r2, r3, r4, r5⟩ := hA.2 hF
      rw [hll] at r1 r4
      refine ⟨st', wt', m', by rw [r1]; congr 2; omega, r2, fun j hj => by rw [r3 j hj, rup_ne (by omega)], fun i hi => ?_, fun r to ht2 hto hag => ?_⟩
      · have := r4 (i + 1) (by omega)
        rw [show q + ln b n f 9 (o + P.length + 1) (p + 1) + (i + 1) = q + (ln b n f 9 (o + P.length + 1) (p + 1) + 1) + i by omega] at this
        exact this
      · rw [hcd]
        have := r4 0 (by omega)
        rw [Nat.add_zero] at this
        exact ⟨r5 r to ht2 (by omega) (fun j h1 h2 => hag j h1 (by omega)), by rw [hag _ (by omega) (by omega)]; exact this⟩
  · by_cases h40 : tx b n p = 40
    · have hpn : p < n := tx_lt h40 (by decide)
      have hl : ln b n (f + 1) 9 (o + P.length) p = ln b n f 5 (o + P.length + 1) (p + 1) := by simp only [ln, Nat.reduceEqDiff, if_false, if_neg h33, if_pos h40]
      have hcd : ∀ st to, cdR b st n to (f + 1) 9 (o + P.length) p q 0 = cdR b st n to f 5 (o + P.length + 1) (p + 1) q 0 := fun st to => by simp only [cdR, Nat.reduceEqDiff, if_false, if_neg h33, if_pos h40]
      have hC : ∀ (r : Int) (M : Mu), mC z e 213 [(2, 86), (0, 13)] (UQ μ st wt (p : Int) (q : Int) ((s + P.length : Nat) : Int) ((o + P.length : Nat) : Int) m) = some (r, M) → C40 z e (UQ μ st wt (p : Int) (q : Int) ((s + P.length : Nat) : Int) ((o + P.length : Nat) : Int) m) = bif !decide (r = 0) then C40 z e M else some (0, M) := by
        intro r M hr
        unfold C40
        rw [e_M_readsCondition_40, u_here (by omega) hx]
        simp -implicitDefEqProofs only [ob]
        rw [cF h33, u_here (by omega) hx]
        simp -implicitDefEqProofs only [ob]
        rw [nT h40, e_M_readsCondition_58, u_here (by omega) hx]
        simp -implicitDefEqProofs only [ob]
        rw [nF h33, e_M_readsCondition_75, hr]
        simp -implicitDefEqProofs only [ob]
      by_cases h6 : 6 ≤ o + P.length
      · have hz : pz b n (f + 1) 9 (o + P.length) p = (-5000 - (p : Int), p) := by simp only [pz, Nat.reduceEqDiff, if_false, if_neg h33, if_pos h40, if_pos h6]
        have o6 : ((o + P.length : Nat) : Int) = 6 := by omega
        rw [hz]
        refine ⟨fun _ => ?_, fun h => absurd h (by dsimp only; omega)⟩
        rw [o6] at hC ⊢
        rw [hC _ _ (u_opensNo (by omega) (by omega)), nT rfl]
        exact RF1_i rfl
      · have hop := u_opens (z := z) (d := e) (p := p) (s := s + P.length) (o := o + P.length) (t := 13) (st := st) (wt := wt) (q := (q : Int)) (m := m) (μ := μ) (by omega) (by omega) (by omega) (by omega) (by decide)
        simp -implicitDefEqProofs only [Int.cast_ofNat_Int] at hop
        have h13 : wtop (rup wt (s + P.length) ((1048576 * 13 : Nat) : Int)) (s + P.length + 1) = 13 := wtop_s (t := 13) (v := 0) (by decide) (by decide) rup_same
        have hA := h5 (o + P.length + 1) (p + 1) q (s + P.length + 1) st (rup wt (s + P.length) ((1048576 * 13 : Nat) : Int)) m hpn (by omega) (by omega) (by omega) (by omega) (by omega) h13
        rw [hC _ _ hop, nF (by decide)]
        by_cases hF : (pz b n f 5 (o + P.length + 1) (p + 1)).1 = 0
        · have zl := pz_ln f 5 (o + P.length + 1) (p + 1) hpn hF
          obtain ⟨st', wt', m', ji, jn, r1, r2, r3, r4, r5, r6, r7, r8, r9, r10, r11⟩ := hA.2 hF
          have hwt : ∀ j, j < s + P.length → wt' j = wt j := fun j hj => by rw [r10 j (by omega), rup_ne (by omega)]
          rw [r1]
          by_cases h41 : tx b n (pz b n f 5 (o + P.length + 1) (p + 1)).2 = 41
          · have hE := tx_lt h41 (by decide)
            have hz : pz b n (f + 1) 9 (o + P.length) p = (0, (pz b n f 5 (o + P.length + 1) (p + 1)).2 + 1) := by
              simp only [pz, Nat.reduceEqDiff, if_false, if_neg h33, if_pos h40, if_neg h6, if_pos h41]
              rw [if_neg (by intro h; exact h hF)]
            have h13' : wtop wt' (s + P.length + 1) = 13 := by rw [wtop_congr r10]; exact h13
            rw [hz, hl]
            refine ⟨fun h => absurd rfl h, fun _ => ⟨emit (pat1 (pat1 st' 11 (q + ln b n f 5 (o + P.length + 1) (p + 1)) jn) 12 (q + ln b n f 5 (o + P.length + 1) (p + 1)) ji) (q + ln b n f 5 (o + P.length + 1) (p + 1)) P, wt', m', ?_, fun j hj => ?_, fun j hj => hwt j (by omega), fun i hi => emit_at P _ _ i ht hi, fun r to ht2 hto hag => ?_⟩⟩
            · rw [C92_par he hx zl.1 (by omega) (by omega) (by omega) h41 r2 r3 r4 h13', if_neg (by omega), e_M_readsCondition_145, u_ends (by omega) ht (pnd_congr P hwt hP) (by rw [wtop_congr (fun j hj => hwt j (by omega))]; exact h10) (by omega) (by omega) (by omega)]
              rfl
            · rw [emit_lo P _ _ _ (by omega), pat1_ne (fun e => by have := r5 j e; omega), pat1_ne (fun e => by have := r6 j e; omega), r9 j hj]
            · rw [hcd]
              have hlow : ∀ j, q ≤ j → j < q + ln b n f 5 (o + P.length + 1) (p + 1) → r j = pat1 (pat1 st' 11 (q + ln b n f 5 (o + P.length + 1) (p + 1)) jn) 12 (q + ln b n f 5 (o + P.length + 1) (p + 1)) ji j := fun j h1 h2 => by rw [hag j h1 h2, emit_lo P _ _ _ h2]
              refine r11 r to ht2 hto (fun j h1 h2 h3 h4 => by rw [hlow j h1 h2, pat1_ne h3, pat1_ne h4]) (fun y hy => ?_) (fun y hy => ?_)
              · refine ⟨q + ln b n f 5 (o + P.length + 1) (p + 1), by omega, ?_, thrR_here⟩
                rw [hlow y (r5 y hy) (r2 y hy).2.1, hy]
                exact rup_same
              · refine ⟨q + ln b n f 5 (o + P.length + 1) (p + 1), by omega, ?_, thrR_here⟩
                rw [hlow y (r6 y hy) (r3 y hy).2.1, pat1_ne (fun e => r4 y e hy), hy]
                exact rup_same
          · have hz : pz b n (f + 1) 9 (o + P.length) p = (-1000 - (((pz b n f 5 (o + P.length + 1) (p + 1)).2 : Nat) : Int), (pz b n f 5 (o + P.length + 1) (p + 1)).2) := by
              simp only [pz, Nat.reduceEqDiff, if_false, if_neg h33, if_pos h40, if_neg h6, if_neg h41]
              rw [if_neg (by intro h; exact h hF)]
            rw [hz]
            refine ⟨fun _ => ?_, fun h => absurd h (by dsimp only; omega)⟩
            rw [C92_no he hx zl.1 h41 r7 r8]
            exact RF1_i rfl
        · have hz : pz b n (f + 1) 9 (o + P.length) p = pz b n f 5 (o + P.length + 1) (p + 1) := by
            simp only [pz, Nat.reduceEqDiff, if_false, if_neg h33, if_pos h40, if_neg h6]
            rw [if_pos hF]
          rw [hz]
          exact ⟨fun _ => hA.1 hF, fun h => absurd h hF⟩
    · obtain ⟨e, rfl, he'⟩ := pred_of (k := 5) he
      have hl : ln b n (f + 1) 9 (o + P.length) p = ln b n f 0 (o + P.length) p + ln b n f 0 (o + P.length) ((pz b n f 0 (o + P.length) p).2 + 1) + 1 := by simp only [ln, Nat.reduceEqDiff, if_false, if_neg h33, if_neg h40]
      have hcd : ∀ st to, cdR b st n to (f + 1) 9 (o + P.length) p q 0 = (cdR b st n to f 0 (o + P.length) p q 0 ∧ cdR b st n to f 0 (o + P.length) ((pz b n f 0 (o + P.length) p).2 + 1) (q + ln b n f 0 (o + P.length) p) 0 ∧ 7 ≤ sgs (tx b n (pz b n f 0 (o + P.length) p).2) ∧ st (q + ln b n f 0 (o + P.length) p + ln b n f 0 (o + P.length) ((pz b n f 0 (o + P.length) p).2 + 1)) = ((1048576 * sgs (tx b n (pz b n f 0 (o + P.length) p).2) : Nat) : Int)) := fun st to => by simp only [cdR, Nat.reduceEqDiff, if_false, if_neg h33, if_neg h40]
      have hC : ∀ (r : Int) (M : Mu), mC z (e + 1) 223 [(2, 86)] (UQ μ st wt (p : Int) (q : Int) ((s + P.length : Nat) : Int) ((o + P.length : Nat) : Int) m) = some (r, M) → C40 z (e + 1) (UQ μ st wt (p : Int) (q : Int) ((s + P.length : Nat) : Int) ((o + P.length : Nat) : Int) m) = bif !decide (r = 0) then C92 z (e + 1) M else some (0, M) := by
        intro r M hr
        unfold C40 C92
        rw [e_M_readsCondition_40, u_here (by omega) hx]
        simp -implicitDefEqProofs only [ob]
        rw [cF h33, u_here (by omega) hx]
        simp -implicitDefEqProofs only [ob]
        rw [nF h40, hr]
        simp -implicitDefEqProofs only [ob]
      have hA := t_readsSum (z := z) (d := e) (f := f) (o := o + P.length) (p := p) (q := q) (s := s + P.length) (st := st) (wt := wt) (m := m) he' hx hp ho (by omega) (by omega) (by omega) (stp_7 h7)
      by_cases hF : (pz b n f 0 (o + P.length) p).1 = 0
      · have zl := pz_ln f 0 (o + P.length) p hp hF
        obtain ⟨st1, wt1, m1, r1, r2, r3, r4⟩ := hA.2 hF
        by_cases hsg : tx b n (pz b n f 0 (o + P.length) p).2 = 60 ∨ tx b n (pz b n f 0 (o + P.length) p).2 = 62 ∨ tx b n (pz b n f 0 (o + P.length) p).2 = 61
        · have hE : (pz b n f 0 (o + P.length) p).2 < n := by rcases hsg with h | h | h <;> exact tx_lt h (by decide)
          have hz : pz b n (f + 1) 9 (o + P.length) p = pz b n f 0 (o + P.length) ((pz b n f 0 (o + P.length) p).2 + 1) := by
            simp only [pz, Nat.reduceEqDiff, if_false, if_neg h33, if_neg h40, if_pos hsg]
            rw [if_neg (by intro h; exact h hF)]
          have hB := t_readsSum (z := z) (d := e) (f := f) (o := o + P.length) (p := (pz b n f 0 (o + P.length) p).2 + 1) (q := q + ln b n f 0 (o + P.length) p) (s := s + P.length) (st := st1) (wt := wt1) (m := m1) he' hx hE ho (by omega) (by omega) (by omega) (stp_congr r3 (stp_7 h7))
          have hcm : mC z (e + 1) 223 [(2, 86)] (UQ μ st wt (p : Int) (q : Int) ((s + P.length : Nat) : Int) ((o + P.length : Nat) : Int) m) = f_M_readsCompared_52 z e ((sgs (tx b n (pz b n f 0 (o + P.length) p).2) : Nat) : Int) (UQ μ st1 wt1 (((pz b n f 0 (o + P.length) p).2 : Nat) : Int) ((q + ln b n f 0 (o + P.length) p : Nat) : Int) ((s + P.length : Nat) : Int) ((o + P.length : Nat) : Int) m1) := by
            rw [c_M_readsCompared, r1]
            simp -implicitDefEqProofs only [ob]
            rw [nF (by decide), u_here (by omega) hx]
            simp -implicitDefEqProofs only [ob]
            rcases hsg with h | h | h
            · rw [nT h, h]
              rfl
            · rw [nF (by omega), u_here (by omega) hx]
              simp -implicitDefEqProofs only [ob]
              rw [nT h, h]
              rfl
            · rw [nF (by omega), u_here (by omega) hx]
              simp -implicitDefEqProofs only [ob]
              rw [nF (by omega), u_here (by omega) hx]
              simp -implicitDefEqProofs only [ob]
              rw [nT h, h]
              rfl
          have hg7 := sgs_cmp hsg
          have hg9 := sgs_le (tx b n (pz b n f 0 (o + P.length) p).2)
          by_cases hF2 : (pz b n f 0 (o + P.length) ((pz b n f 0 (o + P.length) p).2 + 1)).1 = 0
          · have zl2 := pz_ln f 0 (o + P.length) ((pz b n f 0 (o + P.length) p).2 + 1) hE hF2
            obtain ⟨st2, wt2, m2, k1, k2, k3, k4⟩ := hB.2 hF2
            have hwt : ∀ j, j < s + P.length → wt2 j = wt j := fun j hj => by rw [k3 j hj, r3 j hj]
            rw [hz, hl]
            refine ⟨fun h => absurd hF2 h, fun _ => ⟨emit (rup st2 (q + ln b n f 0 (o + P.length) p + ln b n f 0 (o + P.length) ((pz b n f 0 (o + P.length) p).2 + 1)) ((1048576 * sgs (tx b n (pz b n f 0 (o + P.length) p).2) : Nat) : Int)) (q + ln b n f 0 (o + P.length) p + ln b n f 0 (o + P.length) ((pz b n f 0 (o + P.length) p).2 + 1) + 1) P, wt2, m2, ?_, fun j hj => ?_, fun j hj => hwt j (by omega), fun i hi => ?_, fun r to ht2 hto hag => ?_⟩⟩
            · have hres : mC z (e + 1) 223 [(2, 86)] (UQ μ st wt (p : Int) (q : Int) ((s + P.length : Nat) : Int) ((o + P.length : Nat) : Int) m) = some (1, UQ μ (emit (rup st2 (q + ln b n f 0 (o + P.length) p + ln b n f 0 (o + P.length) ((pz b n f 0 (o + P.length) p).2 + 1)) ((1048576 * sgs (tx b n (pz b n f 0 (o + P.length) p).2) : Nat) : Int)) (q + ln b n f 0 (o + P.length) p + ln b n f 0 (o + P.length) ((pz b n f 0 (o + P.length) p).2 + 1) + 1) P) wt2 (((pz b n f 0 (o + P.length) ((pz b n f 0 (o + P.length) p).2 + 1)).2 : Nat) : Int) ((q + ln b n f 0 (o + P.length) p + ln b n f 0 (o + P.length) ((pz b n f 0 (o + P.length) p).2 + 1) + 1 + P.length : Nat) : Int) (s : Int) (o : Int) m2) := by
                rw [hcm, e_M_readsCompared_52, nF (by omega), UQ_10, UQ_u10, zwc (by omega), k1]
                simp -implicitDefEqProofs only [ob]
                rw [nF (by decide), u_notes0 (by omega) (by omega) (by omega)]
                simp -implicitDefEqProofs only [ob]
                rw [u_ends (by omega) ht (pnd_congr P hwt hP) (by rw [wtop_congr (fun j hj => hwt j (by omega))]; exact h10) (by omega) (by omega) (by omega)]
                rfl
              rw [hC _ _ hres, nF (by decide), show q + ln b n f 0 (o + P.length) p + ln b n f 0 (o + P.length) ((pz b n f 0 (o + P.length) p).2 + 1) + 1 + P.length = q + (ln b n f 0 (o + P.length) p + ln b n f 0 (o + P.length) ((pz b n f 0 (o + P.length) p).2 + 1) + 1) + P.length by omega]
            · rw [emit_lo P _ _ _ (by omega), rup_ne (by omega), k2 j (by omega), r2 j hj]
            · rw [show q + (ln b n f 0 (o + P.length) p + ln b n f 0 (o + P.length) ((pz b n f 0 (o + P.length) p).2 + 1) + 1) + i = q + ln b n f 0 (o + P.length) p + ln b n f 0 (o + P.length) ((pz b n f 0 (o + P.length) p).2 + 1) + 1 + i by omega]
              exact emit_at P _ _ i ht hi
            · rw [hcd]
              refine ⟨cdR_congr4 _ _ _ _ _ _ st1 _ (by omega) (fun j h1 h2 => ?_) (r4 to), cdR_congr4 _ _ _ _ _ _ st2 _ (by omega) (fun j h1 h2 => ?_) (k4 to), hg7, ?_⟩
              · rw [hag j h1 (by omega), emit_lo P _ _ _ (by omega), rup_ne (by omega), k2 j h2]
              · rw [hag j (by omega) (by omega), emit_lo P _ _ _ (by omega), rup_ne (by omega)]
              · rw [hag _ (by omega) (by omega), emit_lo P _ _ _ (by omega), rup_same]
          · rw [hz]
            refine ⟨fun _ => ?_, fun h => absurd h hF2⟩
            obtain ⟨st2, wt2, p2, q2, s2, o2, m2, hh⟩ := hB.1 hF2
            have hres : mC z (e + 1) 223 [(2, 86)] (UQ μ st wt (p : Int) (q : Int) ((s + P.length : Nat) : Int) ((o + P.length : Nat) : Int) m) = some (0, zup (UQ μ st2 wt2 p2 q2 s2 o2 m2) 86 12 (pz b n f 0 (o + P.length) ((pz b n f 0 (o + P.length) p).2 + 1)).1) := by
              rw [hcm, e_M_readsCompared_52, nF (by omega), UQ_10, UQ_u10, zwc (by omega), hh]
              simp -implicitDefEqProofs only [ob]
              rw [nTt]
            rw [hC _ _ hres, nT rfl]
            exact RF1_i rfl
        · have hz : pz b n (f + 1) 9 (o + P.length) p = (-1000 - (((pz b n f 0 (o + P.length) p).2 : Nat) : Int), (pz b n f 0 (o + P.length) p).2) := by
            simp only [pz, Nat.reduceEqDiff, if_false, if_neg h33, if_neg h40, if_neg hsg]
            rw [if_neg (by intro h; exact h hF)]
          rw [hz]
          refine ⟨fun _ => ?_, fun h => absurd h (by dsimp only; omega)⟩
          have hres : mC z (e + 1) 223 [(2, 86)] (UQ μ st wt (p : Int) (q : Int) ((s + P.length : Nat) : Int) ((o + P.length : Nat) : Int) m) = some (0, zup (UQ μ st1 wt1 (((pz b n f 0 (o + P.length) p).2 : Nat) : Int) ((q + ln b n f 0 (o + P.length) p : Nat) : Int) ((s + P.length : Nat) : Int) ((o + P.length : Nat) : Int) m1) 86 12 (-1000 - (((pz b n f 0 (o + P.length) p).2 : Nat) : Int))) := by
            rw [c_M_readsCompared, r1]
            simp -implicitDefEqProofs only [ob]
            rw [nF (by decide), u_here (by omega) hx]
            simp -implicitDefEqProofs only [ob]
            rw [nF (fun h => hsg (Or.inl h)), u_here (by omega) hx]
            simp -implicitDefEqProofs only [ob]
            rw [nF (fun h => hsg (Or.inr (Or.inl h))), u_here (by omega) hx]
            simp -implicitDefEqProofs only [ob]
            rw [nF (fun h => hsg (Or.inr (Or.inr h))), e_M_readsCompared_51, e_M_readsCompared_52, nT rfl, UQ_10, t_wrongAt (by omega) (by omega) (by omega)]
            simp -implicitDefEqProofs only [ob]
            rw [g01_ok (Or.inl rfl), show (-1000 * 1 - (((pz b n f 0 (o + P.length) p).2 : Nat) : Int)) = -1000 - (((pz b n f 0 (o + P.length) p).2 : Nat) : Int) by omega]
          rw [hC _ _ hres, nT rfl]
          exact RF1_i rfl
      · have hz : pz b n (f + 1) 9 (o + P.length) p = pz b n f 0 (o + P.length) p := by
          simp only [pz, Nat.reduceEqDiff, if_false, if_neg h33, if_neg h40]
          rw [if_pos hF]
        rw [hz]
        refine ⟨fun _ => ?_, fun h => absurd h hF⟩
        obtain ⟨st2, wt2, p2, q2, s2, o2, m2, hh⟩ := hA.1 hF
        have hres : mC z (e + 1) 223 [(2, 86)] (UQ μ st wt (p : Int) (q : Int) ((s + P.length : Nat) : Int) ((o + P.length : Nat) : Int) m) = some (0, zup (UQ μ st2 wt2 p2 q2 s2 o2 m2) 86 12 (pz b n f 0 (o + P.length) p).1) := by
          rw [c_M_readsCompared, hh]
          simp -implicitDefEqProofs only [ob]
          rw [nTt]
        rw [hC _ _ hres, nT rfl]
        exact RF1_i rfl
theorem bAll {μ : Mu} {z : zZ} {e n : Nat} {b : Row} (he : 6 ≤ e) (hx : CX μ b n) : ∀ f, B5c μ z e b n f ∧ B6c μ z e b n f ∧ B7c μ z e b n f ∧ B8c μ z e b n f ∧ B9c μ z e b n f := by
  intro f
  induction f with
  | zero =>
    refine ⟨?_, ?_, ?_, ?_, ?_⟩
    · intro o p q s st wt m hp ho hf; omega
    · intro o p q s ji jn st wt m hp ho hf; omega
    · intro o p q s st wt m hp ho hf; omega
    · intro o p q s jn st wt m hp ho hf; omega
    · intro o p q s P st wt m hp ho ht hP h10 h7 hs1 hf; omega
  | succ f ih =>
    obtain ⟨h5, h6, h7, h8, h9⟩ := ih
    exact ⟨b5 hx h7 h6, b6 he hx h7 h6, b7 hx h9 h8, b8 he hx h9 h8, b9 he hx h9 h5⟩
