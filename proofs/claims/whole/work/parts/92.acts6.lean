/-! acts in both: turning, spies -/
def tnB (c : Int) (n : Nat) (g : Row) (k : Nat) : Row := fun j => if j < k then (nib c (n - 1 - j) : Int) - 1 else g j
theorem tnB_step (c : Int) (n : Nat) (g : Row) (k : Nat) : rup (tnB c n g k) k ((nib c (n - 1 - k) : Int) - 1) = tnB c n g (k + 1) := by
  funext j
  unfold rup tnB
  by_cases h1 : j = k
  · subst h1; rw [if_pos rfl, if_pos (by omega)]
  · rw [if_neg h1]
    by_cases h2 : j < k
    · rw [if_pos h2, if_pos (by omega)]
    · rw [if_neg h2, if_neg (by omega)]
theorem tnB_0 (c : Int) (n : Nat) (g : Row) : tnB c n g 0 = g := by
  funext j
  unfold tnB
  rw [if_neg (by omega)]
theorem rwd_tn {ρ : Mu} {c : Int} {n : Nat} (hc : isW c n) : rwd (zrow ρ 118 (tnB c n (ρ 118) n)) 118 0 n (wbk c n n) := by
  refine ⟨isW_wbk hc, fun k hk => ?_⟩
  rw [zrow_same, Nat.zero_add, nib_wbk hc k n (Nat.le_refl _), if_pos (by omega)]
  unfold tnB
  rw [if_pos hk]
theorem t_turns {z : zZ} {d s w N f : Nat} {W : Row} {L : Nat → Nat} {ρ : Mu} (hd : 3 ≤ d) (hs : s < 2) (hx : lexR ρ s N W L) (hw : w < N) (hf : ρ 86 (16 + s) = (f : Int)) (h4 : f < 4096) (hst : f.testBit w = true) : ∃ P, mC z d 239 [(2, 86), (0, (s : Int)), (0, (w : Int))] ρ = (if fst1 (fun v => decide (W v = wbk (W w) (L w) (L w))) N ≠ -1 ∧ f.testBit (fst1 (fun v => decide (W v = wbk (W w) (L w) (L w))) N).toNat = false then some (1, zup P 86 (16 + s) ((fclr f w ||| 2 ^ (fst1 (fun v => decide (W v = wbk (W w) (L w) (L w))) N).toNat : Nat) : Int)) else some (0, P)) ∧ ∀ a, a ≠ 118 → P a = ρ a := by
  obtain ⟨e, rfl, he⟩ := pred_of hd
  obtain ⟨x1, x2, x3⟩ := hx.2.2 w hw
  have h12 := hx.2.1
  have hn8 := x3.1.2.1
  have hlr : ∀ h : Row, lexR (zrow ρ 118 h) s N W L := fun h => lexR_congr hx (zrow_ne (by omega)) (zrow_ne (by omega)) (zrow_ne (by omega))
  refine ⟨zrow ρ 118 (tnB (W w) (L w) (ρ 118) (L w)), ?_, fun a h => zrow_ne h⟩
  rw [c_M_turns, t_longOf (by omega) hs (by omega), x2]
  simp -implicitDefEqProofs only [ob]
  have H := down (n := L w) (P := fun k => f_M_turns_10 z e (s : Int) (w : Int) (L w : Int) (k : Int) (zrow ρ 118 (tnB (W w) (L w) (ρ 118) k)) = (if fst1 (fun v => decide (W v = wbk (W w) (L w) (L w))) N ≠ -1 ∧ f.testBit (fst1 (fun v => decide (W v = wbk (W w) (L w) (L w))) N).toNat = false then some (1, zup (zrow ρ 118 (tnB (W w) (L w) (ρ 118) (L w))) 86 (16 + s) ((fclr f w ||| 2 ^ (fst1 (fun v => decide (W v = wbk (W w) (L w) (L w))) N).toNat : Nat) : Int)) else some (0, zrow ρ 118 (tnB (W w) (L w) (ρ 118) (L w)))))
    (by
      have hwi := t_wordIn (z := z) (d := e) (by omega) hs (hlr (tnB (W w) (L w) (ρ 118) (L w))) ia118 (j := 0) (m := L w) (by omega) (by omega) (rwd_tn x3.1)
      rw [show ((118 : Nat) : Int) = 118 from rfl, Int.natCast_zero] at hwi
      have hf' : zrow ρ 118 (tnB (W w) (L w) (ρ 118) (L w)) 86 (16 + s) = (f : Int) := by rw [zrow_ne (by omega)]; exact hf
      rw [e_M_turns_10, cT (by omega), hwi]
      simp -implicitDefEqProofs only [ob]
      rw [e_M_turns_84]
      rcases fst1_sp (fun v => decide (W v = wbk (W w) (L w) (L w))) N with ⟨h1, _⟩ | ⟨v, h1, h2, h3, _⟩
      · rw [h1, cT rfl, if_neg (fun h => h.1 rfl)]
      · rw [h1, cF (by omega)]
        by_cases hvw : v = w
        · subst hvw
          rw [cT rfl, if_neg (by intro h; rw [Int.toNat_natCast, hst] at h; exact absurd h.2 (by decide))]
        · rw [cF (by omega), t_fieldOf (by omega) hs, hf']
          simp -implicitDefEqProofs only [ob]
          rw [t_has (by omega) (by omega) (by omega)]
          simp -implicitDefEqProofs only [ob]
          rw [cB, Int.toNat_natCast]
          cases hb : f.testBit v
          · rw [cond_false, if_pos ⟨by omega, rfl⟩, e_M_turns_86, t_stands0 (by omega) hs (by omega) hf' h4]
            simp -implicitDefEqProofs only [ob]
            rw [t_stands1 (by omega) hs (by omega) zup_hit (fclr_lt f w)]
            simp -implicitDefEqProofs only [ob]
            rw [zup_zup]
          · rw [cond_true, e_M_turns_84, if_neg (by intro h; exact absurd h.2 (by decide))])
    (by
      intro k hk ih
      have hval : ρ 94 (8 * (12 * s + w) + (L w - 1 - k)) = (nib (W w) (L w - 1 - k) : Int) - 1 := x3.2 _ (by omega)
      rw [e_M_turns_10, cF (by omega), t_beginOf (by omega) hs (by omega)]
      simp -implicitDefEqProofs only [ob]
      rw [show zw (zw (zw (((8 * (12 * s + w) : Nat) : Int) + (L w : Int)) - 1) - (k : Int)) = ((8 * (12 * s + w) + (L w - 1 - k) : Nat) : Int) by rw [zwa (by omega), zw_id (x := ((8 * (12 * s + w) + L w : Nat) : Int) - 1) (by omega) (by omega), zw_id (by omega) (by omega)]; omega, gI_ok (by omega) (by omega), gI_ok (by omega) (by omega), Int.toNat_natCast, Int.toNat_natCast, zrow_ne (by omega), hval, zupr, zrow_same, zrow_zrow, tnB_step, zwc (by omega)]
      exact ih) 0 (by omega)
  rw [tnB_0, zrow_id] at H
  exact H
theorem act_turn {z : zZ} {d d' s i m wl : Nat} {A O : Int} {μ ρ : Mu} {N F : Nat → Nat} {L : Nat → Nat → Nat} (hd : 5 ≤ d) (hd' : 5 ≤ d') (hB : BT μ ρ N F L wl) (hs : s < 2) (hm : m ≤ 12) (h36 : μ 36 3 = (m : Int)) (hi : i < m) (hK : μ 37 i = 126) (hA : μ 38 i = A) (hR : rA ρ i 126 A O) : STP z d d' s i μ ρ N L wl := by
  obtain ⟨e, rfl, he⟩ := pred_of (k := 4) hd
  obtain ⟨e', rfl, he'⟩ := pred_of (k := 4) hd'
  obtain ⟨a1, a2, a3, a4, a5, a6, a7, a8, a9, a10, a11, a12⟩ := hB.1 s hs
  obtain ⟨b1, b2, b3, b4, b5, b6, b7⟩ := hB.2.1 s hs
  have h4 := f4096 a4 a2
  obtain ⟨_, ⟨l, _, _, hl, _⟩, _⟩ := id hR
  have hCk := s_doKind (z := z) (d := e) (by omega) hs hm h36 hi hK hA a1 a2
  rw [cF (by decide), cF (by decide), cF (by decide), cT rfl, e_W_doAct_122 _ _ _ _ _ _ (o9 hs), gI_ok (by omega) (by omega), Int.toNat_natCast, hA, s_backwards (by omega) hl.1] at hCk
  simp -implicitDefEqProofs only [ob] at hCk
  rw [s_find (by omega) (o9 hs) a1 a2] at hCk
  simp -implicitDefEqProofs only [ob] at hCk
  have hRk := t_doHead (z := z) (d := e') (by omega) hs (by omega) hR (Or.inr (Or.inr (Or.inl rfl))) (N := N s) (W := μ (4 + 9 * s + 4)) (L := L s) (by rw [if_neg (by decide)]; exact b2)
  rcases fst1_sp (fun w => decide (μ (4 + 9 * s + 4) w = A)) (N s) with ⟨h1, _⟩ | ⟨w, h1, h2, h3, _⟩
  · rw [h1] at hCk hRk
    refine stp_no hB ?_ ?_ (fun _ _ => rfl)
    · rw [hCk, s_replace_no (by omega) (o9 hs) a1 a2 a3 h4 (by omega)]
      simp -implicitDefEqProofs only [ob]
      rw [g01_0]
    · rw [hRk, if_pos rfl]
  · have hWA := of_decide_eq_true h3
    rw [h1] at hCk hRk
    rw [if_neg (by omega), e_M_does_51, show kc 126 = 2 from rfl, if_neg (by decide), nF (by decide), t_fieldOf (by omega) hs, b1] at hRk
    simp -implicitDefEqProofs only [ob] at hRk
    rw [t_has (by omega) (by omega) (by omega)] at hRk
    simp -implicitDefEqProofs only [ob] at hRk
    rw [nB] at hRk
    have hlen : l = L s w := by
      have := (a9 w h2).1
      rw [hWA] at this
      exact isW_len hl.1 this
    rw [hlen] at hCk
    by_cases hc : (F s).testBit w = true
    · obtain ⟨P, hP, hPf⟩ := t_turns (z := z) (d := e') (by omega) hs b2 h2 b1 h4 hc
      rw [hc, cond_true, nTt, hP, hWA] at hRk
      rcases fst1_sp (fun v => decide (μ (4 + 9 * s + 4) v = wbk A (L s w) (L s w))) (N s) with ⟨k1, _⟩ | ⟨v, k1, k2, k3, _⟩
      · rw [k1] at hCk hRk
        rw [if_neg (fun h => h.1 rfl)] at hRk
        simp -implicitDefEqProofs only [ob] at hRk
        rw [e_M_does_91, g01_0] at hRk
        refine stp_no hB ?_ hRk hPf
        rw [hCk, s_replace_no (by omega) (o9 hs) a1 a2 a3 h4 (by omega)]
        simp -implicitDefEqProofs only [ob]
        rw [g01_0]
      · rw [k1] at hCk hRk
        rw [s_replace (by omega) (o9 hs) a1 a2 a3 h4 h2 k2] at hCk
        rw [Int.toNat_natCast] at hRk
        by_cases hv : (F s).testBit v = true
        · rw [hc, hv, if_neg (by decide)] at hCk
          rw [hv, if_neg (fun h => absurd h.2 (by decide))] at hRk
          simp -implicitDefEqProofs only [ob] at hCk hRk
          rw [g01_0] at hCk
          rw [e_M_does_91, g01_0] at hRk
          exact stp_no hB hCk hRk hPf
        · have hv' : (F s).testBit v = false := by simpa using hv
          rw [hc, hv', if_pos (by decide)] at hCk
          rw [hv', if_pos ⟨by omega, rfl⟩] at hRk
          simp -implicitDefEqProofs only [ob] at hCk hRk
          rw [g01_1] at hCk
          rw [e_M_does_91, g01_1] at hRk
          have e0 : 4 + 9 * s + 3 ≠ 4 + 9 * s := by omega
          have hcc := cnt_clr h4 (by omega) hc
          have hvc : (fclr (F s) w).testBit v = false := by rw [fclr_bit _ _ _ h4, hv']; rfl
          refine ⟨true, _, _, _, hCk, hRk, bt_upd hB hs (f' := fclr (F s) w ||| 2 ^ v) (fun a q1 q2 => zup_ro q1) (fun k q => zup_nk q) zup_hit (or_lt2 (fclr_lt2 a4 a2) k2) (by rw [cnt_or (by omega) hvc]; omega) (by rw [zup_ro e0]; exact a6) (fun a q1 q2 q3 q4 q5 => by rw [zup_ro q1]; exact hPf a q5) (fun k q => by rw [zup_nk q, hPf 86 (by omega)]) zup_hit (by rw [zup_ro (by omega), zup_ro (by omega), zup_ro (by omega), hPf 90 (by omega), hPf 91 (by omega), hPf 92 (by omega)]; exact hB.2.2.2.2.1) (by rw [zup_ro (by omega), hPf 90 (by omega), zup_ro e0]; exact b3) (by rw [zup_ro (by omega), hPf 91 (by omega), zup_ro e0]; exact b4) (by rw [zup_ro (by omega), hPf 92 (by omega), zup_ro e0]; exact b5) (fun k hk => ⟨by rw [zup_ro (by omega), hPf 90 (by omega)], by rw [zup_ro (by omega), hPf 91 (by omega)], by rw [zup_ro (by omega), hPf 92 (by omega)]⟩), CF_side hs (fun a q1 q2 => zup_ro q1) (fun k q => zup_nk q), RFm_side hs (fun a q1 q2 q3 q4 q5 => by rw [zup_ro q1]; exact hPf a q5) (fun k q => by rw [zup_nk q, hPf 86 (by omega)])⟩
    · have hc' : (F s).testBit w = false := by simpa using hc
      rw [hc', cond_false] at hRk
      refine stp_no hB ?_ hRk (fun _ _ => rfl)
      rw [hCk]
      rcases fst1_sp (fun v => decide (μ (4 + 9 * s + 4) v = wbk A (L s w) (L s w))) (N s) with ⟨k1, _⟩ | ⟨v, k1, k2, k3, _⟩
      · rw [k1, s_replace_no (by omega) (o9 hs) a1 a2 a3 h4 (by omega)]
        simp -implicitDefEqProofs only [ob]
        rw [g01_0]
      · rw [k1, s_replace (by omega) (o9 hs) a1 a2 a3 h4 h2 k2, hc', if_neg (by simp)]
        simp -implicitDefEqProofs only [ob]
        rw [g01_0]
