/-! acts in both: spies -/
theorem zd16 {q x : Nat} (hq : q < 8) (hx : x < 12) : z_div (16 * (q : Int) + (x : Int)) 16 = (q : Int) ∧ z_rem (16 * (q : Int) + (x : Int)) 16 = (x : Int) := by
  refine ⟨?_, ?_⟩
  · rw [z_div_nn (by omega) (by omega) (by omega)]
    omega
  · rw [z_rem_nn (by omega)]
    omega
theorem os_ne {s : Nat} (hs : s < 2) : 4 + 9 * (1 - s) + 3 ≠ 4 + 9 * s + 3 ∧ 4 + 9 * (1 - s) + 3 ≠ 4 + 9 * (1 - s) ∧ 4 + 9 * s + 3 ≠ 4 + 9 * (1 - s) ∧ 4 + 9 * (1 - s) ≠ 4 + 9 * s + 3 ∧ 4 + 9 * s ≠ 4 + 9 * s + 3 := by omega
theorem ix_ne {s k x : Nat} (hs : s < 2) (hk : k < 12) (hx : x < 12) : 12 * (1 - s) + k ≠ 12 * s + x := by omega
theorem isW_wset {c : Int} {n k x : Nat} (hc : isW c n) (hk : k < n) (hx : x < 12) : isW (wset c k (x : Int)) n := by
  have h8 := hc.2.1
  refine ⟨rg_wset _ _ _, h8, fun j hj => ?_, fun j hj => ?_⟩
  · rw [nib_wset (by omega) (by omega) (by omega)]
    split
    · omega
    · exact hc.2.2.1 j hj
  · rw [nib_wset (by omega) (by omega) (by omega), if_neg (by omega)]
    exact hc.2.2.2 j hj
def spB (c : Int) (g : Row) (k : Nat) : Row := fun j => if j < k then (nib c j : Int) - 1 else g j
theorem spB_step (c : Int) (g : Row) (k : Nat) : rup (spB c g k) k ((nib c k : Int) - 1) = spB c g (k + 1) := by
  funext j
  unfold rup spB
  by_cases h1 : j = k
  · subst h1; rw [if_pos rfl, if_pos (by omega)]
  · rw [if_neg h1]
    by_cases h2 : j < k
    · rw [if_pos h2, if_pos (by omega)]
    · rw [if_neg h2, if_neg (by omega)]
theorem spB_0 (c : Int) (g : Row) : spB c g 0 = g := by
  funext j
  unfold spB
  rw [if_neg (by omega)]
theorem rwd_sp {ρ : Mu} {c : Int} {n q x : Nat} (hc : isW c n) (hq : q < n) (hx : x < 12) : rwd (zrow ρ 118 (rup (spB c (ρ 118) n) q (x : Int))) 118 0 n (wset c q (x : Int)) := by
  have h8 := hc.2.1
  refine ⟨isW_wset hc hq hx, fun k hk => ?_⟩
  rw [zrow_same, Nat.zero_add, nib_wset (by omega) (by omega) (by omega)]
  by_cases e : k = q
  · subst e
    rw [rup_same, if_pos rfl]
    omega
  · rw [rup_ne e, if_neg e]
    unfold spB
    rw [if_pos hk]
theorem t_spies {z : zZ} {d s w q x N f : Nat} {W : Row} {L : Nat → Nat} {ρ : Mu} (hd : 4 ≤ d) (hs : s < 2) (hx : lexR ρ (1 - s) N W L) (hw : w < N) (hf : ρ 86 (16 + (1 - s)) = (f : Int)) (h4 : f < 4096) (hq : q < L w) (hxx : x < 12) (h90 : hr (ρ 90)) (h91 : hr (ρ 91)) : ∃ P, mC z d 240 [(2, 86), (0, (s : Int)), (0, (w : Int)), (0, (q : Int)), (0, (x : Int))] ρ = (if ρ 90 (12 * s + x) ≠ 0 ∧ fst1 (fun v => decide (W v = wset (W w) q (x : Int))) N ≠ -1 ∧ f.testBit (fst1 (fun v => decide (W v = wset (W w) q (x : Int))) N).toNat = false then some (1, zup (zrow (zrow P 90 (rup (ρ 90) (12 * s + x) (ρ 90 (12 * s + x) - 1))) 91 (addN (ρ 91) (12 * (1 - s) + (nib (W w) q - 1)) 1)) 86 (16 + (1 - s)) ((fclr f w ||| 2 ^ (fst1 (fun v => decide (W v = wset (W w) q (x : Int))) N).toNat : Nat) : Int)) else some (0, P)) ∧ ∀ a, a ≠ 118 → P a = ρ a := by
  obtain ⟨e, rfl, he⟩ := pred_of hd
  obtain ⟨x1, x2, x3⟩ := hx.2.2 w hw
  have h12 := hx.2.1
  have hn8 := x3.1.2.1
  have hs' : 1 - s < 2 := by omega
  have hnb := x3.1.2.2.1 q hq
  have hlr : ∀ h : Row, lexR (zrow ρ 118 h) (1 - s) N W L := fun h => lexR_congr hx (zrow_ne (by omega)) (zrow_ne (by omega)) (zrow_ne (by omega))
  rw [c_M_spies, z1s hs, t_longOf (by omega) hs' (by omega), x2]
  simp -implicitDefEqProofs only [ob]
  rw [zi12 (by omega) (by omega), gI_ok (by omega) (by omega), Int.toNat_natCast]
  by_cases h0 : ρ 90 (12 * s + x) = 0
  · refine ⟨ρ, ?_, fun _ _ => rfl⟩
    rw [nT h0, if_neg (fun h => h.1 h0)]
  · rw [nF h0, e_M_spies_31]
    refine ⟨zrow ρ 118 (rup (spB (W w) (ρ 118) (L w)) q (x : Int)), ?_, fun a h => zrow_ne h⟩
    generalize hR : (if ρ 90 (12 * s + x) ≠ 0 ∧ fst1 (fun v => decide (W v = wset (W w) q (x : Int))) N ≠ -1 ∧ f.testBit (fst1 (fun v => decide (W v = wset (W w) q (x : Int))) N).toNat = false then some ((1 : Int), zup (zrow (zrow (zrow ρ 118 (rup (spB (W w) (ρ 118) (L w)) q (x : Int))) 90 (rup (ρ 90) (12 * s + x) (ρ 90 (12 * s + x) - 1))) 91 (addN (ρ 91) (12 * (1 - s) + (nib (W w) q - 1)) 1)) 86 (16 + (1 - s)) ((fclr f w ||| 2 ^ (fst1 (fun v => decide (W v = wset (W w) q (x : Int))) N).toNat : Nat) : Int)) else some (0, zrow ρ 118 (rup (spB (W w) (ρ 118) (L w)) q (x : Int)))) = R
    have H := down (n := L w) (P := fun k => f_M_spies_34 z e (s : Int) (w : Int) (q : Int) (x : Int) ((1 - s : Nat) : Int) (L w : Int) (k : Int) (zrow ρ 118 (spB (W w) (ρ 118) k)) = R)
      (by
        have hwi := t_wordIn (z := z) (d := e) (by omega) hs' (hlr (rup (spB (W w) (ρ 118) (L w)) q (x : Int))) ia118 (j := 0) (m := L w) (by omega) (by omega) (rwd_sp x3.1 hq hxx)
        rw [show ((118 : Nat) : Int) = 118 from rfl, Int.natCast_zero] at hwi
        have hf' : zrow ρ 118 (rup (spB (W w) (ρ 118) (L w)) q (x : Int)) 86 (16 + (1 - s)) = (f : Int) := by rw [zrow_ne (by omega)]; exact hf
        have hwas : spB (W w) (ρ 118) (L w) q = ((nib (W w) q - 1 : Nat) : Int) := by unfold spB; rw [if_pos hq, nibi hnb.1]
        rw [e_M_spies_34, cT (by omega), gI_ok (by omega) (by omega), gI_ok (by omega) (by omega), Int.toNat_natCast, zupr, zrow_zrow, zrow_same, hwas, hwi]
        simp -implicitDefEqProofs only [ob]
        rw [e_M_spies_119]
        rcases fst1_sp (fun v => decide (W v = wset (W w) q (x : Int))) N with ⟨h1, _⟩ | ⟨v, h1, h2, h3, _⟩
        · rw [h1] at hR ⊢
          rw [cT rfl, ← hR, if_neg (fun h => h.2.1 rfl)]
        · rw [h1] at hR ⊢
          rw [cF (by omega), t_fieldOf (by omega) hs', hf']
          simp -implicitDefEqProofs only [ob]
          rw [t_has (by omega) (by omega) (by omega)]
          simp -implicitDefEqProofs only [ob]
          rw [cB]
          rw [Int.toNat_natCast] at hR
          cases hb : f.testBit v
          · rw [hb, if_pos ⟨h0, by omega, rfl⟩] at hR
            have had := t_adds (z := z) (d := e) (a := 91) (i := 12 * (1 - s) + (nib (W w) q - 1)) (n := 1) (μ := zup (zrow ρ 118 (rup (spB (W w) (ρ 118) (L w)) q (x : Int))) 90 (12 * s + x) (ρ 90 (12 * s + x) - 1)) (by omega) ia91 (by omega) (by rw [zup_ro (by omega), zrow_ne (by omega)]; exact h91) (by omega) (by omega)
            rw [show ((91 : Nat) : Int) = 91 from rfl, zup_ro (by omega), zrow_ne (by omega)] at had
            have hx0 := h90 (12 * s + x)
            rw [cond_false, e_M_spies_121, zi12 (by omega) (by omega), gI_ok (by omega) (by omega), gI_ok (by omega) (by omega), Int.toNat_natCast, zi12 (by omega) (by omega), zrow_ne (by omega), zw_id (x := ρ 90 (12 * s + x) - 1) (by omega) (by omega), had]
            simp -implicitDefEqProofs only [ob]
            rw [t_stands0 (by omega) hs' (by omega) (by rw [zrow_ne (by omega), zup_ro (by omega)]; exact hf') h4]
            simp -implicitDefEqProofs only [ob]
            rw [t_stands1 (by omega) hs' (by omega) zup_hit (fclr_lt f w)]
            simp -implicitDefEqProofs only [ob]
            rw [zup_zup, ← hR, zupr (a := 90), zrow_ne (by omega)]
          · rw [hb, if_neg (fun h => absurd h.2.2 (by decide))] at hR
            rw [cond_true, e_M_spies_119, ← hR])
      (by
        intro k hk ih
        have hval : ρ 94 (8 * (12 * (1 - s) + w) + k) = (nib (W w) k : Int) - 1 := x3.2 _ (by omega)
        rw [e_M_spies_34, cF (by omega), t_beginOf (by omega) hs' (by omega)]
        simp -implicitDefEqProofs only [ob]
        rw [zwa (by omega), gI_ok (by omega) (by omega), gI_ok (by omega) (by omega), Int.toNat_natCast, Int.toNat_natCast, zrow_ne (by omega), hval, zupr, zrow_same, zrow_zrow, spB_step, zwc (by omega)]
        exact ih) 0 (by omega)
    rw [spB_0, zrow_id] at H
    exact H
theorem act_spy {z : zZ} {d d' s i m wl : Nat} {A O : Int} {μ ρ : Mu} {N F : Nat → Nat} {L : Nat → Nat → Nat} (hd : 6 ≤ d) (hd' : 6 ≤ d') (hB : BT μ ρ N F L wl) (hs : s < 2) (hm : m ≤ 12) (h36 : μ 36 3 = (m : Int)) (hi : i < m) (hK : μ 37 i = 63) (hA : μ 38 i = A) (hO : μ 39 i = O) (hR : rA ρ i 63 A O) : STP z d d' s i μ ρ N L wl := by
  obtain ⟨e, rfl, he⟩ := pred_of (k := 5) hd
  obtain ⟨e', rfl, he'⟩ := pred_of (k := 5) hd'
  have hs' : 1 - s < 2 := by omega
  obtain ⟨a1, a2, a3, a4, a5, a6, a7, a8, a9, a10, a11, a12⟩ := hB.1 s hs
  obtain ⟨p1, p2, p3, p4, p5, p6, p7, p8, p9, p10, p11, p12⟩ := hB.1 (1 - s) hs'
  obtain ⟨b1, b2, b3, b4, b5, b6, b7⟩ := hB.2.1 s hs
  obtain ⟨c1, c2, c3, c4, c5, c6, c7⟩ := hB.2.1 (1 - s) hs'
  have h4 := f4096 p4 p2
  obtain ⟨_, ⟨l, _, _, hl, hsp⟩, _⟩ := id hR
  obtain ⟨q, x, hq1, hx1, hO1, hql, hx12⟩ := hsp rfl
  have hl8 := hl.1.2.1
  have hnb := hl.1.2.2.1 q hql
  have hq8 : q < 8 := by omega
  have hx90 : ρ 90 (12 * s + x) = μ (4 + 9 * s + 3) x := by have := b3 x hx12; rw [Nat.zero_add] at this; exact this
  have hx0 := a6 x
  have hCk := s_doKind (z := z) (d := e) (by omega) hs hm h36 hi hK hA a1 a2
  obtain ⟨e2, rfl, he2⟩ := pred_of (k := 4) he
  rw [cF (by decide), cF (by decide), cF (by decide), cF (by decide), e_W_doAct_167 _ _ _ _ _ _ (o9 hs) (o9 hs'), c_W_changeBySpy _ _ _ _ _ _ (o9 hs) (o9 hs'), gI_ok (by omega) (by omega), gI_ok (by omega) (by omega), gI_ok (by omega) (by omega), Int.toNat_natCast, hA, hO, hO1, (zd16 hq8 hx12).1, (zd16 hq8 hx12).2, s_letterAt (by omega), letc_nat (by omega), nibi hnb.1] at hCk
  simp -implicitDefEqProofs only [ob] at hCk
  rw [s_isLetter (by omega)] at hCk
  simp -implicitDefEqProofs only [ob] at hCk
  rw [cB, cT (by omega), s_isLetter (by omega)] at hCk
  simp -implicitDefEqProofs only [ob] at hCk
  rw [cB, cT (by omega), z0l (by omega), gI_ok (by omega) (by omega), Int.toNat_natCast, e_W_changeBySpy_77] at hCk
  have hRk := t_doHead (z := z) (d := e') (by omega) hs (by omega) hR (Or.inr (Or.inr (Or.inr (Or.inr rfl)))) (N := N (1 - s)) (W := μ (4 + 9 * (1 - s) + 4)) (L := L (1 - s)) (by rw [if_pos rfl]; exact c2)
  rw [if_pos rfl] at hRk
  have hno : μ (4 + 9 * s + 3) x < 1 ∨ fst1 (fun w => decide (μ (4 + 9 * (1 - s) + 4) w = A)) (N (1 - s)) = -1 ∨ fst1 (fun w => decide (μ (4 + 9 * (1 - s) + 4) w = wset A q (x : Int))) (N (1 - s)) = -1 ∨ (∃ w v : Nat, fst1 (fun w => decide (μ (4 + 9 * (1 - s) + 4) w = A)) (N (1 - s)) = (w : Int) ∧ w < N (1 - s) ∧ fst1 (fun w => decide (μ (4 + 9 * (1 - s) + 4) w = wset A q (x : Int))) (N (1 - s)) = (v : Int) ∧ v < N (1 - s) ∧ ((F (1 - s)).testBit w && !(F (1 - s)).testBit v) = false) → mC z (e2 + 1 + 1) 70 [(2, 0), (0, (s : Int)), (0, (i : Int))] μ = some (0, μ) := by
    intro h
    rw [hCk]
    by_cases h0 : 1 ≤ μ (4 + 9 * s + 3) x
    · rw [cT h0, e_W_changeBySpy_79 _ _ _ _ _ _ _ _ _ (o9 hs) (o9 hs'), s_find (by omega) (o9 hs') p1 p2]
      simp -implicitDefEqProofs only [ob]
      rw [s_changed (by omega) (by omega) (by omega) (by omega)]
      simp -implicitDefEqProofs only [ob]
      rw [s_find (by omega) (o9 hs') p1 p2]
      simp -implicitDefEqProofs only [ob]
      have hrep : mC z e2 78 [(2, (((4 + 9 * (1 - s) : Nat)) : Int)), (0, fst1 (fun w => decide (μ (4 + 9 * (1 - s) + 4) w = A)) (N (1 - s))), (0, fst1 (fun w => decide (μ (4 + 9 * (1 - s) + 4) w = wset A q (x : Int))) (N (1 - s)))] μ = some (0, μ) := by
        rcases h with h | h | h | ⟨w, v, h1, h2, h3, h5, h6⟩
        · omega
        · rw [h, s_replace_no (by omega) (o9 hs') p1 p2 p3 h4 (by omega)]
        · rw [h, s_replace_no (by omega) (o9 hs') p1 p2 p3 h4 (by omega)]
        · rw [h1, h3, s_replace (by omega) (o9 hs') p1 p2 p3 h4 h2 h5, h6, if_neg (by decide)]
      rw [hrep]
      simp -implicitDefEqProofs only [ob]
      rw [nTt]
      simp -implicitDefEqProofs only [ob]
      rw [g01_0]
    · rw [cF h0]
      simp -implicitDefEqProofs only [ob]
      rw [g01_0]
  rcases fst1_sp (fun w => decide (μ (4 + 9 * (1 - s) + 4) w = A)) (N (1 - s)) with ⟨h1, _⟩ | ⟨w, h1, h2, h3, _⟩
  · refine stp_no hB (hno (Or.inr (Or.inl h1))) ?_ (fun _ _ => rfl)
    rw [hRk, if_pos h1]
  · have hWA := of_decide_eq_true h3
    have hlen : l = L (1 - s) w := by
      have := (p9 w h2).1
      rw [hWA] at this
      exact isW_len hl.1 this
    rw [h1, if_neg (by omega), e_M_does_51, show kc 63 = 4 from rfl, nF (by decide), t_fieldOf (by omega) hs', c1] at hRk
    simp -implicitDefEqProofs only [ob] at hRk
    rw [t_has (by omega) (by omega) (by omega)] at hRk
    simp -implicitDefEqProofs only [ob] at hRk
    rw [nB] at hRk
    by_cases hc : (F (1 - s)).testBit w = true
    · obtain ⟨P, hP, hPf⟩ := t_spies (z := z) (d := e') (by omega) hs c2 h2 c1 h4 (by omega : q < L (1 - s) w) hx12 hB.2.2.2.2.1.1 hB.2.2.2.2.1.2.1
      rw [hc, cond_true, nF (by decide), nTt, gI_ok (by omega) (by omega), gI_ok (by omega) (by omega), Int.toNat_natCast, hq1, hx1, hP, hWA, hx90] at hRk
      by_cases hok : μ (4 + 9 * s + 3) x ≠ 0 ∧ fst1 (fun v => decide (μ (4 + 9 * (1 - s) + 4) v = wset A q (x : Int))) (N (1 - s)) ≠ -1 ∧ (F (1 - s)).testBit (fst1 (fun v => decide (μ (4 + 9 * (1 - s) + 4) v = wset A q (x : Int))) (N (1 - s))).toNat = false
      · rcases fst1_sp (fun v => decide (μ (4 + 9 * (1 - s) + 4) v = wset A q (x : Int))) (N (1 - s)) with ⟨k1, _⟩ | ⟨v, k1, k2, k3, _⟩
        · exact absurd k1 hok.2.1
        · rw [if_pos hok, k1, Int.toNat_natCast] at hRk
          simp -implicitDefEqProofs only [ob] at hRk
          rw [e_M_does_116, g01_1] at hRk
          have hv' : (F (1 - s)).testBit v = false := by have := hok.2.2; rw [k1, Int.toNat_natCast] at this; exact this
          have h1' : 1 ≤ μ (4 + 9 * s + 3) x := by have := hok.1; omega
          rw [cT h1', e_W_changeBySpy_79 _ _ _ _ _ _ _ _ _ (o9 hs) (o9 hs'), s_find (by omega) (o9 hs') p1 p2] at hCk
          simp -implicitDefEqProofs only [ob] at hCk
          rw [s_changed (by omega) (by omega) (by omega) (by omega)] at hCk
          simp -implicitDefEqProofs only [ob] at hCk
          rw [s_find (by omega) (o9 hs') p1 p2] at hCk
          simp -implicitDefEqProofs only [ob] at hCk
          rw [h1, k1, s_replace (by omega) (o9 hs') p1 p2 p3 h4 h2 k2, hc, hv', if_pos (by decide)] at hCk
          simp -implicitDefEqProofs only [ob] at hCk
          have hadd := s_add (z := z) (d := e2) (o := 4 + 9 * (1 - s)) (b := 12) (l := nib A q - 1) (n := 1) (μ := zup (zup μ (4 + 9 * (1 - s)) 7 ((fclr (F (1 - s)) w ||| 2 ^ v : Nat) : Int)) (4 + 9 * s + 3) x (μ (4 + 9 * s + 3) x - 1)) (by omega) (o9 hs') (by omega) (by omega) (by rw [zup_ro (os_ne hs).1, zup_ro (os_ne hs).2.1]; exact p6) (by omega) (by omega)
          rw [show ((12 : Nat) : Int) = 12 from rfl, zup_ro (os_ne hs).1, zup_ro (os_ne hs).2.1] at hadd
          rw [nF (by decide), z0l (by omega), gI_ok (by omega) (by omega), gI_ok (by omega) (by omega), Int.toNat_natCast, zup_ro (by omega), zw_id (x := μ (4 + 9 * s + 3) x - 1) (by omega) (by omega), hadd] at hCk
          simp -implicitDefEqProofs only [ob] at hCk
          rw [g01_1] at hCk
          have hcc := cnt_clr h4 (by omega) hc
          have hvc : (fclr (F (1 - s)) w).testBit v = false := by rw [fclr_bit _ _ _ h4, hv']; rfl
          have hr1 : hr (rup (μ (4 + 9 * s + 3)) x (μ (4 + 9 * s + 3) x - 1)) := fun j => by
            by_cases ej : j = x
            · rw [ej, rup_same]; omega
            · rw [rup_ne ej]; exact a6 j
          have hr2 : hr (rup (ρ 90) (12 * s + x) (μ (4 + 9 * s + 3) x - 1)) := fun j => by
            by_cases ej : j = 12 * s + x
            · rw [ej, rup_same]; omega
            · rw [rup_ne ej]; exact hB.2.2.2.2.1.1 j
          have hB1 : BT (zrow μ (4 + 9 * s + 3) (rup (μ (4 + 9 * s + 3)) x (μ (4 + 9 * s + 3) x - 1))) (zrow ρ 90 (rup (ρ 90) (12 * s + x) (μ (4 + 9 * s + 3) x - 1))) N (fun t => if t = s then F s else F t) L wl := by
            refine bt_upd hB hs (fun a q1 q2 => zrow_ne q2) (fun k _ => by rw [zrow_ne (by omega)]) (by rw [zrow_ne (by omega)]; exact a3) a4 a5 (by rw [zrow_same]; exact hr1) (fun a q1 q2 q3 q4 q5 => zrow_ne q2) (fun k _ => by rw [zrow_ne (by omega)]) (by rw [zrow_ne (by omega)]; exact b1) ⟨by rw [zrow_same]; exact hr2, by rw [zrow_ne (by omega)]; exact hB.2.2.2.2.1.2.1, by rw [zrow_ne (by omega)]; exact hB.2.2.2.2.1.2.2⟩ ?_ ?_ ?_ (fun k hk => ⟨by rw [zrow_same, rup_ne (ix_ne hs hk hx12)], by rw [zrow_ne (by omega)], by rw [zrow_ne (by omega)]⟩)
            · rw [zrow_same, zrow_same]
              have := rup_pt (k := x) (v := μ (4 + 9 * s + 3) x - 1) (w := μ (4 + 9 * s + 3) x - 1) b3 rfl
              rw [Nat.zero_add] at this
              exact this
            · rw [zrow_ne (by omega), zrow_same]
              exact pt_out2 b4 (fun k hk => rup_ne (by omega))
            · rw [zrow_ne (by omega), zrow_same]
              exact pt_out2 b5 (fun k hk => rup_ne (by omega))
          have hro : ∀ a, a ≠ 4 + 9 * (1 - s) → a ≠ 4 + 9 * (1 - s) + 3 → zrow (zup (zup μ (4 + 9 * (1 - s)) 7 ((fclr (F (1 - s)) w ||| 2 ^ v : Nat) : Int)) (4 + 9 * s + 3) x (μ (4 + 9 * s + 3) x - 1)) (4 + 9 * (1 - s) + 3) (addN (μ (4 + 9 * (1 - s) + 3)) (12 + (nib A q - 1)) 1) a = zrow μ (4 + 9 * s + 3) (rup (μ (4 + 9 * s + 3)) x (μ (4 + 9 * s + 3) x - 1)) a := by
            intro a q1 q2
            rw [zrow_ne q2, zupr, zup_ro (by omega)]
            by_cases ea : a = 4 + 9 * s + 3
            · rw [ea, zrow_same, zrow_same]
            · rw [zrow_ne ea, zrow_ne ea, zup_ro q1]
          have hB2 := bt_upd (M := zrow (zup (zup μ (4 + 9 * (1 - s)) 7 ((fclr (F (1 - s)) w ||| 2 ^ v : Nat) : Int)) (4 + 9 * s + 3) x (μ (4 + 9 * s + 3) x - 1)) (4 + 9 * (1 - s) + 3) (addN (μ (4 + 9 * (1 - s) + 3)) (12 + (nib A q - 1)) 1)) (P := zup (zrow (zrow P 90 (rup (ρ 90) (12 * s + x) (μ (4 + 9 * s + 3) x - 1))) 91 (addN (ρ 91) (12 * (1 - s) + (nib A q - 1)) 1)) 86 (16 + (1 - s)) ((fclr (F (1 - s)) w ||| 2 ^ v : Nat) : Int)) (f' := fclr (F (1 - s)) w ||| 2 ^ v) hB1 hs' hro (fun k hk => by rw [zrow_ne (by omega), zup_ro (by omega), zup_nk hk, zrow_ne (by omega)]) (by rw [zrow_ne (by omega), zup_ro (by omega)]; exact zup_hit) (or_lt2 (fclr_lt2 p4 p2) k2) (by rw [cnt_or (by omega) hvc]; omega) (by rw [zrow_same]; exact hr_addN p6 (by omega)) (fun a q1 q2 q3 q4 q5 => by rw [zup_ro q1, zrow_ne q3, zrow_ne q2, zrow_ne q2]; exact hPf a q5) (fun k hk => by rw [zup_nk hk, zrow_ne (by omega), zrow_ne (by omega), zrow_ne (by omega), hPf 86 (by omega)]) zup_hit ⟨by rw [zup_ro (by omega), zrow_ne (by omega), zrow_same]; exact hr2, by rw [zup_ro (by omega), zrow_same]; exact hr_addN hB.2.2.2.2.1.2.1 (by omega), by rw [zup_ro (by omega), zrow_ne (by omega), zrow_ne (by omega), hPf 92 (by omega)]; exact hB.2.2.2.2.1.2.2⟩ (by
            rw [zup_ro (by omega), zrow_ne (by omega), zrow_same, zrow_same]
            exact pt_out2 (pt_out c3 (fun k hk => rup_ne (ix_ne hs hk hx12))) (fun k hk => addN_ne (by omega))) (by
            rw [zup_ro (by omega), zrow_same, zrow_same]
            exact addN_pt c4 (by omega)) (by
            rw [zup_ro (by omega), zrow_ne (by omega), zrow_ne (by omega), hPf 92 (by omega), zrow_same]
            exact pt_out2 c5 (fun k hk => addN_ne (by omega))) (fun k hk => ⟨by rw [zup_ro (by omega), zrow_ne (by omega), zrow_same, zrow_same], by rw [zup_ro (by omega), zrow_same, zrow_ne (by omega), addN_ne (by omega)], by rw [zup_ro (by omega), zrow_ne (by omega), zrow_ne (by omega), hPf 92 (by omega), zrow_ne (by omega)]⟩)
          refine ⟨true, _, _, _, hCk, hRk, hB2, CF_trans (CF_side hs (M := zrow μ (4 + 9 * s + 3) (rup (μ (4 + 9 * s + 3)) x (μ (4 + 9 * s + 3) x - 1))) (fun a q1 q2 => zrow_ne q2) (fun k _ => by rw [zrow_ne (by omega)])) (CF_side hs' hro (fun k hk => by rw [zrow_ne (by omega), zup_ro (by omega), zup_nk hk, zrow_ne (by omega)])), ⟨fun a q1 q2 q3 q4 q5 q6 q7 => by rw [zup_ro q1, zrow_ne q3, zrow_ne q2]; exact hPf a q7, fun k q1 q2 q3 => by rw [zup_nk (by omega), zrow_ne (by omega), zrow_ne (by omega), hPf 86 (by omega)]⟩⟩
      · rw [if_neg hok] at hRk
        simp -implicitDefEqProofs only [ob] at hRk
        rw [e_M_does_116, g01_0] at hRk
        refine stp_no hB (hno ?_) hRk hPf
        by_cases g1 : μ (4 + 9 * s + 3) x = 0
        · left; omega
        · rcases fst1_sp (fun v => decide (μ (4 + 9 * (1 - s) + 4) v = wset A q (x : Int))) (N (1 - s)) with ⟨k1, _⟩ | ⟨v, k1, k2, k3, _⟩
          · exact Or.inr (Or.inr (Or.inl k1))
          · right; right; right
            refine ⟨w, v, h1, h2, k1, k2, ?_⟩
            cases hv : (F (1 - s)).testBit v
            · exact absurd ⟨g1, by omega, by rw [k1, Int.toNat_natCast]; exact hv⟩ hok
            · simp
    · have hc' : (F (1 - s)).testBit w = false := by simpa using hc
      rw [hc', cond_false] at hRk
      refine stp_no hB (hno ?_) hRk (fun _ _ => rfl)
      rcases fst1_sp (fun v => decide (μ (4 + 9 * (1 - s) + 4) v = wset A q (x : Int))) (N (1 - s)) with ⟨k1, _⟩ | ⟨v, k1, k2, k3, _⟩
      · exact Or.inr (Or.inr (Or.inl k1))
      · exact Or.inr (Or.inr (Or.inr ⟨w, v, h1, h2, k1, k2, by rw [hc']; rfl⟩))
