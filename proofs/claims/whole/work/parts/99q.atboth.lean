/-! words at once: both -/
theorem t_rests {z : zZ} {d A B w v : Nat} {gn : Nat → Nat → Int} {P : Mu} (hd : 1 ≤ d) (hw : w < 12) (hv : v < 12) (ha : A.testBit w = true) (hb : B.testBit v = true) (hG : LG A B gn P 144) : mC z d 269 [(2, 86), (0, ((12 * w + v : Nat) : Int))] P = some (bi (styB A B gn w v 12), P) := by
  obtain ⟨e, rfl, he⟩ := pred_of hd
  have hz := zd12 (12 * w + v) (by omega)
  rw [show (12 * w + v) / 12 = w by omega, show (12 * w + v) % 12 = v by omega] at hz
  have hat : ∀ a b, a < 12 → b < 12 → P 125 (12 * a + b) = bi (A.testBit a && B.testBit b) ∧ ((A.testBit a && B.testBit b) = true → P 124 (12 * a + b) = gn a b) := fun a b h1 h2 => by
    have := hG (12 * a + b) (by omega)
    rw [show (12 * a + b) / 12 = a by omega, show (12 * a + b) % 12 = b by omega] at this
    exact this
  have hg0 : P 124 (12 * w + v) = gn w v := (hat w v hw hv).2 (by rw [ha, hb]; rfl)
  have hfin : ∀ k, k ≤ 12 → styB A B gn w v k = false → some (0, P) = some (bi (styB A B gn w v 12), P) := fun k hk h => by
    have : styB A B gn w v 12 = false := allb_up hk h
    rw [this]
    rfl
  have H := down (n := 12) (P := fun k => styB A B gn w v k = true → f_M_rests_2 z e ((12 * w + v : Nat) : Int) (k : Int) P = some (bi (styB A B gn w v 12), P))
    (by
      intro h
      rw [e_M_rests_2, cT (by omega), h]
      rfl)
    (by
      intro k hk ih hst
      have hs : styB A B gn w v (k + 1) = (styB A B gn w v k && ((!A.testBit k || decide (gn k v ≤ gn w v)) && (!B.testBit k || decide (gn w v ≤ gn w k)))) := allb_s _ k
      rw [hst, Bool.true_and] at hs
      have h44 : (!A.testBit k || decide (gn k v ≤ gn w v)) = true → f_M_rests_44 z e ((12 * w + v : Nat) : Int) (k : Int) P = some (bi (styB A B gn w v 12), P) := fun h1 => by
        rw [h1, Bool.true_and] at hs
        have hk2 := hat w k hw hk
        rw [ha, Bool.true_and] at hk2
        rw [e_M_rests_44, hz.1, zw12 (by omega) (by omega), gI_ok (by omega) (by omega), Int.toNat_natCast, hk2.1, cB]
        by_cases hbk : B.testBit k = true
        · rw [hbk, cond_true, gI_ok (by omega) (by omega), gI_ok (by omega) (by omega), Int.toNat_natCast]
          rw [hbk] at hs
          have hx := hk2.2 hbk
          by_cases hc : gn w v ≤ gn w k
          · rw [cT (by rw [hg0, hx]; exact hc), e_M_rests_80, zwc (by omega)]
            exact ih (by rw [hs, decide_eq_true hc]; rfl)
          · rw [cF (by rw [hg0, hx]; exact hc)]
            exact hfin (k + 1) (by omega) (by rw [hs, decide_eq_false hc]; rfl)
        · have hbk' : B.testBit k = false := by simpa using hbk
          rw [hbk', cond_false, e_M_rests_80, zwc (by omega)]
          exact ih (by rw [hs, hbk']; rfl)
      have hk1 := hat k v hk hv
      rw [hb, Bool.and_true] at hk1
      rw [e_M_rests_2, cF (by omega), hz.2, zi12 (by omega) (by omega), gI_ok (by omega) (by omega), Int.toNat_natCast, hk1.1, cB]
      by_cases hak : A.testBit k = true
      · rw [hak, cond_true, gI_ok (by omega) (by omega), gI_ok (by omega) (by omega), Int.toNat_natCast]
        have hx := hk1.2 hak
        by_cases hc : gn k v ≤ gn w v
        · rw [cT (by rw [hx, hg0]; exact hc)]
          exact h44 (by rw [decide_eq_true hc, Bool.or_true])
        · rw [cF (by rw [hx, hg0]; exact hc)]
          exact hfin (k + 1) (by omega) (by rw [hs, hak, decide_eq_false hc]; rfl)
      · have hak' : A.testBit k = false := by simpa using hak
        rw [hak', cond_false]
        exact h44 (by rw [hak']; rfl)) 0 (by omega)
  have H0 := H rfl
  rw [c_M_rests]
  exact H0
theorem t_atloop {z : zZ} {e A B : Nat} {q : Int} {gn : Nat → Nat → Int} {tw : Nat → Bool} {P : Mu} (he : 1 ≤ e) (hq : q = 0 ∨ q = 1 ∨ q = 2) (hG : LG A B gn P 144) (htw : ∀ w v, w < 12 → v < 12 → tw (12 * w + v) = (A.testBit w && (B.testBit v && styB A B gn w v 12))) : f_M_atOnce_22 z e q 0 (-1) 0 P = some (atV q (atL tw 144), P) := by
  have H := down (n := 144) (P := fun i => f_M_atOnce_22 z e q (atL tw i).1 (atL tw i).2 (i : Int) P = some (atV q (atL tw 144), P))
    (by
      have hr := atL_rg tw 144
      rw [e_M_atOnce_22, cT (by omega)]
      unfold atV
      generalize atL tw 144 = p at *
      by_cases h0 : q = 0
      · rw [nT h0, if_pos h0, e_M_atOnce_108]
      · rw [nF h0, if_neg h0]
        by_cases hp : p.1 = 0
        · rw [nT (hr.2.2.1 hp), if_pos hp, e_M_atOnce_108]
        · have h4 := hr.2.2.2 hp
          obtain ⟨n, hn⟩ : ∃ n : Nat, p.2 = (n : Int) := ⟨p.2.toNat, by omega⟩
          have hz := zd12 n (by omega)
          rw [nF (by omega), if_neg hp]
          by_cases h1 : q = 1
          · rw [nT h1, if_pos h1, hn, hz.1, e_M_atOnce_108, show ((n / 12 : Nat) : Int) = (n : Int) / 12 by omega]
          · rw [nF h1, if_neg h1, hn, hz.2, e_M_atOnce_108, show ((n % 12 : Nat) : Int) = (n : Int) % 12 by omega])
    (by
      intro i hi ih
      have hr := atL_rg tw i
      have hn : atL tw (i + 1) = if tw i = true then ((atL tw i).1 + 1, if (atL tw i).1 = 0 then (i : Int) else (atL tw i).2) else atL tw i := rfl
      have ht := htw (i / 12) (i % 12) (by omega) (by omega)
      rw [show 12 * (i / 12) + i % 12 = i by omega] at ht
      have hgi := (hG i hi).1
      rw [hn] at ih
      rw [e_M_atOnce_22, cF (by omega), gI_ok (by omega) (by omega), Int.toNat_natCast, hgi, cB]
      by_cases hab : (A.testBit (i / 12) && B.testBit (i % 12)) = true
      · have hA1 := (Bool.and_eq_true _ _ ▸ hab : A.testBit (i / 12) = true ∧ B.testBit (i % 12) = true)
        have hrs := t_rests (z := z) (d := e) (w := i / 12) (v := i % 12) he (by omega) (by omega) hA1.1 hA1.2 hG
        rw [show 12 * (i / 12) + i % 12 = i by omega] at hrs
        rw [hA1.1, hA1.2, Bool.true_and, Bool.true_and] at ht
        rw [hab, cond_true, hrs]
        simp -implicitDefEqProofs only [ob]
        rw [nB, ← ht]
        by_cases hs : tw i = true
        · rw [if_pos hs] at ih
          rw [hs, cond_true, e_M_atOnce_52]
          by_cases h0 : (atL tw i).1 = 0
          · rw [if_pos h0] at ih
            rw [nT (hr.2.2.1 h0), e_M_atOnce_63, e_M_atOnce_68, zwc (by omega), zw_id (x := (atL tw i).1 + 1) (by omega) (by omega)]
            exact ih
          · rw [if_neg h0] at ih
            have := hr.2.2.2 h0
            rw [nF (by omega), e_M_atOnce_63, e_M_atOnce_68, zwc (by omega), zw_id (x := (atL tw i).1 + 1) (by omega) (by omega)]
            exact ih
        · have hs' : tw i = false := by simpa using hs
          rw [if_neg hs] at ih
          rw [hs', cond_false, e_M_atOnce_68, zwc (by omega)]
          exact ih
      · have hab' : (A.testBit (i / 12) && B.testBit (i % 12)) = false := by simpa using hab
        rw [← Bool.and_assoc, hab', Bool.false_and] at ht
        rw [ht, if_neg (by decide)] at ih
        rw [hab', cond_false, e_M_atOnce_68, zwc (by omega)]
        exact ih) 0 (by omega)
  exact H
theorem atOnce_both {z : zZ} {d d' wl : Nat} {q : Int} {μ ρ : Mu} {N F : Nat → Nat} {L : Nat → Nat → Nat} (hd : 12 ≤ d) (hd' : 8 ≤ d') (hB : BT μ ρ N F L wl) : QU z d d' 117 267 [(2, 0), (0, q)] [(2, 86), (0, q)] μ ρ := by
  obtain ⟨e, rfl, he⟩ := pred_of (k := 11) hd
  obtain ⟨e', rfl, he'⟩ := pred_of (k := 7) hd'
  unfold QU
  rw [c_W_atOnce, c_M_atOnce, t_in (by omega)]
  simp -implicitDefEqProofs only [ob]
  rw [nB]
  by_cases h2 : q < 0
  · rw [cT h2, decide_eq_false (show ¬ ((0 : Int) ≤ q ∧ q ≤ 2) by omega), cond_false, e_W_atOnce_9]
    exact ⟨_, _, _, rfl, rfl, QC_refl _, QR_refl _⟩
  · rw [cF h2]
    by_cases h3 : q ≤ 2
    · rw [cT h3, decide_eq_true (show (0 : Int) ≤ q ∧ q ≤ 2 by omega), cond_true]
      have hq3 : q = 0 ∨ q = 1 ∨ q = 2 := by omega
      obtain ⟨hC, hR, ⟨c1, c2, c3, c4⟩, ⟨c5, c6⟩, ⟨c7, _, _⟩, hw, c8, Nn, lt, Dv, Dc, l1, l2, l3, l4⟩ := hB
      obtain ⟨a1, a2, a3, a4, a5, a6, a7, a8, a9, _⟩ := hC 0 (by omega)
      obtain ⟨k1, k2, k3, k4, k5, k6, k7, k8, k9, _⟩ := hC 1 (by omega)
      obtain ⟨M1, m1, m2, m3⟩ := s_prep (z := z) (d := e) (s := 0) (by omega) (by omega) hw c8 l1 l3 l4 c5 a1 a2 a3 (f4096 a4 a2) (fun w hw => (a9 w hw).1)
      have hQ1 : QC μ M1 := QC_pcr (by omega) hw m2
      have m0 : M1 0 = μ 0 := QC_lo hQ1 (Or.inl (by omega))
      have m35 : M1 35 = μ 35 := QC_lo hQ1 (Or.inr rfl)
      obtain ⟨g1, g2, g3, g4, g5, g6, g7, g8, g9, _⟩ := SDc_q hQ1 (show 1 < 2 by omega) (hC 1 (by omega))
      have e4 : M1 (4 + 9 * 1 + 4) = μ (4 + 9 * 1 + 4) := QC_lo hQ1 (Or.inl (by omega))
      obtain ⟨M2, n1, n2, n3⟩ := s_prep (z := z) (d := e) (s := 1) (μ := M1) (by omega) (by omega) hw (by rw [m0]; exact c8) (lawC_q hw hQ1 l1) l3 l4 (by rw [m35]; exact c5) g1 g2 g3 (f4096 g4 g2) (fun w hw => (g9 w hw).1)
      rw [m0, m35, e4] at n3
      have hQ2 : QC μ M2 := QC_trans hQ1 (QC_pcr (by omega) hw n2)
      have hC0 : CHP M2 0 (N 0) (F 0) (vlw μ L Nn lt Dv Dc 0) (μ 8) := CHP_congr m3 (by rw [n2.1 _ (by omega) (by rcases hw with h | h <;> omega) (by rcases hw with h | h <;> omega) (by omega) (by omega) (by omega) (by omega) (by omega)]) (fun i h1 h2 => n2.1 _ (by omega) (by rcases hw with h | h <;> omega) (by rcases hw with h | h <;> omega) (by omega) (by omega) (by omega) (by omega) (by omega))
      have hC1 : CHP M2 1 (N 1) (F 1) (vlw μ L Nn lt Dv Dc 1) (μ 17) := n3
      have lo : ∀ a, a < 23 → M2 a = μ a := fun a h => QC_lo hQ2 (Or.inl h)
      have s1 := s_formable (z := z) (d := e) (o := 4) (n := N 0) (f := F 0) (μ := M2) (by omega) (Or.inl rfl) (by rw [lo 4 (by omega)]; exact a1) a2 (by rw [lo 4 (by omega)]; exact a3) (f4096 a4 a2)
      have s2 := s_formable (z := z) (d := e) (o := 13) (n := N 1) (f := F 1) (μ := M2) (by omega) (Or.inr rfl) (by rw [lo 13 (by omega)]; exact k1) k2 (by rw [lo 13 (by omega)]; exact k3) (f4096 k4 k2)
      rw [show (4 : Nat) + 4 = 8 from rfl, show (4 : Nat) + 3 = 7 from rfl, lo 8 (by omega), lo 7 (by omega)] at s1
      rw [show (13 : Nat) + 4 = 17 from rfl, show (13 : Nat) + 3 = 16 from rfl, lo 17 (by omega), lo 16 (by omega)] at s2
      have hAd : ∀ w, (bset (fun w => cfb (F 0) w (μ 8 w) (μ 7) 0) (N 0)).testBit w = (decide (w < N 0) && cfb (F 0) w (μ 8 w) (μ 7) 0) := fun w => bset_bit _ _ w
      have hBd : ∀ w, (bset (fun w => cfb (F 1) w (μ 17 w) (μ 16) 0) (N 1)).testBit w = (decide (w < N 1) && cfb (F 1) w (μ 17 w) (μ 16) 0) := fun w => bset_bit _ _ w
      have hA4 := f4096 (bset_lt (fun w => cfb (F 0) w (μ 8 w) (μ 7) 0) (N 0)) a2
      have hB4 := f4096 (bset_lt (fun w => cfb (F 1) w (μ 17 w) (μ 16) 0) (N 1)) k2
      generalize bset (fun w => cfb (F 0) w (μ 8 w) (μ 7) 0) (N 0) = A at s1 hAd hA4
      generalize bset (fun w => cfb (F 1) w (μ 17 w) (μ 16) 0) (N 1) = B at s2 hBd hB4
      have hcf : ∀ f w c h b, cfb f w c h b = true → f.testBit w = false := fun f w c h b hh => by
        unfold cfb at hh
        rw [Bool.and_eq_true] at hh
        simpa using hh.1
      have hg : ∀ dd w v h, 5 ≤ dd → w < 12 → v < 12 → A.testBit w = true → B.testBit v = true → mC z dd 120 [(2, 0), (0, (w : Int)), (0, (v : Int))] (zrow M2 54 h) = some (gnS (μ 8) (μ 17) (μ 6) (μ 15) (vlw μ L Nn lt Dv Dc 0) (vlw μ L Nn lt Dv Dc 1) w v, zrow M2 54 h) := by
        intro dd w v h hdd hw12 hv12 ha hb
        rw [hAd, Bool.and_eq_true] at ha
        rw [hBd, Bool.and_eq_true] at hb
        obtain ⟨O, o1, o2, o3, o4, o5⟩ := hC0
        obtain ⟨O', o1', o2', o3', o4', o5'⟩ := hC1
        have v0 := (o4 w (of_decide_eq_true ha.1) (hcf _ _ _ _ _ ha.2)).1
        have v1 := (o4' v (of_decide_eq_true hb.1) (hcf _ _ _ _ _ hb.2)).1
        exact s_gainOf hdd hw12 hv12 (by rw [zrow_ne (by omega), lo 8 (by omega)]) (by rw [zrow_ne (by omega), lo 17 (by omega)]) (by rw [zrow_ne (by omega), lo 6 (by omega)]) (by rw [zrow_ne (by omega), lo 15 (by omega)]) a8 k8 (by rw [zrow_ne (by omega)]; exact v0) (by rw [zrow_ne (by omega)]; exact v1) wrt_rg
      obtain ⟨R, r1, r2, r3⟩ := t_laysG (z := z) (e := e' - 1) (A := A) (B := B) (by omega) hC hR c1 c5 c6 l2 l3 l4 hAd hBd 144 0 ρ (by omega) (fun _ _ _ _ _ => rfl) (fun i h => by omega)
      generalize gnS (μ 8) (μ 17) (μ 6) (μ 15) (vlw μ L Nn lt Dv Dc 0) (vlw μ L Nn lt Dv Dc 1) = gn at hg r1 r3
      obtain ⟨h', f1, f2⟩ := s_fillG (z := z) (e := e - 1) (A := A) (B := B) (M := M2) (gn := gn) (by omega) hA4 hB4 (fun w v h q1 q2 q3 q4 => hg (e - 1) w v h (by omega) q1 q2 q3 q4) 156 0 0 (M2 54) (by omega) (by omega) (by omega) (fun a b _ _ hk => by omega)
      obtain ⟨tw, htw⟩ : ∃ tw : Nat → Bool, ∀ w v, w < 12 → v < 12 → tw (12 * w + v) = (A.testBit w && (B.testBit v && styB A B gn w v 12)) := ⟨fun i => (A.testBit (i / 12) && (B.testBit (i % 12) && styB A B gn (i / 12) (i % 12) 12)), fun w v h1 h2 => by
        dsimp only
        rw [show (12 * w + v) / 12 = w by omega, show (12 * w + v) % 12 = v by omega]⟩
      have y1 := s_atloop (z := z) (e := e) (q := q) (X := zrow M2 54 h') (by omega) hA4 hB4 hq3 (by rw [zrow_same]; exact f2) htw 156 0 0 (by omega) (by omega) (by omega)
      have y2 := t_atloop (z := z) (e := e') (q := q) (P := R) (by omega) hq3 r3 htw
      obtain ⟨e2, rfl, he2⟩ := pred_of (k := 10) he
      obtain ⟨e3, rfl, he3⟩ := pred_of (k := 6) he'
      have z00 : ((0 : Nat) : Int) = 0 := rfl
      have z01 : ((1 : Nat) : Int) = 1 := rfl
      rw [z00] at m1 f1 r1
      rw [z01] at n1
      rw [Nat.add_sub_cancel] at f1 r1
      rw [zrow_id] at f1
      have s1' : mC z (e2 + 1) 118 [(2, 4)] M2 = some ((A : Int), M2) := s1
      have s2' : mC z (e2 + 1) 118 [(2, 13)] M2 = some ((B : Int), M2) := s2
      have y1' : f_W_atOnce_61 z (e2 + 1) q (A : Int) (B : Int) 0 (-2) (-2) 0 (zrow M2 54 h') = some (atV q (atL tw 144), zrow M2 54 h') := by
        rw [e_W_atOnce_61, cF (by omega)]
        exact y1
      rw [m1]
      simp -implicitDefEqProofs only [ob]
      rw [n1]
      simp -implicitDefEqProofs only [ob]
      rw [s1']
      simp -implicitDefEqProofs only [ob]
      rw [s2']
      simp -implicitDefEqProofs only [ob]
      rw [c_W_fillGains, e_W_fillGains_2, cF (by omega), f1]
      simp -implicitDefEqProofs only [ob]
      rw [y1', c_M_laysGains, r1]
      simp -implicitDefEqProofs only [ob]
      rw [y2]
      refine ⟨_, _, _, rfl, rfl, QC_trans hQ2 ⟨fun a b1 b2 b3 b4 b5 b6 b7 => zrow_ne (by omega), fun k _ _ => ⟨by rw [zrow_ne (by omega)], by rw [zrow_ne (by omega)]⟩⟩, ⟨fun a b1 b2 b3 b4 => r2 a b2 b3 (by omega) (by omega), fun k _ => by rw [r2 86 (by omega) (by omega) (by omega) (by omega)]⟩⟩
    · rw [cF h3, decide_eq_false (show ¬ ((0 : Int) ≤ q ∧ q ≤ 2) by omega), cond_false, e_W_atOnce_9]
      exact ⟨_, _, _, rfl, rfl, QC_refl _, QR_refl _⟩
