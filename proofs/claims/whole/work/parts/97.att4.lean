/-! an attack in both, and any act -/
theorem ss_id {s : Nat} (hs : s < 2) : 1 - (1 - s) = s := by omega
theorem evl8 {N : Nat} {lt : Nat → Int} {Dv Dc : Nat → Row → Option Int} {tl : Row} {c : Int} : ∃ k : Nat, k ≤ 8 ∧ evl N lt Dv Dc tl c 8 N 0 = (k : Int) := by
  have h := evl_rg (N := N) (lt := lt) (Dv := Dv) (Dc := Dc) (tl := tl) (c := c) (hi := 8) (by omega) N 0
  exact ⟨(evl N lt Dv Dc tl c 8 N 0).toNat, by omega, by omega⟩
/-- one has lost: the class and the reference, from the asking on -/
theorem att_lost {z : zZ} {d e ls w v lw vw o4 o5 wl : Nat} {v6 : Int} {μ ρ : Mu} {N F : Nat → Nat} {L : Nat → Nat → Nat} (hd : 7 ≤ d) (he : 5 ≤ e) (hB : BT μ ρ N F L wl) (hs : ls < 2) (hw : lw < N ls) (hst : (F ls).testBit lw = true) (hv : vw < N (1 - ls)) (ho4 : o4 = 4 ∨ o4 = 13) (ho5 : o5 = 4 ∨ o5 = 13) (hcase : (v6 = 0 ∧ o4 = 4 + 9 * ls ∧ w = lw) ∨ (v6 = 1 ∧ o5 = 4 + 9 * ls ∧ v = lw)) : ∃ (R Q : Mu) (F' : Nat → Nat), f_W_attack_120 z d (w : Int) (v : Int) o4 o5 v6 (μ (4 + 9 * (1 - ls) + 4) vw) (μ (4 + 9 * ls + 4) lw) (ls : Int) μ = some (1, R) ∧ mC z (e + 1) 243 [(2, 86), (0, (ls : Int)), (0, (lw : Int)), (0, (vw : Int))] ρ = some (0, Q) ∧ BT R Q N F' L wl ∧ CF μ R ∧ RFm ρ Q := by
  have hs' : 1 - ls < 2 := by omega
  obtain ⟨a1, a2, a3, a4, a5, a6, a7, a8, a9, a10, a11, a12⟩ := hB.1 ls hs
  obtain ⟨b1, b2, b3, b4, b5, b6, b7⟩ := hB.2.1 ls hs
  obtain ⟨p1, p2, p3, p4, p5, p6, p7, p8, p9, p10, p11, p12⟩ := hB.1 (1 - ls) hs'
  obtain ⟨c1, c2, c3, c4, c5, c6, c7⟩ := hB.2.1 (1 - ls) hs'
  obtain ⟨⟨g1, g2, g3, g4⟩, ⟨g5, g6⟩, g7, gw, g8, Nn, lt, Dv, Dc, l1, l2, l3, l4⟩ := hB.2.2
  obtain ⟨M, m1, m2, m3, m4, m5⟩ := s_att (z := z) (d := d) (o4 := o4) (o5 := o5) (ls := ls) (v2 := (w : Int)) (v3 := (v : Int)) (v6 := v6) hd ho4 ho5 gw g8 l1 l3 l4 (a9 lw hw).1 (p9 vw hv).1 g5 g3 g4
  obtain ⟨fa, hfa, hfa2⟩ := evl8 (N := Nn) (lt := lt) (Dv := Dv) (Dc := Dc) (tl := tlR (μ 0 18) (ls : Int) (L ls lw : Int) (sm (strS (μ (4 + 9 * ls + 4) lw) (μ 35)) 8) (L (1 - ls) vw : Int) (sm (strS (μ (4 + 9 * (1 - ls) + 4) vw) (μ 35)) 8) (nxd (μ 0 19) % 10)) (c := 102)
  obtain ⟨ta, hta, hta2⟩ := evl8 (N := Nn) (lt := lt) (Dv := Dv) (Dc := Dc) (tl := tlR (μ 0 18) (ls : Int) (L ls lw : Int) (sm (strS (μ (4 + 9 * ls + 4) lw) (μ 35)) 8) (L (1 - ls) vw : Int) (sm (strS (μ (4 + 9 * (1 - ls) + 4) vw) (μ 35)) 8) (nxd (μ 0 19) % 10)) (c := 112)
  rw [hfa2, hta2] at m1
  rw [g1, g2] at hfa2 hta2
  obtain ⟨P, q1, q2, q3, q4⟩ := t_att (z := z) (e := e) (r := μ 35) he hs b2 c2 hw hv l2 l3 l4 g5 g6 (by rw [← g2]; exact g3) (by rw [← g2]; exact g4) fa ta hfa2 hta2
  obtain ⟨hB1, hC1, hR1⟩ := bt_ask hB m2 m3 m5 q2 q3 ⟨by rw [m4, q4, g2], by rw [m4]; exact (nxd_rg _).1, by rw [m4]; exact (nxd_rg _).2⟩
  obtain ⟨R, Q, F', r1, r2, r3, r4, r5⟩ := bt_lose (z := z) (d := d) (e := e) (fa := fa) (ta := ta) (by omega) (by omega) hB1 hs hw hst hfa hta
  refine ⟨R, Q, F', ?_, by rw [q1]; exact r2, r3, CF_trans hC1 r4, RFm_trans hR1 r5⟩
  rw [m1]
  rcases hcase with ⟨k1, k2, k3⟩ | ⟨k1, k2, k3⟩
  · rw [cT k1, k2, k3, r1]
    simp -implicitDefEqProofs only [ob]
    rw [e_W_attack_221]
  · rw [cF (by omega), k2, k3, r1]
    simp -implicitDefEqProofs only [ob]
    rw [e_W_attack_221]
theorem act_att {z : zZ} {d d' s i m wl : Nat} {A O : Int} {μ ρ : Mu} {N F : Nat → Nat} {L : Nat → Nat → Nat} (hd : 9 ≤ d) (hd' : 9 ≤ d') (hB : BT μ ρ N F L wl) (hs : s < 2) (hm : m ≤ 12) (h36 : μ 36 3 = (m : Int)) (hi : i < m) (hK : μ 37 i = 62) (hA : μ 38 i = A) (hO : μ 39 i = O) (hR : rA ρ i 62 A O) : STP z d d' s i μ ρ N L wl := by
  obtain ⟨e, rfl, he⟩ := pred_of (k := 8) hd
  obtain ⟨e', rfl, he'⟩ := pred_of (k := 8) hd'
  have hs' : 1 - s < 2 := by omega
  obtain ⟨a1, a2, a3, a4, a5, a6, a7, a8, a9, a10, a11, a12⟩ := hB.1 s hs
  obtain ⟨p1, p2, p3, p4, p5, p6, p7, p8, p9, p10, p11, p12⟩ := hB.1 (1 - s) hs'
  obtain ⟨b1, b2, b3, b4, b5, b6, b7⟩ := hB.2.1 s hs
  obtain ⟨c1, c2, c3, c4, c5, c6, c7⟩ := hB.2.1 (1 - s) hs'
  have h4 := f4096 a4 a2
  have h4' := f4096 p4 p2
  obtain ⟨_, _, hat⟩ := id hR
  obtain ⟨l2, hl1, hl2, hl3⟩ := hat rfl
  have hCk := s_doKind (z := z) (d := e) (by omega) hs hm h36 hi hK hA a1 a2
  rw [cF (by decide), cF (by decide), cT rfl, e_W_doAct_145 _ _ _ _ _ _ _ (o9 hs'), gI_ok (by omega) (by omega), Int.toNat_natCast, hO, s_find (by omega) (o9 hs') p1 p2] at hCk
  simp -implicitDefEqProofs only [ob] at hCk
  obtain ⟨e2, rfl, he2⟩ := pred_of (k := 7) he
  have hRk := t_doHead (z := z) (d := e') (by omega) hs (by omega) hR (Or.inr (Or.inr (Or.inr (Or.inl rfl)))) (N := N s) (W := μ (4 + 9 * s + 4)) (L := L s) (by rw [if_neg (by decide)]; exact b2)
  have hno : ¬ (∃ w v : Nat, fst1 (fun w => decide (μ (4 + 9 * s + 4) w = A)) (N s) = (w : Int) ∧ w < N s ∧ (F s).testBit w = true ∧ fst1 (fun w => decide (μ (4 + 9 * (1 - s) + 4) w = O)) (N (1 - s)) = (v : Int) ∧ v < N (1 - s) ∧ (F (1 - s)).testBit v = true) → mC z (e2 + 1 + 1) 70 [(2, 0), (0, (s : Int)), (0, (i : Int))] μ = some (0, μ) := by
    intro h
    rw [hCk, c_W_attack _ _ _ _ _ _ (by omega), Int.toNat_natCast, z1s hs, Int.toNat_natCast, s_stands (by omega) (o9 hs) a1 a2 a3 h4]
    simp -implicitDefEqProofs only [ob]
    rw [cB, e_W_attack_36]
    cases hb : (decide (0 ≤ fst1 (fun w => decide (μ (4 + 9 * s + 4) w = A)) (N s) ∧ fst1 (fun w => decide (μ (4 + 9 * s + 4) w = A)) (N s) < (N s : Int)) && (F s).testBit (fst1 (fun w => decide (μ (4 + 9 * s + 4) w = A)) (N s)).toNat)
    · rw [cond_false]
      simp -implicitDefEqProofs only [ob]
      rw [g01_0]
    · rw [cond_true, s_stands (by omega) (o9 hs') p1 p2 p3 h4']
      simp -implicitDefEqProofs only [ob]
      rw [nB, e_W_attack_36]
      cases hb2 : (decide (0 ≤ fst1 (fun w => decide (μ (4 + 9 * (1 - s) + 4) w = O)) (N (1 - s)) ∧ fst1 (fun w => decide (μ (4 + 9 * (1 - s) + 4) w = O)) (N (1 - s)) < (N (1 - s) : Int)) && (F (1 - s)).testBit (fst1 (fun w => decide (μ (4 + 9 * (1 - s) + 4) w = O)) (N (1 - s))).toNat)
      · rw [cond_false]
        simp -implicitDefEqProofs only [ob]
        rw [g01_0]
      · exfalso
        rw [Bool.and_eq_true] at hb hb2
        rcases fst1_sp (fun w => decide (μ (4 + 9 * s + 4) w = A)) (N s) with ⟨h1, _⟩ | ⟨w, h1, h2, h3, _⟩
        · rw [h1] at hb
          exact absurd (of_decide_eq_true hb.1).1 (by decide)
        · rcases fst1_sp (fun w => decide (μ (4 + 9 * (1 - s) + 4) w = O)) (N (1 - s)) with ⟨k1, _⟩ | ⟨v, k1, k2, k3, _⟩
          · rw [k1] at hb2
            exact absurd (of_decide_eq_true hb2.1).1 (by decide)
          · rw [h1, Int.toNat_natCast] at hb
            rw [k1, Int.toNat_natCast] at hb2
            exact h ⟨w, v, h1, h2, hb.2, k1, k2, hb2.2⟩
  rcases fst1_sp (fun w => decide (μ (4 + 9 * s + 4) w = A)) (N s) with ⟨h1, _⟩ | ⟨w, h1, h2, h3, _⟩
  · refine stp_no hB (hno (fun h => by obtain ⟨w, v, q1, _⟩ := h; omega)) ?_ (fun _ _ => rfl)
    rw [hRk, if_pos h1]
  · rw [h1, if_neg (by omega), e_M_does_51, show kc 62 = 3 from rfl, if_neg (by decide), nF (by decide), t_fieldOf (by omega) hs, b1] at hRk
    simp -implicitDefEqProofs only [ob] at hRk
    rw [t_has (by omega) (by omega) (by omega)] at hRk
    simp -implicitDefEqProofs only [ob] at hRk
    rw [nB] at hRk
    by_cases hc : (F s).testBit w = true
    · have hwi := t_wordIn (z := z) (d := e') (by omega) hs' c2 ia114 (by have := hl3.1.2.1; omega) (by omega) hl3
      rw [show ((114 : Nat) : Int) = 114 from rfl] at hwi
      rw [hc, cond_true, nF (by decide), nF (by decide), nF (by decide), e_M_does_154, gI_ok (by omega) (by omega), Int.toNat_natCast, z1s hs, z8 (by omega), hl2, hwi] at hRk
      simp -implicitDefEqProofs only [ob] at hRk
      rw [e_M_does_198] at hRk
      rcases fst1_sp (fun w => decide (μ (4 + 9 * (1 - s) + 4) w = O)) (N (1 - s)) with ⟨k1, _⟩ | ⟨v, k1, k2, k3, _⟩
      · refine stp_no hB (hno (fun h => by obtain ⟨w, v, _, _, _, q1, _⟩ := h; omega)) ?_ (fun _ _ => rfl)
        rw [hRk, cT k1]
      · rw [cF (by omega), t_fieldOf (by omega) hs', c1] at hRk
        simp -implicitDefEqProofs only [ob] at hRk
        rw [k1, t_has (by omega) (by omega) (by omega)] at hRk
        simp -implicitDefEqProofs only [ob] at hRk
        rw [nB] at hRk
        by_cases hv : (F (1 - s)).testBit v = true
        · have hib := t_isBeating (z := z) (d := e') (s := s) (r := μ (4 + 9 * (1 - s) + 2)) (by omega) hs b2 c2 h2 k2 p8 (fun k hk => by have := c7 k hk; rw [Nat.zero_add] at this; exact this)
          rw [hv, cond_true, e_M_does_200, hib] at hRk
          simp -implicitDefEqProofs only [ob] at hRk
          rw [cB] at hRk
          have r1 : (0 : Int) ≤ (w : Int) ∧ (w : Int) < (N s : Int) := by omega
          have r2 : (0 : Int) ≤ (v : Int) ∧ (v : Int) < (N (1 - s) : Int) := by omega
          rw [h1, k1, c_W_attack _ _ _ _ _ _ (by omega), Int.toNat_natCast, z1s hs, Int.toNat_natCast, s_stands (by omega) (o9 hs) a1 a2 a3 h4, decide_eq_true r1, Int.toNat_natCast, hc] at hCk
          simp -implicitDefEqProofs only [ob] at hCk
          rw [Bool.and_self, bi_t, cF (by decide), s_stands (by omega) (o9 hs') p1 p2 p3 h4', decide_eq_true r2, Int.toNat_natCast, hv] at hCk
          simp -implicitDefEqProofs only [ob] at hCk
          rw [Bool.and_self, bi_t, nF (by decide), e_W_attack_38 _ _ _ _ _ _ _ _ (o9 hs) (o9 hs'), gI_ok (by omega) (by omega), gI_ok (by omega) (by omega), Int.toNat_natCast, Int.toNat_natCast, s_isAhead (by omega) (o9 hs') p8] at hCk
          simp -implicitDefEqProofs only [ob] at hCk
          rw [gI_ok (by omega) (by omega), gI_ok (by omega) (by omega), cB] at hCk
          obtain ⟨e'', rfl, he''⟩ := pred_of (k := 7) he'
          cases hah : ahd (μ (4 + 9 * s + 4) w) (μ (4 + 9 * (1 - s) + 4) v) (μ (4 + 9 * (1 - s) + 2))
          · rw [hah, cond_false, bi_f, e_W_attack_81 _ _ _ _ _ _ _ _ _ _ (o9 hs) (o9 hs'), cT rfl, gI_ok (by omega) (by omega), Int.toNat_natCast, e_W_attack_105 _ _ _ _ _ _ _ _ _ _ _ (o9 hs) (o9 hs'), cT rfl] at hCk
            rw [hah, cond_false] at hRk
            obtain ⟨R, Q, F', t1, t2, t3, t4, t5⟩ := att_lost (z := z) (d := e2) (e := e'') (w := w) (v := v) (lw := w) (vw := v) (o4 := 4 + 9 * s) (o5 := 4 + 9 * (1 - s)) (v6 := 0) (by omega) (by omega) hB hs h2 hc k2 (o9 hs) (o9 hs') (Or.inl ⟨rfl, rfl, rfl⟩)
            rw [t1] at hCk
            simp -implicitDefEqProofs only [ob] at hCk
            rw [g01_1] at hCk
            rw [t2] at hRk
            simp -implicitDefEqProofs only [ob] at hRk
            rw [e_M_does_235] at hRk
            exact ⟨true, R, Q, F', hCk, hRk, t3, t4, t5⟩
          · rw [hah, cond_true, bi_t, e_W_attack_81 _ _ _ _ _ _ _ _ _ _ (o9 hs) (o9 hs'), cF (by decide), gI_ok (by omega) (by omega), Int.toNat_natCast, e_W_attack_105 _ _ _ _ _ _ _ _ _ _ _ (o9 hs) (o9 hs'), cF (by decide), z1s hs] at hCk
            rw [hah, cond_true, z1s hs] at hRk
            have es := ss_id hs
            have hA := att_lost (z := z) (d := e2) (e := e'') (ls := 1 - s) (w := w) (v := v) (lw := v) (vw := w) (o4 := 4 + 9 * s) (o5 := 4 + 9 * (1 - s)) (v6 := 1) (by omega) (by omega) hB hs' k2 hv (by rw [es]; exact h2) (o9 hs) (o9 hs') (Or.inr ⟨rfl, rfl, rfl⟩)
            rw [es] at hA
            obtain ⟨R, Q, F', t1, t2, t3, t4, t5⟩ := hA
            rw [t1] at hCk
            simp -implicitDefEqProofs only [ob] at hCk
            rw [g01_1] at hCk
            rw [t2] at hRk
            simp -implicitDefEqProofs only [ob] at hRk
            rw [e_M_does_235] at hRk
            exact ⟨true, R, Q, F', hCk, hRk, t3, t4, t5⟩
        · have hv' : (F (1 - s)).testBit v = false := by simpa using hv
          rw [hv', cond_false, e_M_does_198] at hRk
          refine stp_no hB (hno (fun h => by
            obtain ⟨w', v', _, _, _, q1, _, q2⟩ := h
            have : v' = v := by omega
            rw [this, hv'] at q2
            exact absurd q2 (by decide))) hRk (fun _ _ => rfl)
    · have hc' : (F s).testBit w = false := by simpa using hc
      rw [hc', cond_false] at hRk
      refine stp_no hB (hno (fun h => by
        obtain ⟨w', v', q1, _, q2, _⟩ := h
        have : w' = w := by omega
        rw [this, hc'] at q2
        exact absurd q2 (by decide))) hRk (fun _ _ => rfl)
def isKd (K : Int) : Prop := K = 43 ∨ K = 45 ∨ K = 126 ∨ K = 63 ∨ K = 62
/-- any act -/
theorem act_step {z : zZ} {d d' s i m wl : Nat} {K A O : Int} {μ ρ : Mu} {N F : Nat → Nat} {L : Nat → Nat → Nat} (hd : 9 ≤ d) (hd' : 9 ≤ d') (hB : BT μ ρ N F L wl) (hs : s < 2) (hm : m ≤ 12) (h36 : μ 36 3 = (m : Int)) (hi : i < m) (hK : μ 37 i = K) (hA : μ 38 i = A) (hO : μ 39 i = O) (hR : rA ρ i K A O) (hk : isKd K) : STP z d d' s i μ ρ N L wl := by
  rcases hk with h | h | h | h | h
  · subst h; exact act_form (by omega) (by omega) hB hs hm h36 hi hK hA hR
  · subst h; exact act_diss (by omega) (by omega) hB hs hm h36 hi hK hA hR
  · subst h; exact act_turn (by omega) (by omega) hB hs hm h36 hi hK hA hR
  · subst h; exact act_spy (by omega) (by omega) hB hs hm h36 hi hK hA hO hR
  · subst h; exact act_att hd hd' hB hs hm h36 hi hK hA hO hR
