/-! acts in both: forming, dissolving, turning, spies -/
def STP (z : zZ) (d d' s i : Nat) (μ ρ : Mu) (N : Nat → Nat) (L : Nat → Nat → Nat) (wl : Nat) : Prop := ∃ (r : Bool) (M P : Mu) (F' : Nat → Nat), mC z d 70 [(2, 0), (0, (s : Int)), (0, (i : Int))] μ = some (bi r, M) ∧ mC z d' 233 [(2, 86), (0, (s : Int)), (0, (i : Int))] ρ = some (bi r, P) ∧ BT M P N F' L wl ∧ CF μ M ∧ RFm ρ P
theorem stp_no {z : zZ} {d d' s i wl : Nat} {μ ρ P : Mu} {N F : Nat → Nat} {L : Nat → Nat → Nat} (hB : BT μ ρ N F L wl) (h1 : mC z d 70 [(2, 0), (0, (s : Int)), (0, (i : Int))] μ = some (0, μ)) (h2 : mC z d' 233 [(2, 86), (0, (s : Int)), (0, (i : Int))] ρ = some (0, P)) (hP : ∀ a, a ≠ 118 → P a = ρ a) : STP z d d' s i μ ρ N L wl := ⟨false, μ, P, F, h1, h2, bt_same hB hP, CF_refl μ, ⟨fun a _ _ _ _ _ _ q => hP a q, fun k _ _ _ => by rw [hP 86 (by omega)]⟩⟩
theorem act_form {z : zZ} {d d' s i m wl : Nat} {A O : Int} {μ ρ : Mu} {N F : Nat → Nat} {L : Nat → Nat → Nat} (hd : 5 ≤ d) (hd' : 5 ≤ d') (hB : BT μ ρ N F L wl) (hs : s < 2) (hm : m ≤ 12) (h36 : μ 36 3 = (m : Int)) (hi : i < m) (hK : μ 37 i = 43) (hA : μ 38 i = A) (hR : rA ρ i 43 A O) : STP z d d' s i μ ρ N L wl := by
  obtain ⟨e, rfl, he⟩ := pred_of (k := 4) hd
  obtain ⟨e', rfl, he'⟩ := pred_of (k := 4) hd'
  obtain ⟨a1, a2, a3, a4, a5, a6, a7, a8, a9, a10, a11, a12⟩ := hB.1 s hs
  obtain ⟨b1, b2, b3, b4, b5, b6, b7⟩ := hB.2.1 s hs
  have h4 := f4096 a4 a2
  have hCk := s_doKind (z := z) (d := e) (by omega) hs hm h36 hi hK hA a1 a2
  rw [cT rfl] at hCk
  have hRk := t_doHead (z := z) (d := e') (by omega) hs (by omega) hR (Or.inl rfl) (N := N s) (W := μ (4 + 9 * s + 4)) (L := L s) (by rw [if_neg (by decide)]; exact b2)
  rcases fst1_sp (fun w => decide (μ (4 + 9 * s + 4) w = A)) (N s) with ⟨h1, _⟩ | ⟨w, h1, h2, h3, _⟩
  · rw [h1] at hCk hRk
    refine stp_no hB ?_ ?_ (fun _ _ => rfl)
    · rw [hCk, e_W_doAct_108 _ _ _ _ _ (o9 hs), s_form_no he (o9 hs) a1 a2 (by omega)]
      simp -implicitDefEqProofs only [ob]
      rw [g01_0]
    · rw [hRk, if_pos rfl]
  · have hWA := of_decide_eq_true h3
    rw [h1] at hCk hRk
    rw [if_neg (by omega), e_M_does_51, show kc 43 = 0 from rfl, nT rfl, t_forms (by omega) hs b2 h2 b1 h4 hB.2.2.2.2.1.1] at hRk
    rw [e_W_doAct_108 _ _ _ _ _ (o9 hs), s_form he (o9 hs) a1 a2 a3 h4 h2 a6] at hCk
    rw [cfb_pt b3] at hRk
    by_cases hc : cfb (F s) w (μ (4 + 9 * s + 4) w) (μ (4 + 9 * s + 3)) 0 = true
    · rw [if_pos hc] at hCk hRk
      simp -implicitDefEqProofs only [ob] at hCk hRk
      rw [e_M_does_62] at hRk
      rw [g01_1] at hCk hRk
      have hc' := hc
      unfold cfb at hc'
      rw [Bool.and_eq_true, Bool.and_eq_true] at hc'
      obtain ⟨c1, c2, c3⟩ := hc'
      have c1' : (F s).testBit w = false := by simpa using c1
      have c2' := of_decide_eq_true c2
      have hcr : allb (pf (μ (4 + 9 * s + 4) w) (ρ 90) (12 * s)) 8 = true := by rw [allb_congr (fun k _ => pf_pt b3 k)]; exact c3
      have e0 : 4 + 9 * s + 3 ≠ 4 + 9 * s := by omega
      refine ⟨true, _, _, _, hCk, hRk, bt_upd hB hs (f' := F s ||| 2 ^ w) (fun a q1 q2 => by rw [zup_ro q1, zrow_ne q2]) (fun k q => by rw [zup_nk q, zrow_ne (by omega)]) zup_hit (or_lt2 a4 h2) (by rw [cnt_or (by omega) c1']; omega) (by rw [zup_ro e0, zrow_same]; exact hr_takeB a6 c3) (fun a q1 q2 q3 q4 q5 => by rw [zup_ro q1, zrow_ne q2]) (fun k q => by rw [zup_nk q, zrow_ne (by omega)]) zup_hit ⟨by rw [zup_ro (by omega), zrow_same]; exact hr_takeB hB.2.2.2.2.1.1 hcr, by rw [zup_ro (by omega), zrow_ne (by omega)]; exact hB.2.2.2.2.1.2.1, by rw [zup_ro (by omega), zrow_ne (by omega)]; exact hB.2.2.2.2.1.2.2⟩ (by rw [zup_ro (by omega), zrow_same, zup_ro e0, zrow_same]; exact takeB_pt b3 8) ?_ ?_ (fun k hk => ⟨by rw [zup_ro (by omega), zrow_same, takeB_out (by omega)], by rw [zup_ro (by omega), zrow_ne (by omega)], by rw [zup_ro (by omega), zrow_ne (by omega)]⟩), CF_side hs (fun a q1 q2 => by rw [zup_ro q1, zrow_ne q2]) (fun k q => by rw [zup_nk q, zrow_ne (by omega)]), RFm_side hs (fun a q1 q2 q3 q4 q5 => by rw [zup_ro q1, zrow_ne q2]) (fun k q => by rw [zup_nk q, zrow_ne (by omega)])⟩
      · rw [zup_ro (by omega), zrow_ne (by omega), zup_ro e0, zrow_same]
        exact pt_out2 b4 (fun k hk => takeB_out (by omega) 8)
      · rw [zup_ro (by omega), zrow_ne (by omega), zup_ro e0, zrow_same]
        exact pt_out2 b5 (fun k hk => takeB_out (by omega) 8)
    · rw [if_neg hc] at hCk hRk
      simp -implicitDefEqProofs only [ob] at hCk hRk
      rw [e_M_does_62] at hRk
      rw [g01_0] at hCk hRk
      exact stp_no hB hCk hRk (fun _ _ => rfl)
theorem act_diss {z : zZ} {d d' s i m wl : Nat} {A O : Int} {μ ρ : Mu} {N F : Nat → Nat} {L : Nat → Nat → Nat} (hd : 5 ≤ d) (hd' : 5 ≤ d') (hB : BT μ ρ N F L wl) (hs : s < 2) (hm : m ≤ 12) (h36 : μ 36 3 = (m : Int)) (hi : i < m) (hK : μ 37 i = 45) (hA : μ 38 i = A) (hR : rA ρ i 45 A O) : STP z d d' s i μ ρ N L wl := by
  obtain ⟨e, rfl, he⟩ := pred_of (k := 4) hd
  obtain ⟨e', rfl, he'⟩ := pred_of (k := 4) hd'
  obtain ⟨a1, a2, a3, a4, a5, a6, a7, a8, a9, a10, a11, a12⟩ := hB.1 s hs
  obtain ⟨b1, b2, b3, b4, b5, b6, b7⟩ := hB.2.1 s hs
  have h4 := f4096 a4 a2
  have hCk := s_doKind (z := z) (d := e) (by omega) hs hm h36 hi hK hA a1 a2
  rw [cF (by decide), cT rfl] at hCk
  have hRk := t_doHead (z := z) (d := e') (by omega) hs (by omega) hR (Or.inr (Or.inl rfl)) (N := N s) (W := μ (4 + 9 * s + 4)) (L := L s) (by rw [if_neg (by decide)]; exact b2)
  rcases fst1_sp (fun w => decide (μ (4 + 9 * s + 4) w = A)) (N s) with ⟨h1, _⟩ | ⟨w, h1, h2, h3, _⟩
  · rw [h1] at hCk hRk
    refine stp_no hB ?_ ?_ (fun _ _ => rfl)
    · rw [hCk, e_W_doAct_115 _ _ _ _ _ (o9 hs), s_dissolve_no he (o9 hs) a1 a2 a3 h4 (by omega)]
      simp -implicitDefEqProofs only [ob]
      rw [g01_0]
    · rw [hRk, if_pos rfl]
  · rw [h1] at hCk hRk
    rw [if_neg (by omega), e_M_does_51, show kc 45 = 1 from rfl, if_neg (by decide), nF (by decide), t_fieldOf (by omega) hs, b1] at hRk
    simp -implicitDefEqProofs only [ob] at hRk
    rw [t_has (by omega) (by omega) (by omega)] at hRk
    simp -implicitDefEqProofs only [ob] at hRk
    rw [nB] at hRk
    rw [e_W_doAct_115 _ _ _ _ _ (o9 hs), s_dissolve he (o9 hs) a1 a2 a3 h4 h2 a6] at hCk
    by_cases hc : (F s).testBit w = true
    · obtain ⟨x1, x2, x3⟩ := b2.2.2 w h2
      have hx' := a9 w h2
      have hts := t_stands0 (z := z) (d := e') (s := s) (w := w) (by omega) hs (by omega) b1 h4
      rw [if_pos hc] at hCk
      rw [hc, cond_true, nF (by decide), nF (by decide), nTt, hts] at hRk
      simp -implicitDefEqProofs only [ob] at hCk hRk
      rw [g01_1] at hCk
      rw [t_beginOf (by omega) hs (by omega)] at hRk
      simp -implicitDefEqProofs only [ob] at hRk
      have x2' : zup ρ 86 (16 + s) ((fclr (F s) w : Nat) : Int) 95 (12 * s + w) = (L s w : Int) := by rw [zup_ro (by omega)]; exact x2
      have x3' : rwd (zup ρ 86 (16 + s) ((fclr (F s) w : Nat) : Int)) 94 (8 * (12 * s + w)) (L s w) (μ (4 + 9 * s + 4) w) := rwd_congr x3 (fun k _ => by rw [zup_ro (by omega)])
      have hg := t_goesHome (z := z) (d := e') (s := s) (by omega) hs ia94 (by omega) (by have := x3.1.2.1; omega) (by omega) x3' (by rw [zup_ro (by omega)]; exact hB.2.2.2.2.1.1)
      rw [show ((94 : Nat) : Int) = 94 from rfl, zup_ro (by omega)] at hg
      rw [t_longOf (by omega) hs (by omega), x2'] at hRk
      simp -implicitDefEqProofs only [ob] at hRk
      rw [hg] at hRk
      simp -implicitDefEqProofs only [ob] at hRk
      have e0 : 4 + 9 * s ≠ 4 + 9 * s + 3 := by omega
      have hh : homeB (ρ 90) (12 * s) (μ (4 + 9 * s + 4) w) (L s w) = homeB (ρ 90) (12 * s) (μ (4 + 9 * s + 4) w) 8 := (homeB_ext hx'.1).symm
      rw [hh] at hRk
      refine ⟨true, _, _, _, hCk, hRk, bt_upd hB hs (f' := fclr (F s) w) (fun a q1 q2 => by rw [zrow_ne q2, zup_ro q1]) (fun k q => by rw [zrow_ne e0, zup_nk q]) (by rw [zrow_ne e0]; exact zup_hit) (fclr_lt2 a4 a2) (by have := cnt_clr h4 (by omega) hc; omega) (by rw [zrow_same]; exact hr_homeB a6 8) (fun a q1 q2 q3 q4 q5 => by rw [zrow_ne q2, zup_ro q1]) (fun k q => by rw [zrow_ne (by omega), zup_nk q]) (by rw [zrow_ne (by omega)]; exact zup_hit) ⟨by rw [zrow_same]; exact hr_homeB hB.2.2.2.2.1.1 8, by rw [zrow_ne (by omega), zup_ro (by omega)]; exact hB.2.2.2.2.1.2.1, by rw [zrow_ne (by omega), zup_ro (by omega)]; exact hB.2.2.2.2.1.2.2⟩ (by rw [zrow_same, zrow_same]; exact homeB_pt b3 8) ?_ ?_ (fun k hk => ⟨by rw [zrow_same, homeB_out (by omega)], by rw [zrow_ne (by omega), zup_ro (by omega)], by rw [zrow_ne (by omega), zup_ro (by omega)]⟩), CF_side hs (fun a q1 q2 => by rw [zrow_ne q2, zup_ro q1]) (fun k q => by rw [zrow_ne e0, zup_nk q]), RFm_side hs (fun a q1 q2 q3 q4 q5 => by rw [zrow_ne q2, zup_ro q1]) (fun k q => by rw [zrow_ne (by omega), zup_nk q])⟩
      · rw [zrow_ne (by omega), zup_ro (by omega), zrow_same]
        exact pt_out2 b4 (fun k hk => homeB_out (by omega) 8)
      · rw [zrow_ne (by omega), zup_ro (by omega), zrow_same]
        exact pt_out2 b5 (fun k hk => homeB_out (by omega) 8)
    · have hc' : (F s).testBit w = false := by simpa using hc
      rw [if_neg hc] at hCk
      rw [hc', cond_false] at hRk
      simp -implicitDefEqProofs only [ob] at hCk
      rw [g01_0] at hCk
      exact stp_no hB hCk hRk (fun _ _ => rfl)
