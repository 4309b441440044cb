theorem turn_both {z : zZ} {d d' wl : Nat} {μ ρ : Mu} {N F : Nat → Nat} {L : Nat → Nat → Nat} (hd : 8 ≤ d) (hd' : 5 ≤ d') (hB : BT μ ρ N F L wl) (hT : TI μ ρ) : GO z d d' 97 255 [] [] μ ρ (fun M P => BT M P N F L wl ∧ TI M P) := by
  obtain ⟨e, rfl, he⟩ := pred_of (k := 7) hd
  obtain ⟨e', rfl, he'⟩ := pred_of (k := 4) hd'
  have side : ∀ s, s < 2 → ∀ (j l dn : Nat) (μ ρ : Mu), j + l = 12 → dn ≤ 12 * s + l → BT μ ρ N F L wl → ∃ (dn' : Nat) (M P : Mu), f_W_turn_11 z e (dn : Int) (s : Int) (l : Int) μ = f_W_turn_4 z e (dn' : Int) ((s + 1 : Nat) : Int) M ∧ f_M_turn_4 z e' (dn : Int) ((12 * s + l : Nat) : Int) ρ = f_M_turn_4 z e' (dn' : Int) ((12 * (s + 1) : Nat) : Int) P ∧ dn' ≤ 12 * (s + 1) ∧ BT M P N F L wl ∧ CF μ M ∧ RFm ρ P := by
    intro s hs j
    induction j with
    | zero =>
      intro l dn μ ρ hj hdn hB
      have : l = 12 := by omega
      subst this
      refine ⟨dn, μ, ρ, ?_, rfl, by omega, hB, CF_refl μ, RFm_refl ρ⟩
      rw [e_W_turn_11, cT (by omega), zwc (by omega)]
    | succ j ih =>
      intro l dn μ ρ hj hdn hB
      obtain ⟨dn1, M1, P1, a1, a2, a3, a4, a5, a6⟩ := turn_step (z := z) (e := e) (e' := e') he he' hs (show l < 12 by omega) hdn hB
      obtain ⟨dn2, M2, P2, b1, b2, b3, b4, b5, b6⟩ := ih (l + 1) dn1 M1 P1 (by omega) a3 a4
      exact ⟨dn2, M2, P2, by rw [a1, b1], by rw [a2, b2], b3, b4, CF_trans a5 b5, RFm_trans a6 b6⟩
  obtain ⟨dn1, M1, P1, a1, a2, a3, a4, a5, a6⟩ := side 0 (by omega) 12 0 0 μ ρ (by omega) (by omega) hB
  obtain ⟨dn2, M2, P2, b1, b2, b3, b4, b5, b6⟩ := side 1 (by omega) 12 0 dn1 M1 P1 (by omega) (by omega) a4
  have hC := CF_trans a5 b5
  have hR := RFm_trans a6 b6
  unfold GO
  have hc : mC z (e + 1) 97 [(2, 0)] μ = some ((dn2 : Int), zup M2 0 18 (zw (M2 0 18 + 1))) := by
    rw [c_W_turn, e_W_turn_4, cF (by omega)]
    rw [show ((0 : Nat) : Int) = 0 from rfl] at a1
    rw [a1, e_W_turn_4, cF (by omega)]
    rw [show ((0 : Nat) : Int) = 0 from rfl] at b1
    rw [b1, e_W_turn_4, cT (by omega)]
  have hr : mC z (e' + 1) 255 [(2, 86)] ρ = some ((dn2 : Int), zup P2 86 1 (zw (P2 86 1 + 1))) := by
    rw [c_M_turn]
    have a2' : f_M_turn_4 z e' 0 0 ρ = f_M_turn_4 z e' (dn1 : Int) ((12 * (0 + 1) : Nat) : Int) P1 := a2
    rw [a2']
    rw [show (12 * 1 + 0 : Nat) = 12 * (0 + 1) from rfl] at b2
    rw [b2, e_M_turn_4, cT (by omega)]
  refine ⟨_, _, _, hc, hr, ⟨?_, ?_⟩, ?_, ?_⟩
  · have hx : BT (zup M2 0 18 (zw (M2 0 18 + 1))) (zup P2 86 1 (zw (P2 86 1 + 1))) N F L wl := by
      obtain ⟨gC, gR, ⟨c1, c2, c3, c4⟩, ⟨c5, c6⟩, c7, hG⟩ := b4
      refine ⟨fun t ht => SDc_rows (fun j hj => zup_ro (by omega)) (gC t ht), fun t ht => SDr_rows ht (fun j hj => zup_ro (by omega)) (fun a q1 q2 => zup_ro (by omega)) (fun k _ _ => zup_nk (by omega)) (gR t ht), ⟨?_, ?_, ?_, ?_⟩, ⟨?_, fun k hk => ?_⟩, ?_, GL_rows (zup_nk (by omega)) (fun a q1 q2 => zup_ro (by omega)) (zup_nk (by omega)) (fun a q1 q2 => zup_ro (by omega)) hG⟩
      · rw [zup_hit, zup_hit, c1]
      · rw [zup_nk (by omega), zup_nk (by omega)]; exact c2
      · rw [zup_nk (by omega)]; exact c3
      · rw [zup_nk (by omega)]; exact c4
      · rw [zup_ro (by omega)]; exact c5
      · rw [zup_ro (by omega), zup_ro (by omega)]; exact c6 k hk
      · rw [zup_ro (by omega), zup_ro (by omega), zup_ro (by omega)]; exact c7
    exact hx
  · refine TI_rows ?_ ?_ ?_ ?_ hT
    · rw [zup_ro (by omega)]; exact hC.1 1 (by omega) (by omega) (by omega) (by omega) (by omega) (by omega) (by omega) (by omega) (by omega) (by omega)
    · rw [zup_ro (by omega)]; exact hC.1 2 (by omega) (by omega) (by omega) (by omega) (by omega) (by omega) (by omega) (by omega) (by omega) (by omega)
    · rw [zup_nk (by omega)]; exact hR.2 9 (by omega) (by omega) (by omega)
    · rw [zup_ro (by omega)]; exact hR.1 93 (by omega) (by omega) (by omega) (by omega) (by omega) (by omega) (by omega)
  · exact KF_trans (KF_CF hC) ⟨fun a q1 q2 => zup_ro (by omega), fun k _ _ => zup_nk (by omega), fun a q => zup_ro (by omega)⟩
  · exact KR_trans (KR_RF hR) ⟨fun a q => zup_ro (by omega), fun k _ => zup_nk (by omega), fun a q => zup_ro (by omega)⟩
