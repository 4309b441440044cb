/-! an attack in both -/
theorem nxd_rg (x : Int) : 0 ≤ nxd x ∧ nxd x ≤ 65535 := by
  unfold nxd
  omega
theorem bt_ask {μ ρ M P : Mu} {N F : Nat → Nat} {L : Nat → Nat → Nat} {wl : Nat} (hB : BT μ ρ N F L wl) (m1 : ∀ a, a ≠ 0 → a ≠ 53 → a ≠ wl → a ≠ wl + 5 → M a = μ a) (m2 : ∀ k, k ≠ 19 → M 0 k = μ 0 k) (m3 : ∀ k, k ≠ 7 → k ≠ 8 → M wl k = μ wl k) (p1 : ∀ a, a ≠ 86 → a ≠ 109 → a ≠ 110 → P a = ρ a) (p2 : ∀ k, k ≠ 0 → P 86 k = ρ 86 k) (hd : M 0 19 = P 86 0 ∧ 0 ≤ M 0 19 ∧ M 0 19 ≤ 65535) : BT M P N F L wl ∧ CF μ M ∧ RFm ρ P := by
  obtain ⟨hC, hR, ⟨c1, c2, c3, c4⟩, ⟨c5, c6⟩, c7, hw, c8, Nn, lt, Dv, Dc, l1, l2, l3⟩ := hB
  have wi : ∀ i, 1 ≤ i → i ≤ 4 → wl + i ≠ 0 ∧ wl + i ≠ 53 ∧ wl + i ≠ wl ∧ wl + i ≠ wl + 5 := by intro i hi hi4; rcases hw with h | h <;> omega
  have w35 : 35 ≠ wl ∧ 35 ≠ wl + 5 := by rcases hw with h | h <;> omega
  have mo : ∀ t i, t < 2 → i ≤ 4 → M (4 + 9 * t + i) = μ (4 + 9 * t + i) := fun t i ht hi => m1 _ (by omega) (by omega) (by rcases hw with h | h <;> omega) (by rcases hw with h | h <;> omega)
  refine ⟨⟨fun t ht => ?_, fun t ht => ?_, ?_⟩, ?_, ?_⟩
  · have r0 : M (4 + 9 * t) = μ (4 + 9 * t) := mo t 0 ht (by omega)
    unfold SDc
    rw [r0, mo t 1 ht (by omega), mo t 2 ht (by omega), mo t 3 ht (by omega), mo t 4 ht (by omega)]
    exact hC t ht
  · obtain ⟨b1, b2, b3, b4, b5, b6, b7⟩ := hR t ht
    unfold SDr
    rw [mo t 1 ht (by omega), mo t 2 ht (by omega), mo t 3 ht (by omega), mo t 4 ht (by omega), p1 90 (by omega) (by omega) (by omega), p1 91 (by omega) (by omega) (by omega), p1 92 (by omega) (by omega) (by omega), p1 88 (by omega) (by omega) (by omega), p1 89 (by omega) (by omega) (by omega), p2 (16 + t) (by omega)]
    refine ⟨b1, ⟨by rw [p2 _ (by omega)]; exact b2.1, b2.2.1, fun w hw2 => ?_⟩, b3, b4, b5, b6, b7⟩
    obtain ⟨k1, k2, k3⟩ := b2.2.2 w hw2
    exact ⟨k1, by rw [p1 95 (by omega) (by omega) (by omega)]; exact k2, rwd_congr k3 (fun k _ => by rw [p1 94 (by omega) (by omega) (by omega)])⟩
  · refine ⟨⟨by rw [m2 18 (by omega), p2 1 (by omega)]; exact c1, hd.1, hd.2.1, hd.2.2⟩, ⟨by rw [m1 35 (by omega) (by omega) w35.1 w35.2]; exact c5, fun k hk => by rw [m1 35 (by omega) (by omega) w35.1 w35.2, p1 87 (by omega) (by omega) (by omega)]; exact c6 k hk⟩, by rw [p1 90 (by omega) (by omega) (by omega), p1 91 (by omega) (by omega) (by omega), p1 92 (by omega) (by omega) (by omega)]; exact c7, hw, by rw [m2 6 (by omega)]; exact c8, Nn, lt, Dv, Dc, lawC_congr l1 (m3 3 (by omega) (by omega)) (m3 5 (by omega) (by omega)) ?_ ?_ ?_ ?_, lawR_congr l2 (p2 27 (by omega)) ?_ ?_ ?_ ?_ ?_, l3⟩
    · exact m1 _ (wi 1 (by omega) (by omega)).1 (wi 1 (by omega) (by omega)).2.1 (wi 1 (by omega) (by omega)).2.2.1 (wi 1 (by omega) (by omega)).2.2.2
    · exact m1 _ (wi 2 (by omega) (by omega)).1 (wi 2 (by omega) (by omega)).2.1 (wi 2 (by omega) (by omega)).2.2.1 (wi 2 (by omega) (by omega)).2.2.2
    · exact m1 _ (wi 3 (by omega) (by omega)).1 (wi 3 (by omega) (by omega)).2.1 (wi 3 (by omega) (by omega)).2.2.1 (wi 3 (by omega) (by omega)).2.2.2
    · exact m1 _ (wi 4 (by omega) (by omega)).1 (wi 4 (by omega) (by omega)).2.1 (wi 4 (by omega) (by omega)).2.2.1 (wi 4 (by omega) (by omega)).2.2.2
    all_goals exact p1 _ (by omega) (by omega) (by omega)
  · rcases hw with h | h
    · subst h
      exact ⟨fun a q1 q2 q3 q4 q5 q6 q7 q8 q9 q10 => m1 a q1 q6 q7 q8, m2, fun k _ => ⟨by rw [m1 4 (by omega) (by omega) (by omega) (by omega)], by rw [m1 13 (by omega) (by omega) (by omega) (by omega)]⟩, fun k q1 q2 => ⟨m3 k q1 q2, by rw [m1 47 (by omega) (by omega) (by omega) (by omega)]⟩⟩
    · subst h
      exact ⟨fun a q1 q2 q3 q4 q5 q6 q7 q8 q9 q10 => m1 a q1 q6 q9 q10, m2, fun k _ => ⟨by rw [m1 4 (by omega) (by omega) (by omega) (by omega)], by rw [m1 13 (by omega) (by omega) (by omega) (by omega)]⟩, fun k q1 q2 => ⟨by rw [m1 41 (by omega) (by omega) (by omega) (by omega)], m3 k q1 q2⟩⟩
  · exact ⟨fun a q1 q2 q3 q4 q5 q6 q7 => p1 a q1 q5 q6, fun k q1 _ _ => p2 k q1⟩
/-- a word has lost, in both -/
theorem bt_lose {z : zZ} {d e s w fa ta wl : Nat} {μ ρ : Mu} {N F : Nat → Nat} {L : Nat → Nat → Nat} (hd : 5 ≤ d) (he : 4 ≤ e) (hB : BT μ ρ N F L wl) (hs : s < 2) (hw : w < N s) (hst : (F s).testBit w = true) (hfa : fa ≤ 8) (hta : ta ≤ 8) : ∃ (R Q : Mu) (F' : Nat → Nat), mC z d 93 [(2, ((4 + 9 * s : Nat) : Int)), (0, (w : Int)), (0, (fa : Int)), (0, (ta : Int))] μ = some (0, R) ∧ f_M_loses_114 z e (s : Int) (w : Int) (L s w : Int) ((8 * (12 * s + w) : Nat) : Int) ((L s w - fa - (L s w - fa - ta) : Nat) : Int) ((L s w - fa - ta : Nat) : Int) ((L s w - fa : Nat) : Int) ρ = some (0, Q) ∧ BT R Q N F' L wl ∧ CF μ R ∧ RFm ρ Q := by
  obtain ⟨a1, a2, a3, a4, a5, a6, a7, a8, a9, a10, a11, a12⟩ := hB.1 s hs
  obtain ⟨b1, b2, b3, b4, b5, b6, b7⟩ := hB.2.1 s hs
  obtain ⟨h90, h91, h92⟩ := hB.2.2.2.2.1
  have h4 := f4096 a4 a2
  obtain ⟨hW, hL1⟩ := a9 w hw
  have n8 := hW.2.1
  have hlx : lexR (zrow ρ 91 (loB (ρ 91) (12 * s) (μ (4 + 9 * s + 4) w) (L s w - fa) (L s w - (L s w - fa)))) s (N s) (μ (4 + 9 * s + 4)) (L s) := lexR_congr b2 (zrow_ne (by omega)) (zrow_ne (by omega)) (zrow_ne (by omega))
  rw [t_loss1 (ta := ta) (by omega) hs b2 hw h91, t_loss2 (by omega) hs hlx hw (by rw [zrow_ne (by omega)]; exact h92), zrow_ne (by omega)]
  by_cases hz : fa + ta < 1
  · have f0 : fa = 0 := by omega
    have t0 : ta = 0 := by omega
    subst f0
    subst t0
    refine ⟨μ, ρ, F, s_lose0 (n := 0) hd (o9 hs) a1 a2 a3 h4 hw hst (by omega), ?_, hB, CF_refl μ, RFm_refl ρ⟩
    rw [if_pos (by omega), show L s w - (L s w - 0) = 0 by omega, show L s w - 0 - (L s w - 0 - 0) = 0 by omega]
    have e1 : zrow ρ 91 (loB (ρ 91) (12 * s) (μ (4 + 9 * s + 4) w) (L s w - 0) 0) = ρ := zrow_id
    rw [e1]
    have e2 : zrow ρ 92 (loB (ρ 92) (12 * s) (μ (4 + 9 * s + 4) w) (L s w - 0 - 0) 0) = ρ := zrow_id
    rw [e2]
  · rw [if_neg (by omega)]
    generalize hQ : zrow (zrow ρ 91 (loB (ρ 91) (12 * s) (μ (4 + 9 * s + 4) w) (L s w - fa) (L s w - (L s w - fa)))) 92 (loB (ρ 92) (12 * s) (μ (4 + 9 * s + 4) w) (L s w - fa - ta) (L s w - fa - (L s w - fa - ta))) = Q0
    have q91 : Q0 91 = loB (ρ 91) (12 * s) (μ (4 + 9 * s + 4) w) (L s w - fa) (L s w - (L s w - fa)) := by subst hQ; rw [zrow_ne (by omega), zrow_same]
    have q92 : Q0 92 = loB (ρ 92) (12 * s) (μ (4 + 9 * s + 4) w) (L s w - fa - ta) (L s w - fa - (L s w - fa - ta)) := by subst hQ; rw [zrow_same]
    have qr : ∀ a, a ≠ 91 → a ≠ 92 → Q0 a = ρ a := fun a q1 q2 => by subst hQ; rw [zrow_ne q2, zrow_ne q1]
    clear hQ
    have hlq : lexR Q0 s (N s) (μ (4 + 9 * s + 4)) (L s) := lexR_congr b2 (qr _ (by omega) (by omega)) (qr _ (by omega) (by omega)) (qr _ (by omega) (by omega))
    have ht3 := t_loss3 (z := z) (e := e) (i := L s w - fa - ta) (by omega) hs hlq hw (by rw [qr 86 (by omega) (by omega)]; exact b1) h4 (by omega) (by rw [qr 90 (by omega) (by omega)]; exact h90)
    rw [ht3]
    have p90 : pt (Q0 90) (12 * s) (lsB (μ (4 + 9 * s + 3)) (μ (4 + 9 * s + 4) w) (L s w - fa) (L s w - fa - ta) (L s w - (L s w - fa - ta))) 0 := by
      rw [qr 90 (by omega) (by omega)]
      exact pt_out2 b3 (fun k hk => lsB_res hW (by omega) _ (by omega))
    have p91 : pt (Q0 91) (12 * s) (lsB (μ (4 + 9 * s + 3)) (μ (4 + 9 * s + 4) w) (L s w - fa) (L s w - fa - ta) (L s w - (L s w - fa - ta))) 12 := by
      have h1 := loB_pt (i := L s w - fa) hW b4 (L s w - (L s w - fa)) (by omega)
      have h2 := lsB_gra (h := μ (4 + 9 * s + 3)) (i := L s w - fa - ta) (ff := L s w - fa) hW (by omega) (L s w - (L s w - fa - ta)) (by omega)
      rw [show L s w - fa - ta + (L s w - (L s w - fa - ta)) - (L s w - fa) = L s w - (L s w - fa) by omega] at h2
      rw [q91]
      exact fun k hk => by rw [h1 k hk, h2 k hk]
    have p92 : pt (Q0 92) (12 * s) (lsB (μ (4 + 9 * s + 3)) (μ (4 + 9 * s + 4) w) (L s w - fa) (L s w - fa - ta) (L s w - (L s w - fa - ta))) 24 := by
      have h1 := loB_pt (i := L s w - fa - ta) hW b5 (L s w - fa - (L s w - fa - ta)) (by omega)
      have h2 := lsB_pri (h := μ (4 + 9 * s + 3)) (i := L s w - fa - ta) (ff := L s w - fa) hW (by omega) (L s w - (L s w - fa - ta)) (by omega)
      have e1 : (if L s w - fa - ta + (L s w - (L s w - fa - ta)) ≤ L s w - fa then L s w - (L s w - fa - ta) else L s w - fa - (L s w - fa - ta)) = L s w - fa - (L s w - fa - ta) := by split <;> omega
      rw [e1] at h2
      rw [q92]
      exact fun k hk => by rw [h1 k hk, h2 k hk]
    have hrq : hr (Q0 90) ∧ hr (Q0 91) ∧ hr (Q0 92) := ⟨by rw [qr 90 (by omega) (by omega)]; exact h90, by rw [q91]; exact hr_loB h91 _, by rw [q92]; exact hr_loB h92 _⟩
    have hoth : ∀ k, k < 12 → Q0 90 (12 * (1 - s) + k) = ρ 90 (12 * (1 - s) + k) ∧ Q0 91 (12 * (1 - s) + k) = ρ 91 (12 * (1 - s) + k) ∧ Q0 92 (12 * (1 - s) + k) = ρ 92 (12 * (1 - s) + k) := fun k hk => ⟨by rw [qr 90 (by omega) (by omega)], by rw [q91]; exact loB_out hW (by omega) _ (by omega), by rw [q92]; exact loB_out hW (by omega) _ (by omega)⟩
    have hcc := cnt_clr h4 (by omega) hst
    have e0 : 4 + 9 * s + 3 ≠ 4 + 9 * s := by omega
    by_cases hX : fst1 (fun v => decide (μ (4 + 9 * s + 4) v = wfirst (μ (4 + 9 * s + 4) w) (L s w - fa - ta))) (N s) ≠ -1 ∧ (fclr (F s) w).testBit (fst1 (fun v => decide (μ (4 + 9 * s + 4) v = wfirst (μ (4 + 9 * s + 4) w) (L s w - fa - ta))) (N s)).toNat = false
    · rw [if_pos hX]
      have hcl := s_lose (z := z) hd (o9 hs) a1 a2 a3 h4 hw hst hW a6 hfa hta hz (Or.inl ⟨hX.1, hX.2, rfl⟩)
      rcases fst1_sp (fun v => decide (μ (4 + 9 * s + 4) v = wfirst (μ (4 + 9 * s + 4) w) (L s w - fa - ta))) (N s) with ⟨k1, _⟩ | ⟨v, k1, k2, k3, _⟩
      · exact absurd k1 hX.1
      · rw [k1, Int.toNat_natCast] at hcl hX ⊢
        refine ⟨_, _, _, hcl, rfl, bt_upd hB hs (f' := fclr (F s) w ||| 2 ^ v) (fun a q1 q2 => by rw [zup_ro q1, zrow_ne q2]) (fun k q => by rw [zup_nk q, zrow_ne (by omega)]) zup_hit (or_lt2 (fclr_lt2 a4 a2) k2) (by rw [cnt_or (by omega) hX.2]; omega) (by rw [zup_ro e0, zrow_same]; exact hr_lsB a6 _) (fun a q1 q2 q3 q4 q5 => by rw [zup_ro q1]; exact qr a q3 q4) (fun k q => by rw [zup_nk q, qr 86 (by omega) (by omega)]) zup_hit (by rw [zup_ro (by omega), zup_ro (by omega), zup_ro (by omega)]; exact hrq) (by rw [zup_ro (by omega), zup_ro e0, zrow_same]; exact p90) (by rw [zup_ro (by omega), zup_ro e0, zrow_same]; exact p91) (by rw [zup_ro (by omega), zup_ro e0, zrow_same]; exact p92) (fun k hk => by rw [zup_ro (by omega), zup_ro (by omega), zup_ro (by omega)]; exact hoth k hk), CF_side hs (fun a q1 q2 => by rw [zup_ro q1, zrow_ne q2]) (fun k q => by rw [zup_nk q, zrow_ne (by omega)]), RFm_side hs (fun a q1 q2 q3 q4 q5 => by rw [zup_ro q1]; exact qr a q3 q4) (fun k q => by rw [zup_nk q, qr 86 (by omega) (by omega)])⟩
    · rw [if_neg hX]
      have hcl := s_lose (z := z) hd (o9 hs) a1 a2 a3 h4 hw hst hW a6 hfa hta hz (Or.inr ⟨hX, rfl⟩)
      have hwf := isW_wfirst hW (show L s w - fa - ta ≤ L s w by omega)
      rw [homeB_ext hwf] at hcl
      have hlr := hr_lsB (c := μ (4 + 9 * s + 4) w) (ff := L s w - fa) (i := L s w - fa - ta) a6 (L s w - (L s w - fa - ta))
      refine ⟨_, _, _, hcl, rfl, bt_upd hB hs (f' := fclr (F s) w) (fun a q1 q2 => by rw [zrow_ne q2, zup_ro q1]) (fun k q => by rw [zrow_ne (by omega), zup_nk q]) (by rw [zrow_ne (by omega)]; exact zup_hit) (fclr_lt2 a4 a2) (by omega) (by rw [zrow_same]; exact hr_homeB hlr _) (fun a q1 q2 q3 q4 q5 => by rw [zrow_ne q2, zup_ro q1]; exact qr a q3 q4) (fun k q => by rw [zrow_ne (by omega), zup_nk q, qr 86 (by omega) (by omega)]) (by rw [zrow_ne (by omega)]; exact zup_hit) ⟨by rw [zrow_same]; exact hr_homeB hrq.1 _, by rw [zrow_ne (by omega), zup_ro (by omega)]; exact hrq.2.1, by rw [zrow_ne (by omega), zup_ro (by omega)]; exact hrq.2.2⟩ (by rw [zrow_same, zrow_same]; exact homeB_pt p90 _) (by rw [zrow_ne (by omega), zup_ro (by omega), zrow_same]; exact pt_out2 p91 (fun k hk => homeB_out (by omega) _)) (by rw [zrow_ne (by omega), zup_ro (by omega), zrow_same]; exact pt_out2 p92 (fun k hk => homeB_out (by omega) _)) (fun k hk => ⟨by rw [zrow_same, homeB_out (by omega)]; exact (hoth k hk).1, by rw [zrow_ne (by omega), zup_ro (by omega)]; exact (hoth k hk).2.1, by rw [zrow_ne (by omega), zup_ro (by omega)]; exact (hoth k hk).2.2⟩), CF_side hs (fun a q1 q2 => by rw [zrow_ne q2, zup_ro q1]) (fun k q => by rw [zrow_ne (by omega), zup_nk q]), RFm_side hs (fun a q1 q2 q3 q4 q5 => by rw [zrow_ne q2, zup_ro q1]; exact qr a q3 q4) (fun k q => by rw [zrow_ne (by omega), zup_nk q, qr 86 (by omega) (by omega)])⟩
