/-! an attack: who is lost, the reference -/
theorem rwd_wfirst {ρ : Mu} {a i n k : Nat} {c : Int} (h : rwd ρ a i n c) (hk : k ≤ n) : rwd ρ a i k (wfirst c k) := by
  have h8 := h.1.2.1
  refine ⟨isW_wfirst h.1 hk, fun j hj => ?_⟩
  rw [h.2 j (by omega), nib_wfirst (by omega), if_pos hj]
def lossR (ρ : Mu) (s : Nat) (c : Int) (n fa ta : Nat) : Mu := zrow (zrow ρ 91 (loB (ρ 91) (12 * s) c (n - fa) (n - (n - fa)))) 92 (loB (ρ 92) (12 * s) c (n - fa - ta) (n - fa - (n - fa - ta)))
theorem t_loss1 {z : zZ} {e s w N fa ta : Nat} {W : Row} {L : Nat → Nat} {ρ : Mu} {v8 v9 : Int} (he : 3 ≤ e) (hs : s < 2) (hx : lexR ρ s N W L) (hw : w < N) (h91 : hr (ρ 91)) : f_M_loses_114 z e (s : Int) (w : Int) (L w : Int) ((8 * (12 * s + w) : Nat) : Int) v8 v9 ((L w - fa : Nat) : Int) ρ = f_M_loses_154 z e (s : Int) (w : Int) (L w : Int) ((8 * (12 * s + w) : Nat) : Int) v8 v9 v9 (zrow ρ 91 (loB (ρ 91) (12 * s) (W w) (L w - fa) (L w - (L w - fa)))) := by
  obtain ⟨x1, x2, x3⟩ := hx.2.2 w hw
  have n8 := x3.1.2.1
  have h12 := hx.2.1
  have H := down (n := L w - (L w - fa)) (P := fun k => f_M_loses_114 z e (s : Int) (w : Int) (L w : Int) ((8 * (12 * s + w) : Nat) : Int) v8 v9 ((L w - fa + k : Nat) : Int) (zrow ρ 91 (loB (ρ 91) (12 * s) (W w) (L w - fa) k)) = f_M_loses_154 z e (s : Int) (w : Int) (L w : Int) ((8 * (12 * s + w) : Nat) : Int) v8 v9 v9 (zrow ρ 91 (loB (ρ 91) (12 * s) (W w) (L w - fa) (L w - (L w - fa)))))
    (by rw [e_M_loses_114, cT (by omega)])
    (by
      intro k hk ih
      have hnb := x3.1.2.2.1 (L w - fa + k) (by omega)
      have hval : ρ 94 (8 * (12 * s + w) + (L w - fa + k)) = ((nib (W w) (L w - fa + k) - 1 : Nat) : Int) := by rw [x3.2 _ (by omega), nibi hnb.1]
      have had := t_adds (z := z) (d := e) (a := 91) (i := 12 * s + (nib (W w) (L w - fa + k) - 1)) (n := 1) (μ := zrow ρ 91 (loB (ρ 91) (12 * s) (W w) (L w - fa) k)) (by omega) ia91 (by omega) (by rw [zrow_same]; exact hr_loB h91 k) (by omega) (by omega)
      rw [show ((91 : Nat) : Int) = 91 from rfl, zrow_same, zrow_zrow] at had
      rw [e_M_loses_114, cF (by omega), zwa (by omega), gI_ok (by omega) (by omega), Int.toNat_natCast, zrow_ne (by omega), hval, zi12 (by omega) (by omega), had]
      simp -implicitDefEqProofs only [ob]
      rw [zwc (by omega)]
      exact ih) 0 (by omega)
  have h0 : zrow ρ 91 (loB (ρ 91) (12 * s) (W w) (L w - fa) 0) = ρ := zrow_id
  rw [h0, Nat.add_zero] at H
  exact H
theorem t_loss2 {z : zZ} {e s w N fa ta : Nat} {W : Row} {L : Nat → Nat} {ρ : Mu} (he : 3 ≤ e) (hs : s < 2) (hx : lexR ρ s N W L) (hw : w < N) (h92 : hr (ρ 92)) : f_M_loses_154 z e (s : Int) (w : Int) (L w : Int) ((8 * (12 * s + w) : Nat) : Int) ((L w - fa - (L w - fa - ta) : Nat) : Int) ((L w - fa - ta : Nat) : Int) ((L w - fa - ta : Nat) : Int) ρ = if L w - fa - ta = L w then some (0, zrow ρ 92 (loB (ρ 92) (12 * s) (W w) (L w - fa - ta) (L w - fa - (L w - fa - ta)))) else f_M_loses_201 z e (s : Int) (w : Int) ((8 * (12 * s + w) : Nat) : Int) ((L w - fa - ta : Nat) : Int) (zrow ρ 92 (loB (ρ 92) (12 * s) (W w) (L w - fa - ta) (L w - fa - (L w - fa - ta)))) := by
  obtain ⟨x1, x2, x3⟩ := hx.2.2 w hw
  have n8 := x3.1.2.1
  have h12 := hx.2.1
  have hz : zw (((L w - fa - ta : Nat) : Int) + ((L w - fa - (L w - fa - ta) : Nat) : Int)) = ((L w - fa : Nat) : Int) := by rw [zw_id (by omega) (by omega)]; omega
  have H := down (n := L w - fa - (L w - fa - ta)) (P := fun k => f_M_loses_154 z e (s : Int) (w : Int) (L w : Int) ((8 * (12 * s + w) : Nat) : Int) ((L w - fa - (L w - fa - ta) : Nat) : Int) ((L w - fa - ta : Nat) : Int) ((L w - fa - ta + k : Nat) : Int) (zrow ρ 92 (loB (ρ 92) (12 * s) (W w) (L w - fa - ta) k)) = if L w - fa - ta = L w then some (0, zrow ρ 92 (loB (ρ 92) (12 * s) (W w) (L w - fa - ta) (L w - fa - (L w - fa - ta)))) else f_M_loses_201 z e (s : Int) (w : Int) ((8 * (12 * s + w) : Nat) : Int) ((L w - fa - ta : Nat) : Int) (zrow ρ 92 (loB (ρ 92) (12 * s) (W w) (L w - fa - ta) (L w - fa - (L w - fa - ta)))))
    (by
      rw [e_M_loses_154, hz, cT (by omega)]
      by_cases h : L w - fa - ta = L w
      · rw [nT (by omega), if_pos h]
      · rw [nF (by omega), if_neg h])
    (by
      intro k hk ih
      have hnb := x3.1.2.2.1 (L w - fa - ta + k) (by omega)
      have hval : ρ 94 (8 * (12 * s + w) + (L w - fa - ta + k)) = ((nib (W w) (L w - fa - ta + k) - 1 : Nat) : Int) := by rw [x3.2 _ (by omega), nibi hnb.1]
      have had := t_adds (z := z) (d := e) (a := 92) (i := 12 * s + (nib (W w) (L w - fa - ta + k) - 1)) (n := 1) (μ := zrow ρ 92 (loB (ρ 92) (12 * s) (W w) (L w - fa - ta) k)) (by omega) ia92 (by omega) (by rw [zrow_same]; exact hr_loB h92 k) (by omega) (by omega)
      rw [show ((92 : Nat) : Int) = 92 from rfl, zrow_same, zrow_zrow] at had
      rw [e_M_loses_154, hz, cF (by omega), zwa (by omega), gI_ok (by omega) (by omega), Int.toNat_natCast, zrow_ne (by omega), hval, zi12 (by omega) (by omega), had]
      simp -implicitDefEqProofs only [ob]
      rw [zwc (by omega)]
      exact ih) 0 (by omega)
  have h0 : zrow ρ 92 (loB (ρ 92) (12 * s) (W w) (L w - fa - ta) 0) = ρ := zrow_id
  rw [h0, Nat.add_zero] at H
  exact H
/-- what is left of a word stands on, or goes home -/
theorem t_loss3 {z : zZ} {e s w N f i : Nat} {W : Row} {L : Nat → Nat} {ρ : Mu} (he : 4 ≤ e) (hs : s < 2) (hx : lexR ρ s N W L) (hw : w < N) (hf : ρ 86 (16 + s) = (f : Int)) (h4 : f < 4096) (hi : i ≤ L w) (h90 : hr (ρ 90)) : f_M_loses_201 z e (s : Int) (w : Int) ((8 * (12 * s + w) : Nat) : Int) (i : Int) ρ = if fst1 (fun v => decide (W v = wfirst (W w) i)) N ≠ -1 ∧ (fclr f w).testBit (fst1 (fun v => decide (W v = wfirst (W w) i)) N).toNat = false then some (0, zup ρ 86 (16 + s) ((fclr f w ||| 2 ^ (fst1 (fun v => decide (W v = wfirst (W w) i)) N).toNat : Nat) : Int)) else some (0, zrow (zup ρ 86 (16 + s) ((fclr f w : Nat) : Int)) 90 (homeB (ρ 90) (12 * s) (wfirst (W w) i) i)) := by
  obtain ⟨x1, x2, x3⟩ := hx.2.2 w hw
  have n8 := x3.1.2.1
  have h12 := hx.2.1
  have hlx : lexR (zup ρ 86 (16 + s) ((fclr f w : Nat) : Int)) s N W L := by
    refine ⟨by rw [zup_nk (by omega)]; exact hx.1, h12, fun u hu => ?_⟩
    obtain ⟨k1, k2, k3⟩ := hx.2.2 u hu
    exact ⟨k1, by rw [zup_ro (by omega)]; exact k2, rwd_congr k3 (fun k _ => by rw [zup_ro (by omega)])⟩
  have hrw : rwd (zup ρ 86 (16 + s) ((fclr f w : Nat) : Int)) 94 (8 * (12 * s + w)) i (wfirst (W w) i) := rwd_congr (rwd_wfirst x3 hi) (fun k _ => by rw [zup_ro (by omega)])
  have hg := t_goesHome (z := z) (d := e) (s := s) (by omega) hs ia94 (by omega) (by omega) (by omega) hrw (by rw [zup_ro (by omega)]; exact h90)
  rw [show ((94 : Nat) : Int) = 94 from rfl, zup_ro (by omega)] at hg
  have h262 : f_M_loses_262 z e (s : Int) ((8 * (12 * s + w) : Nat) : Int) (i : Int) (zup ρ 86 (16 + s) ((fclr f w : Nat) : Int)) = some (0, zrow (zup ρ 86 (16 + s) ((fclr f w : Nat) : Int)) 90 (homeB (ρ 90) (12 * s) (wfirst (W w) i) i)) := by
    rw [e_M_loses_262, hg]
    simp -implicitDefEqProofs only [ob]
    rw [e_M_loses_275]
  have h230 : f_M_loses_230 z e (s : Int) ((8 * (12 * s + w) : Nat) : Int) (i : Int) (fst1 (fun v => decide (W v = wfirst (W w) i)) N) (zup ρ 86 (16 + s) ((fclr f w : Nat) : Int)) = if fst1 (fun v => decide (W v = wfirst (W w) i)) N ≠ -1 ∧ (fclr f w).testBit (fst1 (fun v => decide (W v = wfirst (W w) i)) N).toNat = false then some (0, zup ρ 86 (16 + s) ((fclr f w ||| 2 ^ (fst1 (fun v => decide (W v = wfirst (W w) i)) N).toNat : Nat) : Int)) else some (0, zrow (zup ρ 86 (16 + s) ((fclr f w : Nat) : Int)) 90 (homeB (ρ 90) (12 * s) (wfirst (W w) i) i)) := by
    have hlt := fclr_lt f w
    rw [e_M_loses_230, h262]
    rcases fst1_sp (fun v => decide (W v = wfirst (W w) i)) N with ⟨h1, _⟩ | ⟨v, h1, h2, h3, _⟩
    · rw [h1, cT rfl, if_neg (fun h => h.1 rfl)]
    · rw [h1, cF (by omega), t_fieldOf (by omega) hs, zup_hit, Int.toNat_natCast]
      simp -implicitDefEqProofs only [ob]
      rw [t_has (by omega) (by omega) (by omega)]
      simp -implicitDefEqProofs only [ob]
      rw [nB]
      cases hb : (fclr f w).testBit v
      · rw [cond_false, if_pos ⟨by omega, rfl⟩, t_stands1 (by omega) hs (by omega) zup_hit hlt]
        simp -implicitDefEqProofs only [ob]
        rw [e_M_loses_275, zup_zup]
      · rw [cond_true, h262, if_neg (fun h => absurd h.2 (by decide))]
  rw [e_M_loses_201, t_stands0 (by omega) hs (by omega) hf h4]
  simp -implicitDefEqProofs only [ob]
  by_cases h0 : i = 0
  · subst h0
    have hno : fst1 (fun v => decide (W v = wfirst (W w) 0)) N = -1 := by
      rcases fst1_sp (fun v => decide (W v = wfirst (W w) 0)) N with ⟨h1, _⟩ | ⟨v, h1, h2, h3, _⟩
      · exact h1
      · have h5 := of_decide_eq_true h3
        obtain ⟨k1, k2, k3⟩ := hx.2.2 v h2
        have h6 := k3.1
        rw [h5] at h6
        have := isW_len h6 (isW_wfirst x3.1 (Nat.zero_le _))
        omega
    rw [hno] at h230 ⊢
    rw [nT (by omega), h230]
  · have hwi := t_wordIn (z := z) (d := e) (by omega) hs hlx ia94 (by omega) (by omega) hrw
    rw [show ((94 : Nat) : Int) = 94 from rfl] at hwi
    rw [nF (by omega), hwi]
    simp -implicitDefEqProofs only [ob]
    exact h230
