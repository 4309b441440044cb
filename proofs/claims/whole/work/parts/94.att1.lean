/-! an attack, the class -/
def tlR (t s nl sl nw sw dr : Int) : Row := fun i => if i = 0 then t else if i = 1 then s else if i = 2 then nl else if i = 3 then sl else if i = 4 then nw else if i = 5 then sw else if i = 6 then dr else 0
theorem tlR_eq {h : Row} {t s nl sl nw sw dr : Int} : ∀ i, i < 10 → rup (rup (rup (rup (rup (tel h t s) 2 nl) 3 sl) 4 nw) 5 sw) 6 dr i = tlR t s nl sl nw sw dr i := by
  intro i hi
  have : i = 0 ∨ i = 1 ∨ i = 2 ∨ i = 3 ∨ i = 4 ∨ i = 5 ∨ i = 6 ∨ i = 7 ∨ i = 8 ∨ i = 9 := by omega
  rcases this with h | h | h | h | h | h | h | h | h | h <;> subst h <;> rfl
/-- after the letters are told: the law is asked twice -/
theorem s_att {z : zZ} {d o4 o5 wl ls nl nw Nn : Nat} {v2 v3 v6 cl cw : Int} {lt : Nat → Int} {Dv Dc : Nat → Row → Option Int} {μ : Mu} (hd : 7 ≤ d) (ho4 : o4 = 4 ∨ o4 = 13) (ho5 : o5 = 4 ∨ o5 = 13) (hw : isLw wl) (h6 : μ 0 6 = (wl : Int) + 1) (hL : lawC wl μ Nn lt Dv Dc) (hv : dep10 Dv) (hc : dep10 Dc) (hcl : isW cl nl) (hcw : isW cw nw) (h99 : r99 (μ 35)) (h0 : 0 ≤ μ 0 19) (h1 : μ 0 19 ≤ 65535) : ∃ M, f_W_attack_120 z d v2 v3 o4 o5 v6 cw cl (ls : Int) μ = (bif decide (v6 = 0) then ((mC z d 93 [(2, ((o4 : Nat) : Int)), (0, v2), (0, evl Nn lt Dv Dc (tlR (μ 0 18) ls nl (sm (strS cl (μ 35)) 8) nw (sm (strS cw (μ 35)) 8) (nxd (μ 0 19) % 10)) 102 8 Nn 0), (0, evl Nn lt Dv Dc (tlR (μ 0 18) ls nl (sm (strS cl (μ 35)) 8) nw (sm (strS cw (μ 35)) 8) (nxd (μ 0 19) % 10)) 112 8 Nn 0)] M).bind fun q2 => (f_W_attack_221 z d q2.2)) else ((mC z d 93 [(2, ((o5 : Nat) : Int)), (0, v3), (0, evl Nn lt Dv Dc (tlR (μ 0 18) ls nl (sm (strS cl (μ 35)) 8) nw (sm (strS cw (μ 35)) 8) (nxd (μ 0 19) % 10)) 102 8 Nn 0), (0, evl Nn lt Dv Dc (tlR (μ 0 18) ls nl (sm (strS cl (μ 35)) 8) nw (sm (strS cw (μ 35)) 8) (nxd (μ 0 19) % 10)) 112 8 Nn 0)] M).bind fun q3 => (f_W_attack_221 z d q3.2))) ∧ (∀ a, a ≠ 0 → a ≠ 53 → a ≠ wl → a ≠ wl + 5 → M a = μ a) ∧ (∀ k, k ≠ 19 → M 0 k = μ 0 k) ∧ M 0 19 = nxd (μ 0 19) ∧ ∀ k, k ≠ 7 → k ≠ 8 → M wl k = μ wl k := by
  have w1 : 0 ≠ wl ∧ 0 ≠ wl + 5 ∧ 53 ≠ wl ∧ 53 ≠ wl + 5 ∧ 35 ≠ wl ∧ 35 ≠ wl + 5 := by rcases hw with h | h <;> omega
  rw [e_W_attack_120 _ _ _ _ _ _ _ _ _ _ _ ho4 ho5, s_tell (by omega)]
  simp -implicitDefEqProofs only [ob]
  rw [s_tellWord (by omega) hcl (by rw [zrow_ne (by omega)]; exact h99), zrow_same, zrow_ne (by omega), zrow_zrow]
  simp -implicitDefEqProofs only [ob]
  rw [s_sizeOf (by omega) hcw]
  simp -implicitDefEqProofs only [ob]
  rw [zupr, zrow_same, zrow_zrow, s_strengthOf (by omega) (by rw [zrow_ne (by omega)]; exact h99), zrow_ne (by omega)]
  simp -implicitDefEqProofs only [ob]
  rw [zupr, zrow_same, zrow_zrow, s_nextDraw (by omega) (by rw [zrow_ne (by omega)]; exact h0) (by rw [zrow_ne (by omega)]; exact h1), zrow_ne (by omega)]
  simp -implicitDefEqProofs only [ob]
  rw [e_W_attack_162 _ _ _ _ _ _ _ _ _ _ _ _ ho4 ho5 wl hw (by rw [zup_nk (by omega), zrow_ne (by omega)]; exact h6), gI_ok (by omega) (by omega), show (6 : Int).toNat = 6 from rfl, zupr _ 53, zup_ro (by omega), zrow_same]
  have hT := tlR_eq (h := μ 53) (t := μ 0 18) (s := (ls : Int)) (nl := (nl : Int)) (sl := sm (strS cl (μ 35)) 8) (nw := (nw : Int)) (sw := sm (strS cw (μ 35)) 8) (dr := nxd (μ 0 19) % 10)
  generalize rup (rup (rup (rup (rup (tel (μ 53) (μ 0 18) (ls : Int)) 2 (nl : Int)) 3 (sm (strS cl (μ 35)) 8)) 4 (nw : Int)) 5 (sm (strS cw (μ 35)) 8)) 6 (nxd (μ 0 19) % 10) = T at hT ⊢
  generalize tlR (μ 0 18) (ls : Int) (nl : Int) (sm (strS cl (μ 35)) 8) (nw : Int) (sm (strS cw (μ 35)) 8) (nxd (μ 0 19) % 10) = T0 at hT ⊢
  generalize hX : zrow (zup (zrow μ 53 (rup (rup (rup (rup (tel (μ 53) (μ 0 18) (ls : Int)) 2 (nl : Int)) 3 (sm (strS cl (μ 35)) 8)) 4 (nw : Int)) 5 (sm (strS cw (μ 35)) 8))) 0 19 (nxd (μ 0 19))) 53 T = X
  have xr : ∀ a, a ≠ 0 → a ≠ 53 → X a = μ a := fun a q1 q2 => by subst hX; rw [zrow_ne q2, zup_ro q1, zrow_ne q2]
  have x0 : ∀ k, k ≠ 19 → X 0 k = μ 0 k := fun k q => by subst hX; rw [zrow_ne (by omega), zup_nk q, zrow_ne (by omega)]
  have x19 : X 0 19 = nxd (μ 0 19) := by subst hX; rw [zrow_ne (by omega)]; exact zup_hit
  have x53 : X 53 = T := by subst hX; exact zrow_same
  clear hX
  have wi : ∀ i, i ≤ 5 → wl + i ≠ 0 ∧ wl + i ≠ 53 := by intro i hi; rcases hw with h | h <;> omega
  have xw : X wl = μ wl := xr wl (wi 0 (by omega)).1 (wi 0 (by omega)).2
  have hLX : lawC wl X Nn lt Dv Dc := lawC_congr hL (by rw [xw]) (by rw [xw]) (xr _ (wi 1 (by omega)).1 (wi 1 (by omega)).2) (xr _ (wi 2 (by omega)).1 (wi 2 (by omega)).2) (xr _ (wi 3 (by omega)).1 (wi 3 (by omega)).2) (xr _ (wi 4 (by omega)).1 (wi 4 (by omega)).2)
  obtain ⟨M1, r1, f1⟩ := s_ask (z := z) (d := d) (c := 102) (by omega) hw hLX
  rw [r1, x53, evl_congr hv hc hT]
  simp -implicitDefEqProofs only [ob]
  have m53 : M1 53 = T := by rw [f1.1 53 w1.2.2.1 w1.2.2.2.1]; exact x53
  obtain ⟨M2, r2, f2⟩ := s_ask (z := z) (d := d) (c := 112) (by omega) hw (lawC_lfr hLX f1)
  rw [e_W_attack_176 _ _ _ _ _ _ _ _ _ _ _ ho4 ho5 wl hw (by rw [f1.1 0 w1.1 w1.2.1, x0 6 (by omega)]; exact h6), r2, m53, evl_congr hv hc hT]
  simp -implicitDefEqProofs only [ob]
  have f := lfr_trans f1 f2
  refine ⟨M2, rfl, fun a q1 q2 q3 q4 => by rw [f.1 a q3 q4]; exact xr a q1 q2, fun k q => by rw [f.1 0 w1.1 w1.2.1]; exact x0 k q, by rw [f.1 0 w1.1 w1.2.1]; exact x19, fun k q1 q2 => by rw [f.2 k q1 q2, xw]⟩
/-! an attack, the reference -/
theorem t_att {z : zZ} {e s w v N N' Nn : Nat} {W W' r : Row} {L L' : Nat → Nat} {lt : Nat → Int} {Dv Dc : Nat → Row → Option Int} {ρ : Mu} (he : 5 ≤ e) (hs : s < 2) (hx : lexR ρ s N W L) (hx' : lexR ρ (1 - s) N' W' L') (hw : w < N) (hv : v < N') (hL : lawR ρ Nn lt Dv Dc) (hdv : dep10 Dv) (hdc : dep10 Dc) (h99 : r99 r) (hr : ∀ k, k < 12 → ρ 87 k = r k) (h0 : 0 ≤ ρ 86 0) (h1 : ρ 86 0 ≤ 65535) (fa ta : Nat) (hfa : evl Nn lt Dv Dc (tlR (ρ 86 1) s (L w) (sm (strS (W w) r) 8) (L' v) (sm (strS (W' v) r) 8) (nxd (ρ 86 0) % 10)) 102 8 Nn 0 = (fa : Int)) (hta : evl Nn lt Dv Dc (tlR (ρ 86 1) s (L w) (sm (strS (W w) r) 8) (L' v) (sm (strS (W' v) r) 8) (nxd (ρ 86 0) % 10)) 112 8 Nn 0 = (ta : Int)) : ∃ P, mC z (e + 1) 243 [(2, 86), (0, (s : Int)), (0, (w : Int)), (0, (v : Int))] ρ = f_M_loses_114 z e (s : Int) (w : Int) (L w : Int) ((8 * (12 * s + w) : Nat) : Int) ((L w - fa - (L w - fa - ta) : Nat) : Int) ((L w - fa - ta : Nat) : Int) ((L w - fa : Nat) : Int) P ∧ (∀ a, a ≠ 86 → a ≠ 109 → a ≠ 110 → P a = ρ a) ∧ (∀ k, k ≠ 0 → P 86 k = ρ 86 k) ∧ P 86 0 = nxd (ρ 86 0) := by
  obtain ⟨x1, x2, x3⟩ := hx.2.2 w hw
  obtain ⟨y1, y2, y3⟩ := hx'.2.2 v hv
  have n8 := x3.1.2.1
  have hs' : 1 - s < 2 := by omega
  have h12 := hx.2.1
  have h12' := hx'.2.1
  have hlx : ∀ (X : Mu), (∀ a, a ≠ 86 → a ≠ 110 → X a = ρ a) → (∀ k, k ≠ 0 → X 86 k = ρ 86 k) → lexR X s N W L ∧ lexR X (1 - s) N' W' L' := by
    intro X q1 q2
    refine ⟨⟨by rw [q2 _ (by omega)]; exact hx.1, h12, fun u hu => ?_⟩, ⟨by rw [q2 _ (by omega)]; exact hx'.1, h12', fun u hu => ?_⟩⟩
    · obtain ⟨k1, k2, k3⟩ := hx.2.2 u hu
      exact ⟨k1, by rw [q1 95 (by omega) (by omega)]; exact k2, rwd_congr k3 (fun k _ => by rw [q1 94 (by omega) (by omega)])⟩
    · obtain ⟨k1, k2, k3⟩ := hx'.2.2 u hu
      exact ⟨k1, by rw [q1 95 (by omega) (by omega)]; exact k2, rwd_congr k3 (fun k _ => by rw [q1 94 (by omega) (by omega)])⟩
  rw [c_M_loses, t_draws (by omega) h0 h1]
  simp -implicitDefEqProofs only [ob]
  have e1 := hlx (zup ρ 86 0 (nxd (ρ 86 0))) (fun a q _ => zup_ro q) (fun k q => zup_nk q)
  rw [t_feelsWord (by omega) hs e1.1 hw h99 (fun k hk => by rw [zup_ro (by omega)]; exact hr k hk), z1s hs, zup_ro (by omega), zup_nk (by omega)]
  simp -implicitDefEqProofs only [ob]
  rw [t_longOf (by omega) hs' (by omega), zrow_ne (by omega), zup_ro (by omega), y2]
  simp -implicitDefEqProofs only [ob]
  rw [zupr, zrow_same, zrow_zrow]
  have e2 := hlx (zrow (zup ρ 86 0 (nxd (ρ 86 0))) 110 (rup (rup (rup (tel (ρ 110) (ρ 86 1) (s : Int)) 2 (L w : Int)) 3 (sm (strS (W w) r) 8)) 4 (L' v : Int))) (fun a q q2 => by rw [zrow_ne q2, zup_ro q]) (fun k q => by rw [zrow_ne (by omega), zup_nk q])
  rw [t_strengthIn (by omega) hs' e2.2 hv h99 (fun k hk => by rw [zrow_ne (by omega), zup_ro (by omega)]; exact hr k hk)]
  simp -implicitDefEqProofs only [ob]
  rw [zupr (zrow _ 110 _) 110 5, zrow_same, zrow_zrow, zupr (zrow _ 110 _) 110 6, zrow_same, zrow_zrow, t_longOf (by omega) hs (by omega), zrow_ne (by omega), zup_ro (by omega), x2]
  simp -implicitDefEqProofs only [ob]
  rw [t_beginOf (by omega) hs (by omega)]
  simp -implicitDefEqProofs only [ob]
  have hT := tlR_eq (h := ρ 110) (t := ρ 86 1) (s := (s : Int)) (nl := (L w : Int)) (sl := sm (strS (W w) r) 8) (nw := (L' v : Int)) (sw := sm (strS (W' v) r) 8) (dr := nxd (ρ 86 0) % 10)
  generalize tlR (ρ 86 1) (s : Int) (L w : Int) (sm (strS (W w) r) 8) (L' v : Int) (sm (strS (W' v) r) 8) (nxd (ρ 86 0) % 10) = T0 at hT hfa hta
  generalize rup (rup (rup (rup (rup (tel (ρ 110) (ρ 86 1) (s : Int)) 2 (L w : Int)) 3 (sm (strS (W w) r) 8)) 4 (L' v : Int)) 5 (sm (strS (W' v) r) 8)) 6 (nxd (ρ 86 0) % 10) = T at hT ⊢
  generalize hX : zrow (zup ρ 86 0 (nxd (ρ 86 0))) 110 T = X
  have xr : ∀ a, a ≠ 86 → a ≠ 110 → X a = ρ a := fun a q1 q2 => by subst hX; rw [zrow_ne q2, zup_ro q1]
  have xk : ∀ k, k ≠ 0 → X 86 k = ρ 86 k := fun k q => by subst hX; rw [zrow_ne (by omega), zup_nk q]
  have x0 : X 86 0 = nxd (ρ 86 0) := by subst hX; rw [zrow_ne (by omega)]; exact zup_hit
  have x110 : X 110 = T := by subst hX; exact zrow_same
  clear hX
  have hLX : lawR X Nn lt Dv Dc := lawR_congr hL (xk 27 (by omega)) (xr _ (by omega) (by omega)) (xr _ (by omega) (by omega)) (xr _ (by omega) (by omega)) (xr _ (by omega) (by omega)) (xr _ (by omega) (by omega))
  obtain ⟨M1, r1, f1⟩ := t_byLaw (z := z) (d := e) (c := 102) (hi := 8) (by omega) hLX
  rw [r1, x110, evl_congr hdv hdc hT, hfa]
  simp -implicitDefEqProofs only [ob]
  have m110 : M1 110 = T := by rw [f1.1 110 (by omega)]; exact x110
  obtain ⟨M2, r2, f2⟩ := t_byLaw (z := z) (d := e) (c := 112) (hi := 8) (by omega) (lawR_rsf hLX f1)
  rw [e_M_loses_74, t_min (by omega)]
  simp -implicitDefEqProofs only [ob]
  rw [r2, m110, evl_congr hdv hdc hT, hta]
  simp -implicitDefEqProofs only [ob]
  have em : (if (L w : Int) < (fa : Int) then (L w : Int) else (fa : Int)) = ((L w - (L w - fa) : Nat) : Int) := by split <;> omega
  have e3 : zw ((L w : Int) - ((L w - (L w - fa) : Nat) : Int)) = ((L w - fa : Nat) : Int) := by rw [zw_id (by omega) (by omega)]; omega
  rw [em, e3, t_min (by omega)]
  simp -implicitDefEqProofs only [ob]
  have em2 : (if ((L w - fa : Nat) : Int) < (ta : Int) then ((L w - fa : Nat) : Int) else (ta : Int)) = ((L w - fa - (L w - fa - ta) : Nat) : Int) := by split <;> omega
  have e4 : zw (((L w - fa : Nat) : Int) - ((L w - fa - (L w - fa - ta) : Nat) : Int)) = ((L w - fa - ta : Nat) : Int) := by rw [zw_id (by omega) (by omega)]; omega
  have e5 : zw (((L w - fa - ta : Nat) : Int) + ((L w - fa - (L w - fa - ta) : Nat) : Int)) = ((L w - fa : Nat) : Int) := by rw [zw_id (by omega) (by omega)]; omega
  rw [em2, e4, e5]
  have f := rsf_trans f1 f2
  exact ⟨M2, rfl, fun a q1 q2 q3 => by rw [f.1 a q2]; exact xr a q1 q3, fun k q => by rw [f.1 86 (by omega)]; exact xk k q, by rw [f.1 86 (by omega)]; exact x0⟩
