/-! exchange in both -/
def vlw (μ : Mu) (L : Nat → Nat → Nat) (Nn : Nat) (lt : Nat → Int) (Dv Dc : Nat → Row → Option Int) (t w : Nat) : Int := wrt Nn lt Dv Dc (μ 0 18) (t : Int) (μ 35) (μ (4 + 9 * t + 4) w) (L t w)
theorem t_lbx {z : zZ} {d t Nn : Nat} {come gone : Int} {lt : Nat → Int} {Dv Dc : Nat → Row → Option Int} {μ ρ P0 : Mu} {N F : Nat → Nat} {L : Nat → Nat → Nat} (hd : 7 ≤ d) (ht : t < 2) (hC : SDc μ t (N t) (F t) (L t)) (hR : SDr μ ρ t (N t) (F t) (L t)) (c1 : μ 0 18 = ρ 86 1) (c5 : r99 (μ 35)) (c6 : ∀ k, k < 12 → ρ 87 k = μ 35 k) (l2 : lawR ρ Nn lt Dv Dc) (l3 : dep10 Dv) (l4 : dep10 Dc) (x1 : ∀ a, 87 ≤ a → a ≤ 108 → a ≠ 90 → a ≠ 91 → a ≠ 92 → P0 a = ρ a) (x2 : ∀ k, k ≠ 0 → k ≠ 16 → k ≠ 17 → k < 53 → P0 86 k = ρ 86 k) (x3 : P0 86 (16 + t) = ρ 86 (16 + t)) (x4 : hr (P0 90)) (hst : ∀ x, x < 12 → stq (μ (4 + 9 * t + 3)) come gone x = P0 90 (12 * t + x) ∨ (100 ≤ stq (μ (4 + 9 * t + 3)) come gone x ∧ 100 ≤ P0 90 (12 * t + x))) : ∃ P, mC z d 263 [(2, 86), (0, (t : Int))] P0 = some (bsv μ N F (vlw μ L Nn lt Dv Dc) t come gone, P) ∧ (∀ a, a ≠ 86 → a ≠ 109 → a ≠ 110 → a ≠ 122 → a ≠ 123 → P a = P0 a) ∧ ∀ k, k ≠ 58 → P 86 k = P0 86 k := by
  obtain ⟨a1, a2, a3, a4, a5, a6, a7, a8, a9, a10, a11, a12⟩ := hC
  obtain ⟨b1, b2, b3, b4, b5, b6, b7⟩ := hR
  have hlx : lexR P0 t (N t) (μ (4 + 9 * t + 4)) (L t) := by
    refine ⟨by rw [x2 _ (by omega) (by omega) (by omega) (by omega)]; exact b2.1, b2.2.1, fun w hw => ?_⟩
    obtain ⟨k1, k2, k3⟩ := b2.2.2 w hw
    exact ⟨k1, by rw [x1 95 (by omega) (by omega) (by omega) (by omega) (by omega)]; exact k2, rwd_congr k3 (fun k _ => by rw [x1 94 (by omega) (by omega) (by omega) (by omega) (by omega)])⟩
  have hL0 : lawR P0 Nn lt Dv Dc := lawR_congr l2 (x2 27 (by omega) (by omega) (by omega) (by omega)) (x1 _ (by omega) (by omega) (by omega) (by omega) (by omega)) (x1 _ (by omega) (by omega) (by omega) (by omega) (by omega)) (x1 _ (by omega) (by omega) (by omega) (by omega) (by omega)) (x1 _ (by omega) (by omega) (by omega) (by omega) (by omega)) (x1 _ (by omega) (by omega) (by omega) (by omega) (by omega))
  obtain ⟨P, q1, q2, q3, q4⟩ := t_laysBest (z := z) (d := d) hd ht hlx (x3.trans b1) a4 a5 x4 hL0 l3 l4 c5 (fun k hk => by rw [x1 87 (by omega) (by omega) (by omega) (by omega) (by omega)]; exact c6 k hk)
  refine ⟨P, ?_, q3, q4⟩
  rw [q1, x2 1 (by omega) (by omega) (by omega) (by omega), ← c1]
  unfold bsv
  rw [bsT_st hst]
  rfl
theorem st_none {h g : Row} {b : Nat} (hp : pt g b h 0) (hh : hr h) : ∀ x, x < 12 → stq h (-1) (-1) x = g (b + x) ∨ (100 ≤ stq h (-1) (-1) x ∧ 100 ≤ g (b + x)) := fun x hx => by
  have h1 := hp x hx
  rw [Nat.zero_add] at h1
  have hq := clq_id (v := h x) (hh x).1
  rw [stq_no, h1]
  exact hq
theorem st_exch {h : Row} {come gone x : Nat} (hh : hr h) (hne : come ≠ gone) (hg : 0 < h gone) (v : Int) (hv : v = if x = gone then h x - 1 else if x = come then (if h x + 1 < 999 then h x + 1 else 999) else h x) : stq h (come : Int) (gone : Int) x = v ∨ (100 ≤ stq h (come : Int) (gone : Int) x ∧ 100 ≤ v) := by
  have h0 := hh x
  unfold stq
  by_cases e : x = gone
  · subst e
    rw [if_pos rfl] at hv
    rw [if_neg (by omega), if_pos rfl, Int.add_zero, hv]
    exact clq_id (by omega)
  · rw [if_neg e] at hv
    rw [if_neg (show ¬ (x : Int) = (gone : Int) by omega), Int.sub_zero]
    by_cases e2 : x = come
    · subst e2
      rw [if_pos rfl] at hv
      rw [if_pos rfl]
      have := clq_id (v := h x + 1) (by omega)
      by_cases h9 : h x + 1 < 999
      · rw [if_pos h9] at hv
        rw [hv]; exact this
      · rw [if_neg h9] at hv
        right
        omega
    · rw [if_neg e2] at hv
      rw [if_neg (show ¬ (x : Int) = (come : Int) by omega), Int.add_zero, hv]
      exact clq_id h0.1
def rv6 (p : Int × Int × Int) : Int := if p.1 = 0 then -1 else p.2.2
def rv7 (p : Int × Int × Int) : Int := if p.1 = 0 then 0 else p.2.1
theorem t_exloop {z : zZ} {e s Nn : Nat} {v : Int} {lt : Nat → Int} {Dv Dc : Nat → Row → Option Int} {μ ρ : Mu} {N F : Nat → Nat} {L : Nat → Nat → Nat} {g : Nat → Int} (he : 8 ≤ e) (hs : s < 2) (hC : ∀ t, t < 2 → SDc μ t (N t) (F t) (L t)) (hR : ∀ t, t < 2 → SDr μ ρ t (N t) (F t) (L t)) (c1 : μ 0 18 = ρ 86 1) (c5 : r99 (μ 35)) (c6 : ∀ k, k < 12 → ρ 87 k = μ 35 k) (c7 : hr (ρ 90)) (l2 : lawR ρ Nn lt Dv Dc) (l3 : dep10 Dv) (l4 : dep10 Dc) (hgd : ∀ i, i < 144 → g i = exG μ N F (vlw μ L Nn lt Dv Dc) (evl Nn lt Dv Dc (tlX (μ 0 18) (s : Int) ((i / 12 : Nat) : Int) ((i % 12 : Nat) : Int)) 119 999 Nn 0) s (i / 12) (i % 12)) : ∀ (j i : Nat) (P : Mu), j + i = 144 → XR ρ P → ∃ R, f_M_exchange_49 z e (s : Int) v (bsv μ N F (vlw μ L Nn lt Dv Dc) s (-1) (-1)) (bsv μ N F (vlw μ L Nn lt Dv Dc) (1 - s) (-1) (-1)) (exL g i).1 (rv6 (exL g i)) (rv7 (exL g i)) (i : Int) P = some (exV v (exL g 144), R) ∧ XR ρ R := by
  have hs' : 1 - s < 2 := by omega
  intro j
  induction j with
  | zero =>
    intro i P hj hX
    have : i = 144 := by omega
    subst this
    refine ⟨P, ?_, hX⟩
    obtain ⟨k1, k2, k3, k4, k5⟩ := exL_rg g 144
    rw [e_M_exchange_49, cT (by omega), e_M_exchange_207]
    generalize exL g 144 = p at *
    unfold exV
    by_cases h0 : v = 0
    · rw [nT h0, if_pos h0]
    · rw [nF h0, if_neg h0, e_M_exchange_214]
      by_cases hp : p.1 = 0
      · have e6 : rv6 p = -1 := by unfold rv6; rw [if_pos hp]
        rw [nT e6, e_M_exchange_253, if_pos hp, if_pos hp, k4 hp]
        split
        · rfl
        · split <;> rfl
      · have e6 : rv6 p = p.2.2 := by unfold rv6; rw [if_neg hp]
        have e7 : rv7 p = p.2.1 := by unfold rv7; rw [if_neg hp]
        rw [nF (by omega), e_M_exchange_225, if_neg hp, if_neg hp, e6, e7]
        by_cases h1 : v = 1
        · rw [nT h1, if_pos h1, e_M_exchange_253]
        · rw [nF h1, if_neg h1, e_M_exchange_238]
          by_cases h2 : v = 2
          · rw [nT h2, if_pos h2, e_M_exchange_253]
          · rw [nF h2, if_neg h2, e_M_exchange_251, e_M_exchange_253]
  | succ j ih =>
    intro i P hj hX
    have hi : i < 144 := by omega
    obtain ⟨k1, k2, k3, k4, k5⟩ := exL_rg g i
    have hnext := fun R hR => ih (i + 1) R (by omega) hR
    have hex : exL g (i + 1) = if 0 < g i then ((exL g i).1 + 1, if (exL g i).2.1 < g i then (g i, (i : Int)) else (exL g i).2) else exL g i := rfl
    rw [hex] at hnext
    have hgi := hgd i hi
    have hcost := evl_rg (N := Nn) (lt := lt) (Dv := Dv) (Dc := Dc) (tl := tlX (μ 0 18) (s : Int) ((i / 12 : Nat) : Int) ((i % 12 : Nat) : Int)) (c := 119) (hi := 999) (by omega) Nn 0
    generalize hcs : evl Nn lt Dv Dc (tlX (μ 0 18) (s : Int) ((i / 12 : Nat) : Int) ((i % 12 : Nat) : Int)) 119 999 Nn 0 = cost at hcost hgi
    have ha : i / 12 < 12 := by omega
    have hb : i % 12 < 12 := by omega
    have hP90 : P 90 = ρ 90 := hX.1.1 90 (by omega) (by omega) (by omega) (Or.inl (by omega))
    rw [e_M_exchange_49, cF (by omega), (zd12 i hi).1, (zd12 i hi).2, t_areExchanged (by omega) hs ha hb, hP90]
    simp -implicitDefEqProofs only [ob]
    rw [nB]
    have hvr : ∀ t w, 0 ≤ vlw μ L Nn lt Dv Dc t w ∧ vlw μ L Nn lt Dv Dc t w ≤ 9999 := fun t w => wrt_rg
    have hbg : ∀ t come gone, -1 ≤ bsv μ N F (vlw μ L Nn lt Dv Dc) t come gone ∧ bsv μ N F (vlw μ L Nn lt Dv Dc) t come gone ≤ 119988 := fun t come gone => bsT_rg (hvr t)
    generalize i / 12 = a at *
    generalize i % 12 = b at *
    have hres : ∀ t x, t < 2 → x < 12 → ρ 90 (12 * t + x) = μ (4 + 9 * t + 3) x := fun t x ht hx => by
      have := (hR t ht).2.2.1 x hx
      rw [Nat.zero_add] at this
      exact this
    have hhr : ∀ t, t < 2 → hr (μ (4 + 9 * t + 3)) := fun t ht => (hC t ht).2.2.2.2.2.1
    -- after it, nothing found
    have hno : ∀ R, XR ρ R → g i = 0 → ∃ Q, f_M_exchange_201 z e (s : Int) v (bsv μ N F (vlw μ L Nn lt Dv Dc) s (-1) (-1)) (bsv μ N F (vlw μ L Nn lt Dv Dc) (1 - s) (-1) (-1)) (exL g i).1 (rv6 (exL g i)) (rv7 (exL g i)) (i : Int) R = some (exV v (exL g 144), Q) ∧ XR ρ Q := fun R hR2 hg0 => by
      have := hnext R hR2
      rw [if_neg (by omega)] at this
      rw [e_M_exchange_201, zwc (by omega)]
      exact this
    by_cases hc : a ≠ b ∧ 0 < ρ 90 (12 * s + a) ∧ 0 < ρ 90 (12 * (1 - s) + b)
    · rw [decide_eq_true hc, cond_true, e_M_exchange_86, t_exchanges (by omega) hs ha hb hc.1 (by rw [hP90]; exact c7) (by rw [hP90]; exact hc.2.1) (by rw [hP90]; exact hc.2.2), hP90]
      simp -implicitDefEqProofs only [ob]
      have hc2 : a ≠ b ∧ 0 < μ (4 + 9 * s + 3) a ∧ 0 < μ (4 + 9 * (1 - s) + 3) b := by
        rw [← hres s a hs ha, ← hres (1 - s) b hs' hb]; exact hc
      generalize hP1 : zrow P 90 (xgR (ρ 90) s a b) = P1
      have p1r : ∀ x, x ≠ 90 → P1 x = P x := fun x q => by subst hP1; exact zrow_ne q
      have p1h : P1 90 = xgR (ρ 90) s a b := by subst hP1; exact zrow_same
      clear hP1
      have hx90 : hr (xgR (ρ 90) s a b) := hr_xgR c7 hc.2.1 hc.2.2
      obtain ⟨P2, u1, u2, u3⟩ := t_lbx (z := z) (d := e) (t := s) (come := (b : Int)) (gone := (a : Int)) (P0 := P1) (by omega) hs (hC s hs) (hR s hs) c1 c5 c6 l2 l3 l4 (fun x q1 q2 q3 q4 q5 => by rw [p1r x q3]; exact hX.1.1 x (by omega) (by omega) (by omega) (Or.inl (by omega))) (fun k q1 q2 q3 q4 => by rw [p1r 86 (by omega)]; exact hX.1.2 k (Or.inl q4)) (by rw [p1r 86 (by omega)]; exact hX.1.2 _ (Or.inl (by omega))) (by rw [p1h]; exact hx90) (fun x hx => by
        rw [p1h]
        exact st_exch (hhr s hs) (fun h => hc.1 h.symm) hc2.2.1 _ (by rw [xg_own hs ha hb hx hc.1, hres s x hs hx]))
      have e2h : P2 90 = xgR (ρ 90) s a b := by rw [u2 90 (by omega) (by omega) (by omega) (by omega) (by omega)]; exact p1h
      obtain ⟨P3, w1, w2, w3⟩ := t_lbx (z := z) (d := e) (t := 1 - s) (come := (a : Int)) (gone := (b : Int)) (P0 := P2) (by omega) hs' (hC _ hs') (hR _ hs') c1 c5 c6 l2 l3 l4 (fun x q1 q2 q3 q4 q5 => by rw [u2 x (by omega) (by omega) (by omega) (by omega) (by omega), p1r x q3]; exact hX.1.1 x (by omega) (by omega) (by omega) (Or.inl (by omega))) (fun k q1 q2 q3 q4 => by rw [u3 k (by omega), p1r 86 (by omega)]; exact hX.1.2 k (Or.inl q4)) (by rw [u3 _ (by omega), p1r 86 (by omega)]; exact hX.1.2 _ (Or.inl (by omega))) (by rw [e2h]; exact hx90) (fun x hx => by
        rw [e2h]
        exact st_exch (hhr _ hs') hc.1 hc2.2.2 _ (by rw [xg_oth hs ha hb hx hc.1, hres (1 - s) x hs' hx]))
      have hX9 : XR9 ρ P3 := by
        refine ⟨fun x q1 q2 q3 q4 q5 q6 q7 => by rw [w2 x q1 q5 q6 (by omega) (by omega), u2 x q1 q5 q6 (by omega) (by omega), p1r x q2]; exact hX.1.1 x q1 q5 q6 q7, fun k q1 q2 q3 q4 => by rw [w3 k (by omega), u3 k (by omega), p1r 86 (by omega)]; exact hX.1.2 k q4, fun k hk => ⟨?_, ?_, ?_⟩, ⟨?_, ?_, ?_⟩, fun k hk => ⟨?_, ?_, ?_⟩⟩
        · rw [w2 90 (by omega) (by omega) (by omega) (by omega) (by omega), e2h, xg_out hs ha hb hk]
        · rw [w2 91 (by omega) (by omega) (by omega) (by omega) (by omega), u2 91 (by omega) (by omega) (by omega) (by omega) (by omega), p1r 91 (by omega), hX.1.1 91 (by omega) (by omega) (by omega) (Or.inl (by omega))]
        · rw [w2 92 (by omega) (by omega) (by omega) (by omega) (by omega), u2 92 (by omega) (by omega) (by omega) (by omega) (by omega), p1r 92 (by omega), hX.1.1 92 (by omega) (by omega) (by omega) (Or.inl (by omega))]
        · rw [w3 53 (by omega), u3 53 (by omega), p1r 86 (by omega)]; exact hX.2.1.1
        · rw [w3 54 (by omega), u3 54 (by omega), p1r 86 (by omega)]; exact hX.2.1.2.1
        · rw [w3 55 (by omega), u3 55 (by omega), p1r 86 (by omega)]; exact hX.2.1.2.2
        · rw [w2 119 (by omega) (by omega) (by omega) (by omega) (by omega), u2 119 (by omega) (by omega) (by omega) (by omega) (by omega), p1r 119 (by omega)]; exact (hX.2.2 k hk).1
        · rw [w2 120 (by omega) (by omega) (by omega) (by omega) (by omega), u2 120 (by omega) (by omega) (by omega) (by omega) (by omega), p1r 120 (by omega)]; exact (hX.2.2 k hk).2.1
        · rw [w2 121 (by omega) (by omega) (by omega) (by omega) (by omega), u2 121 (by omega) (by omega) (by omega) (by omega) (by omega), p1r 121 (by omega)]; exact (hX.2.2 k hk).2.2
      obtain ⟨P4, y1, y2⟩ := t_again (z := z) (d := e) (by omega) hX9
      rw [u1]
      simp -implicitDefEqProofs only [ob]
      rw [z1s hs, w1]
      simp -implicitDefEqProofs only [ob]
      rw [y1]
      simp -implicitDefEqProofs only [ob]
      rw [t_feels (by omega)]
      simp -implicitDefEqProofs only [ob]
      rw [zupr, zupr, zrow_same, zrow_same, zrow_zrow, zrow_zrow, y2.1.2 1 (Or.inl (by omega)), ← c1]
      have hT := tlX_eq (h := P4 110) (t := μ 0 18) (s := (s : Int)) (a := (a : Int)) (b := (b : Int))
      generalize rup (rup (tel (P4 110) (μ 0 18) (s : Int)) 7 (a : Int)) 9 (b : Int) = T at hT ⊢
      have hL4 : lawR (zrow P4 110 T) Nn lt Dv Dc := lawR_congr l2 (by rw [zrow_ne (by omega)]; exact y2.1.2 27 (Or.inl (by omega))) (by rw [zrow_ne (by omega)]; exact y2.1.1 _ (by omega) (by omega) (by omega) (Or.inl (by omega))) (by rw [zrow_ne (by omega)]; exact y2.1.1 _ (by omega) (by omega) (by omega) (Or.inl (by omega))) (by rw [zrow_ne (by omega)]; exact y2.1.1 _ (by omega) (by omega) (by omega) (Or.inl (by omega))) (by rw [zrow_ne (by omega)]; exact y2.1.1 _ (by omega) (by omega) (by omega) (Or.inl (by omega))) (by rw [zrow_ne (by omega)]; exact y2.1.1 _ (by omega) (by omega) (by omega) (Or.inl (by omega)))
      obtain ⟨P5, v1, v2⟩ := t_byLaw (z := z) (d := e) (c := 119) (hi := 999) (by omega) hL4
      rw [zrow_same, evl_congr l3 l4 hT, hcs] at v1
      rw [v1]
      simp -implicitDefEqProofs only [ob]
      have hX5 : XR ρ P5 := by
        refine ⟨⟨fun x q1 q2 q3 q4 => by rw [v2.1 x q2, zrow_ne q3]; exact y2.1.1 x q1 q2 q3 q4, fun k q => by rw [v2.1 86 (by omega), zrow_ne (by omega)]; exact y2.1.2 k q⟩, ⟨?_, ?_, ?_⟩, fun k hk => ⟨?_, ?_, ?_⟩⟩
        · rw [v2.1 86 (by omega), zrow_ne (by omega)]; exact y2.2.1.1
        · rw [v2.1 86 (by omega), zrow_ne (by omega)]; exact y2.2.1.2.1
        · rw [v2.1 86 (by omega), zrow_ne (by omega)]; exact y2.2.1.2.2
        · rw [v2.1 119 (by omega), zrow_ne (by omega)]; exact (y2.2.2 k hk).1
        · rw [v2.1 120 (by omega), zrow_ne (by omega)]; exact (y2.2.2 k hk).2.1
        · rw [v2.1 121 (by omega), zrow_ne (by omega)]; exact (y2.2.2 k hk).2.2
      have hg1 := hbg s (-1) (-1)
      have hg2 := hbg (1 - s) (-1) (-1)
      have hg3 := hbg s b a
      have hg4 := hbg (1 - s) a b
      have hnP := hnext P5 hX5
      have hnoP := hno P5 hX5
      unfold exG at hgi
      generalize bsv μ N F (vlw μ L Nn lt Dv Dc) s (-1) (-1) = b1 at *
      generalize bsv μ N F (vlw μ L Nn lt Dv Dc) (1 - s) (-1) (-1) = b2 at *
      generalize bsv μ N F (vlw μ L Nn lt Dv Dc) s b a = b3 at *
      generalize bsv μ N F (vlw μ L Nn lt Dv Dc) (1 - s) a b = b4 at *
      rw [zw_id (x := b3 - b1) (by omega) (by omega), zw_id (x := b4 - b2) (by omega) (by omega)]
      by_cases m1 : b3 - b1 ≤ cost
      · rw [cT m1]
        exact hnoP (by rw [hgi, if_neg (by omega)])
      · rw [cF m1]
        by_cases m2 : 0 < b4 - b2
        · rw [if_pos ⟨hc2, by omega, by omega⟩] at hgi
          rw [if_pos (by omega)] at hnP
          rw [cT m2, e_M_exchange_165, zw_id (x := (exL g i).1 + 1) (by omega) (by omega), zw_id (x := b3 - b1 + (b4 - b2)) (by omega) (by omega), ← hgi]
          by_cases m3 : (exL g i).1 = 0
          · have e6 : rv6 (exL g i) = -1 := by unfold rv6; rw [if_pos m3]
            have h21 : (exL g i).2.1 = -2 := by rw [k4 m3]
            rw [if_pos (show (exL g i).2.1 < g i by omega)] at hnP
            rw [cT e6, e_M_exchange_190, ← hgi, zw_id (x := g i) (by omega) (by omega), e_M_exchange_201, zwc (by omega)]
            have e8 : rv6 ((exL g i).1 + 1, g i, (i : Int)) = (i : Int) := by unfold rv6; rw [if_neg (show ¬ (exL g i).1 + 1 = 0 by omega)]
            have e9 : rv7 ((exL g i).1 + 1, g i, (i : Int)) = g i := by unfold rv7; rw [if_neg (show ¬ (exL g i).1 + 1 = 0 by omega)]
            rw [e8, e9] at hnP
            exact hnP
          · have e6 : rv6 (exL g i) = (exL g i).2.2 := by unfold rv6; rw [if_neg m3]
            have e7 : rv7 (exL g i) = (exL g i).2.1 := by unfold rv7; rw [if_neg m3]
            rw [cF (by omega), e7]
            by_cases m4 : (exL g i).2.1 < g i
            · rw [if_pos m4] at hnP
              rw [cT m4, e_M_exchange_190, ← hgi, zw_id (x := g i) (by omega) (by omega), e_M_exchange_201, zwc (by omega)]
              have e8 : rv6 ((exL g i).1 + 1, g i, (i : Int)) = (i : Int) := by unfold rv6; rw [if_neg (show ¬ (exL g i).1 + 1 = 0 by omega)]
              have e9 : rv7 ((exL g i).1 + 1, g i, (i : Int)) = g i := by unfold rv7; rw [if_neg (show ¬ (exL g i).1 + 1 = 0 by omega)]
              rw [e8, e9] at hnP
              exact hnP
            · rw [if_neg m4] at hnP
              rw [cF m4, e6, e_M_exchange_201, zwc (by omega)]
              have e8 : rv6 ((exL g i).1 + 1, (exL g i).2) = (exL g i).2.2 := by unfold rv6; rw [if_neg (show ¬ (exL g i).1 + 1 = 0 by omega)]
              have e9 : rv7 ((exL g i).1 + 1, (exL g i).2) = (exL g i).2.1 := by unfold rv7; rw [if_neg (show ¬ (exL g i).1 + 1 = 0 by omega)]
              rw [e8, e9] at hnP
              exact hnP
        · rw [cF m2]
          exact hnoP (by rw [hgi, if_neg (by omega)])
    · rw [decide_eq_false hc, cond_false]
      refine hno P hX ?_
      rw [hgi]
      unfold exG
      rw [if_neg]
      intro h
      refine hc ?_
      rw [hres s a hs ha, hres (1 - s) b hs' hb]
      exact h.1
