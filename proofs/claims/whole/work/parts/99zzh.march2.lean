/-! a march in both -/
theorem t_size {z : zZ} {d : Nat} {v : Int} {μ : Mu} (hd : 1 ≤ d) : mC z d 292 [(0, v)] μ = some (if 0 ≤ v then v else zw (-v), μ) := by
  obtain ⟨e, rfl, he⟩ := pred_of hd
  rw [c_M_size]
  by_cases h : 0 ≤ v
  · rw [cT h, e_M_size_10, if_pos h]
  · rw [cF h, e_M_size_10, if_neg h]
def ndr (a b c dd : Row) (w x y : Int) (k i : Nat) : Int := if a i = (nib w k : Int) - 1 then hvv b c dd x y k i else 1000000000
theorem t_laysHours {z : zZ} {d s wi N : Nat} {W H : Row} {L : Nat → Nat} {x y : Int} {ρ : Mu} (hd : 2 ≤ d) (hs : s < 2) (hx : lexR ρ s N W L) (hwi : wi < N) (hS : SOr H (ρ 132) (ρ 133) (ρ 134) (ρ 135)) (hx0 : 0 ≤ x) (hx1 : x + (L wi : Int) ≤ 16) (hy : 0 ≤ y ∧ y ≤ 15) : ∃ P, mC z d 291 [(2, 86), (0, (s : Int)), (0, (wi : Int)), (0, x), (0, y)] ρ = some (0, P) ∧ (∀ a, a ≠ 136 → P a = ρ a) ∧ ∀ k i, k < L wi → i < 24 → P 136 (24 * k + i) = ndr (ρ 132) (ρ 133) (ρ 134) (ρ 135) (W wi) x y k i := by
  obtain ⟨e, rfl, he⟩ := pred_of (k := 1) hd
  obtain ⟨x1, x2, x3⟩ := hx.2.2 wi hwi
  have hN := hx.2.1
  have n8 := x3.1.2.1
  rw [c_M_laysHours]
  have hlong : ∀ M : Mu, (∀ a, a ≠ 136 → M a = ρ a) → mC z e 202 [(2, 86), (0, (s : Int)), (0, (wi : Int))] M = some ((L wi : Int), M) := fun M h1 => by
    rw [t_longOf he hs (by omega), h1 95 (by omega), x2]
  have inner : ∀ (k : Nat), k < L wi → ∀ (j i : Nat) (M : Mu), j + i = 24 → (∀ a, a ≠ 136 → M a = ρ a) → (∀ k' i', i' < 24 → (k' < k ∨ (k' = k ∧ i' < i)) → M 136 (24 * k' + i') = ndr (ρ 132) (ρ 133) (ρ 134) (ρ 135) (W wi) x y k' i') → ∃ M', f_M_laysHours_17 z e (s : Int) (wi : Int) x y (k : Int) (i : Int) M = f_M_laysHours_3 z e (s : Int) (wi : Int) x y ((k + 1 : Nat) : Int) M' ∧ (∀ a, a ≠ 136 → M' a = ρ a) ∧ ∀ k' i', k' < k + 1 → i' < 24 → M' 136 (24 * k' + i') = ndr (ρ 132) (ρ 133) (ρ 134) (ρ 135) (W wi) x y k' i' := by
    intro k hk j
    induction j with
    | zero =>
      intro i M hj h1 h2
      have : i = 24 := by omega
      subst this
      exact ⟨M, by rw [e_M_laysHours_17, cT (by omega), zwc (by omega)], h1, fun k' i' q1 q2 => h2 k' i' q2 (by omega)⟩
    | succ j ih =>
      intro i M hj h1 h2
      have hi : i < 24 := by omega
      have hl := x3.1.2.2.1 k hk
      have hrd := x3.2 k hk
      have h94 : M 94 (8 * (12 * s + wi) + k) = (nib (W wi) k : Int) - 1 := by rw [h1 94 (by omega)]; exact hrd
      have h132 : M 132 = ρ 132 := h1 132 (by omega)
      have h133 : M 133 = ρ 133 := h1 133 (by omega)
      have h134 : M 134 = ρ 134 := h1 134 (by omega)
      have h135 : M 135 = ρ 135 := h1 135 (by omega)
      have h116 : ∀ v : Int, f_M_laysHours_116 z e (s : Int) (wi : Int) x y (k : Int) (i : Int) ((24 * k + i : Nat) : Int) v M = f_M_laysHours_17 z e (s : Int) (wi : Int) x y (k : Int) ((i + 1 : Nat) : Int) (zup M 136 (24 * k + i) v) := fun v => by
        rw [e_M_laysHours_116, gI_ok (by omega) (by omega), Int.toNat_natCast, zwc (by omega)]
      have next : ∀ v : Int, v = ndr (ρ 132) (ρ 133) (ρ 134) (ρ 135) (W wi) x y k i → ∃ M', f_M_laysHours_116 z e (s : Int) (wi : Int) x y (k : Int) (i : Int) ((24 * k + i : Nat) : Int) v M = f_M_laysHours_3 z e (s : Int) (wi : Int) x y ((k + 1 : Nat) : Int) M' ∧ (∀ a, a ≠ 136 → M' a = ρ a) ∧ ∀ k' i', k' < k + 1 → i' < 24 → M' 136 (24 * k' + i') = ndr (ρ 132) (ρ 133) (ρ 134) (ρ 135) (W wi) x y k' i' := fun v hv => by
        rw [h116]
        refine ih (i + 1) _ (by omega) (fun a q => by rw [zup_ro q]; exact h1 a q) (fun k' i' q1 q2 => ?_)
        by_cases e1 : k' = k ∧ i' = i
        · rw [e1.1, e1.2, zup_hit]; exact hv
        · rw [zup_nk (by omega)]
          exact h2 k' i' q1 (by omega)
      rw [e_M_laysHours_17, cF (by omega), gI_ok (by omega) (by omega), t_size he]
      simp -implicitDefEqProofs only [ob]
      rw [gI_ok (by omega) (by omega), t_size he]
      simp -implicitDefEqProofs only [ob]
      rw [gI_ok (by omega) (by omega), t_beginOf he hs (by omega)]
      simp -implicitDefEqProofs only [ob]
      rw [zwa (by omega), gI_ok (by omega) (by omega), Int.toNat_natCast, Int.toNat_natCast, zk24r (by omega) (by omega), h133, h134, h135]
      rcases Classical.em (ρ 132 i = (nib (W wi) k : Int) - 1) with hal | hal
      · have hal2 : M 132 i = M 94 (8 * (12 * s + wi) + k) := by rw [h132, h94]; exact hal
        rw [nT hal2]
        rcases hS i hi with ⟨k1, k2⟩ | ⟨k1, k2, k3, ⟨k4, k5, k6⟩, ⟨k7, k8, k9⟩, k10, k11, k12⟩
        · exfalso; omega
        · rw [gI_ok (by omega) (by omega), gI_ok (by omega) (by omega), gN_ok (by omega)]
          refine next _ ?_
          unfold ndr
          rw [if_pos hal]
          have b1 := abv_rg (v := ρ 133 i - (x + (k : Int))) (by omega) (by omega)
          have b2 := abv_rg (v := ρ 134 i - y) (by omega) (by omega)
          have e1 : (if 0 ≤ zw (zw (ρ 133 i - x) - (k : Int)) then zw (zw (ρ 133 i - x) - (k : Int)) else zw (-zw (zw (ρ 133 i - x) - (k : Int)))) = abv (ρ 133 i - (x + (k : Int))) := by
            rw [zw_id (x := ρ 133 i - x) (by omega) (by omega), zw_id (x := ρ 133 i - x - (k : Int)) (by omega) (by omega), zw_id (x := -(ρ 133 i - x - (k : Int))) (by omega) (by omega), show ρ 133 i - x - (k : Int) = ρ 133 i - (x + (k : Int)) by omega]
            rfl
          have e2 : (if 0 ≤ zw (ρ 134 i - y) then zw (ρ 134 i - y) else zw (-zw (ρ 134 i - y))) = abv (ρ 134 i - y) := by
            rw [zw_id (x := ρ 134 i - y) (by omega) (by omega), zw_id (x := -(ρ 134 i - y)) (by omega) (by omega)]
            rfl
          rw [e1, e2]
          clear e1 e2
          unfold hvv
          generalize abv (ρ 133 i - (x + (k : Int))) = A at b1 ⊢
          generalize abv (ρ 134 i - y) = B at b2 ⊢
          rw [zw_id (x := A + B) (by omega) (by omega), zw_id (x := A + B + ρ 135 i) (by omega) (by omega), zw_id (x := A + B + ρ 135 i - 1) (by omega) (by omega)]
      · have hal2 : ¬ M 132 i = M 94 (8 * (12 * s + wi) + k) := by rw [h132, h94]; exact hal
        rw [nF hal2, e_M_laysHours_113]
        refine next _ ?_
        unfold ndr
        rw [if_neg hal]
  have outer : ∀ (j k : Nat) (M : Mu), j + k = L wi → (∀ a, a ≠ 136 → M a = ρ a) → (∀ k' i', k' < k → i' < 24 → M 136 (24 * k' + i') = ndr (ρ 132) (ρ 133) (ρ 134) (ρ 135) (W wi) x y k' i') → ∃ M', f_M_laysHours_3 z e (s : Int) (wi : Int) x y (k : Int) M = some (0, M') ∧ (∀ a, a ≠ 136 → M' a = ρ a) ∧ ∀ k i, k < L wi → i < 24 → M' 136 (24 * k + i) = ndr (ρ 132) (ρ 133) (ρ 134) (ρ 135) (W wi) x y k i := by
    intro j
    induction j with
    | zero =>
      intro k M hj h1 h2
      have : k = L wi := by omega
      subst this
      exact ⟨M, by rw [e_M_laysHours_3, hlong M h1]; simp -implicitDefEqProofs only [ob]; rw [cT (by omega)], h1, h2⟩
    | succ j ih =>
      intro k M hj h1 h2
      obtain ⟨M1, g1, g2, g3⟩ := inner k (by omega) 24 0 M (by omega) h1 (fun k' i' q1 q2 => h2 k' i' (by omega) q1)
      rw [show ((0 : Nat) : Int) = 0 from rfl] at g1
      rw [e_M_laysHours_3, hlong M h1]
      simp -implicitDefEqProofs only [ob]
      rw [cF (by omega), g1]
      exact ih (k + 1) M1 (by omega) g2 g3
  exact outer (L wi) 0 ρ (by omega) (fun _ _ => rfl) (fun k' i' q => absurd q (by omega))
theorem edR_edg {a b c dd : Row} {w x y : Int} {n h : Nat} {P : Mu} (hh : h ≤ 30) (hP : ∀ k i, k < n → i < 24 → P 136 (24 * k + i) = ndr a b c dd w x y k i) : ∀ k i, k < n → i < 24 → edR P h k i = edg a b c dd w x y h k i := fun k i hk hi => by
  unfold edR edg
  rw [hP k i hk hi]
  unfold ndr
  by_cases q : a i = (nib w k : Int) - 1
  · rw [if_pos q, decide_eq_true q, Bool.true_and]
  · rw [if_neg q, decide_eq_false q, Bool.false_and]
    exact decide_eq_false (by omega)
/-- the reference's choosing -/
theorem t_who {z : zZ} {e n h v : Nat} {E : Nat → Nat → Bool} {u : Nat → Nat} {ρ : Mu} (he : 4 ≤ e) (hn : n ≤ 8) (hv : v < n) (hE : ∀ k i, k < n → i < 24 → edR ρ h k i = E k i) (hu : ∀ k, k < n → GW E n u k) : ∀ (j k : Nat) (v8 : Int) (G : Row) (M : Mu), j + k = v + 1 → FFm ρ M → (∀ y, y < 24 → M 137 y = G y ∧ -1 ≤ G y) → (∀ y, y < 24 → tld G k y = usd u k y) → (k = v + 1 → v8 = (u v : Int)) → ∃ M', f_M_march_179 z e (v : Int) (n : Int) (h : Int) v8 (k : Int) M = some ((u v : Int), M') ∧ FFm ρ M' := by
  intro j
  induction j with
  | zero =>
    intro k v8 G M hj hF hG ht hv8
    have hk : k = v + 1 := by omega
    refine ⟨M, ?_, hF⟩
    rw [e_M_march_179, cT (by omega), hv8 hk]
  | succ j ih =>
    intro k v8 G M hj hF hG ht hv8
    have hk : k < n := by omega
    obtain ⟨g1, g2, g3, g4, g5⟩ := hu k hk
    rw [e_M_march_179, cF (by omega)]
    have hed : ∀ M : Mu, FFm ρ M → edR M h = edR ρ h := fun M q => by
      funext k i
      unfold edR
      rw [q 136 (by omega) (by omega) (by omega)]
    have inner : ∀ (jj i : Nat) (G : Row) (M : Mu), jj + i = u k → FFm ρ M → (∀ y, y < 24 → M 137 y = G y ∧ -1 ≤ G y) → (∀ y, y < 24 → tld G k y = usd u k y) → ∃ M', f_M_march_189 z e (v : Int) (n : Int) (h : Int) (i : Int) (k : Int) M = some ((u v : Int), M') ∧ FFm ρ M' := by
      intro jj
      induction jj with
      | zero =>
        intro i G M hjj hF hG ht
        have hi : i = u k := by omega
        subst hi
        obtain ⟨b, M1, G', c1, c2, c3, c4, c5, c6⟩ := t_isFirst (z := z) (d := e) (k := k) (n := n) (h := h) (i := u k) (G := G) (μ := M) he hn hk g1 hG
        rw [hed M hF] at c3
        have hb : b = true := c3.mpr ⟨by rw [hE k _ hk g1]; exact g2, by rw [ht _ g1]; exact g3, MT_congr (fun k i _ q1 q2 => (hE k i q1 q2).symm) (fun y hy => by
          show (usd u k y || decide (y = u k)) = (tld G k y || decide (y = u k))
          rw [ht y hy]) g4⟩
        subst hb
        rw [e_M_march_189, c1]
        simp -implicitDefEqProofs only [ob]
        rw [nB, cond_true, zwc (by omega)]
        refine ih (k + 1) (u k : Int) G' M1 (by omega) (FFm_trans hF c2) c4 (fun y hy => ?_) (fun q => ?_)
        · rw [c5 rfl y hy, ht y hy]; rfl
        · have : k = v := by omega
          rw [this]
      | succ jj ih2 =>
        intro i G M hjj hF hG ht
        have hi : i < u k := by omega
        obtain ⟨b, M1, G', c1, c2, c3, c4, c5, c6⟩ := t_isFirst (z := z) (d := e) (k := k) (n := n) (h := h) (i := i) (G := G) (μ := M) he hn hk (by omega) hG
        rw [hed M hF] at c3
        have hb : b = false := by
          cases b with
          | false => rfl
          | true =>
            exfalso
            obtain ⟨q1, q2, q3⟩ := c3.mp rfl
            exact g5 i hi ⟨by rw [← hE k i hk (by omega)]; exact q1, by rw [← ht i (by omega)]; exact q2, MT_congr (fun k i _ q1 q2 => hE k i q1 q2) (fun y hy => by
              show (tld G k y || decide (y = i)) = (usd u k y || decide (y = i))
              rw [ht y hy]) q3⟩
        subst hb
        rw [e_M_march_189, c1]
        simp -implicitDefEqProofs only [ob]
        rw [nB, cond_false, zwc (by omega)]
        exact ih2 (i + 1) G' M1 (by omega) (FFm_trans hF c2) c4 (fun y hy => by rw [c6 rfl y hy]; exact ht y hy)
    have := inner (u k) 0 G M (by omega) hF hG ht
    exact this
theorem march_both {z : zZ} {d d' wl : Nat} {s w x y v : Int} {μ ρ : Mu} {N F : Nat → Nat} {L : Nat → Nat → Nat} (hd : 16 ≤ d) (hd' : 6 ≤ d') (rx : rg x) (hB : BT μ ρ N F L wl) (hS : SOr (μ 67) (ρ 132) (ρ 133) (ρ 134) (ρ 135)) : ∃ (r : Int) (M P : Mu), mC z d 157 [(2, 0), (0, s), (0, w), (0, x), (0, y), (0, v)] μ = some (r, M) ∧ mC z d' 290 [(2, 86), (0, s), (0, w), (0, x), (0, y), (0, v)] ρ = some (r, P) ∧ AFm μ M ∧ ∀ a, (a < 136 ∨ 139 < a) → P a = ρ a := by
  obtain ⟨e, rfl, he⟩ := pred_of (k := 15) hd
  obtain ⟨e', rfl, he'⟩ := pred_of (k := 5) hd'
  have hno : f_W_march_35 z e μ = some (-3, μ) := by rw [e_W_march_35]
  have hno2 : f_W_march_83 z e μ = some (-3, μ) := by rw [e_W_march_83]
  have hno' : f_M_march_30 z e' ρ = some (-3, ρ) := by rw [e_M_march_30]
  have hno2' : f_M_march_63 z e' ρ = some (-3, ρ) := by rw [e_M_march_63]
  have fin0 : mC z (e + 1) 157 [(2, 0), (0, s), (0, w), (0, x), (0, y), (0, v)] μ = some (-3, μ) → mC z (e' + 1) 290 [(2, 86), (0, s), (0, w), (0, x), (0, y), (0, v)] ρ = some (-3, ρ) → ∃ (r : Int) (M P : Mu), mC z (e + 1) 157 [(2, 0), (0, s), (0, w), (0, x), (0, y), (0, v)] μ = some (r, M) ∧ mC z (e' + 1) 290 [(2, 86), (0, s), (0, w), (0, x), (0, y), (0, v)] ρ = some (r, P) ∧ AFm μ M ∧ ∀ a, (a < 136 ∨ 139 < a) → P a = ρ a := fun h1 h2 => ⟨_, _, _, h1, h2, fun _ _ _ _ _ _ => rfl, fun _ _ => rfl⟩
  have hc := c_W_march z e s w x y v μ
  have hr := c_M_march z e' s w x y v ρ
  rw [s_isSide (by omega)] at hc
  simp -implicitDefEqProofs only [ob] at hc
  rw [cB] at hc
  by_cases h0 : s = 0 ∨ s = 1
  · obtain ⟨s, rfl, hs⟩ : ∃ t : Nat, s = (t : Int) ∧ t < 2 := ⟨s.toNat, by omega, by omega⟩
    obtain ⟨a1, a2, a3, a4, a5, a6, a7, a8, a9, a10, a11, a12⟩ := hB.1 s hs
    obtain ⟨b1, b2, b3, b4, b5, b6, b7⟩ := hB.2.1 s hs
    rw [decide_eq_true h0, cond_true, e_W_march_7 _ _ _ _ _ _ _ _ h0, Int.toNat_natCast, s_hasWord (by omega) (o9 hs) a1 a2] at hc
    rw [t_isWord (by omega) hs, b2.1] at hr
    simp -implicitDefEqProofs only [ob] at hc hr
    rw [cB] at hc hr
    by_cases h1 : 0 ≤ w ∧ w < (N s : Int)
    · rw [decide_eq_true h1, cond_true, s_isOnNet (by omega)] at hc
      rw [decide_eq_true h1, cond_true, t_in (by omega)] at hr
      simp -implicitDefEqProofs only [ob] at hc hr
      rw [cB] at hc hr
      by_cases h2 : 0 ≤ x ∧ x < 16
      · rw [decide_eq_true h2, cond_true, s_isOnNet (by omega)] at hc
        rw [decide_eq_true (show (0 : Int) ≤ x ∧ x ≤ 15 by omega), cond_true, t_in (by omega)] at hr
        simp -implicitDefEqProofs only [ob] at hc hr
        rw [nB] at hc hr
        by_cases h3 : 0 ≤ y ∧ y < 16
        · obtain ⟨w, rfl, hw⟩ : ∃ t : Nat, w = (t : Int) ∧ t < N s := ⟨w.toNat, by omega, by omega⟩
          obtain ⟨x1, x2, x3⟩ := b2.2.2 w hw
          have n8 := x3.1.2.1
          rw [decide_eq_true h3, cond_true, e_W_march_38 _ _ _ _ _ _ _ _ h0, Int.toNat_natCast, Int.toNat_natCast, gI_ok (by omega) (by omega), s_sizeOf (by omega) x3.1] at hc
          rw [decide_eq_true (show (0 : Int) ≤ y ∧ y ≤ 15 by omega), cond_true, e_M_march_33, t_longOf (by omega) hs (by omega), x2] at hr
          simp -implicitDefEqProofs only [ob] at hc hr
          rw [zw_id (x := x + (L s w : Int)) (by omega) (by omega), zw_id (x := x + (L s w : Int) - 1) (by omega) (by omega), s_isOnNet (by omega)] at hc
          rw [zw_id (x := x + (L s w : Int)) (by omega) (by omega), zw_id (x := (L s w : Int) - 1) (by omega) (by omega)] at hr
          simp -implicitDefEqProofs only [ob] at hc
          rw [cB] at hc
          by_cases h4 : x + (L s w : Int) ≤ 16
          · rw [decide_eq_true (show 0 ≤ x + (L s w : Int) - 1 ∧ x + (L s w : Int) - 1 < 16 by omega), cond_true] at hc
            rw [cF (show ¬ 16 < x + (L s w : Int) by omega), t_in (by omega)] at hr
            simp -implicitDefEqProofs only [ob] at hr
            rw [nB] at hr
            by_cases h5 : -1 ≤ v ∧ v ≤ (L s w : Int) - 1
            · rw [cF (show ¬ v < -1 by omega), cT (show v < (L s w : Int) by omega), e_W_march_86] at hc
              rw [decide_eq_true h5, cond_true, e_M_march_66] at hr
              obtain ⟨M, hA, hcase⟩ := s_assemble (z := z) (d := e) (n := L s w) (a := ρ 132) (b := ρ 133) (c := ρ 134) (dd := ρ 135) (w := μ (4 + 9 * s + 4) w) (x := x) (y := y) (μ := μ) (by omega) x3.1 hS h2.1 h4 (by omega)
              obtain ⟨P0, p1, p2, p3⟩ := t_laysHours (z := z) (d := e') (s := s) (wi := w) (H := μ 67) (x := x) (y := y) (ρ := ρ) (by omega) hs b2 hw hS h2.1 h4 (by omega)
              rw [p1] at hr
              simp -implicitDefEqProofs only [ob] at hr
              -- nobody goes yet
              have clr1 : ∀ (j i : Nat) (P : Mu), j + i = 24 → (∀ a, a ≠ 137 → P a = P0 a) → (∀ i', i' < i → P 137 i' = -1) → ∃ P', f_M_march_78 z e' v (L s w : Int) (i : Int) P = f_M_march_102 z e' v (L s w : Int) 0 P' ∧ (∀ a, a ≠ 137 → P' a = P0 a) ∧ ∀ i', i' < 24 → P' 137 i' = -1 := by
                intro j
                induction j with
                | zero =>
                  intro i P hj q1 q2
                  have : i = 24 := by omega
                  subst this
                  exact ⟨P, by rw [e_M_march_78, cT (by omega)], q1, q2⟩
                | succ j ih =>
                  intro i P hj q1 q2
                  rw [e_M_march_78, cF (by omega), gI_ok (by omega) (by omega), Int.toNat_natCast, zwc (by omega)]
                  refine ih (i + 1) _ (by omega) (fun a q => by rw [zup_ro q]; exact q1 a q) (fun i' hi' => ?_)
                  by_cases e1 : i' = i
                  · subst e1; rw [zup_hit]
                  · rw [zup_nk e1]; exact q2 i' (by omega)
              obtain ⟨P1, r1, r2, r3⟩ := clr1 24 0 P0 (by omega) (fun _ _ => rfl) (fun i' hi' => absurd hi' (by omega))
              rw [show ((0 : Nat) : Int) = 0 from rfl] at r1
              rw [r1] at hr
              have hE1 : ∀ (P : Mu), FFm P1 P → ∀ h, h ≤ 30 → ∀ k i, k < L s w → i < 24 → edR P h k i = edg (ρ 132) (ρ 133) (ρ 134) (ρ 135) (μ (4 + 9 * s + 4) w) x y h k i := fun P hF h hh => edR_edg hh (fun k i q1 q2 => by rw [hF 136 (by omega) (by omega) (by omega), r2 136 (by omega)]; exact p3 k i q1 q2)
              have hfr : ∀ P : Mu, FFm P1 P → ∀ a, (a < 136 ∨ 139 < a) → P a = ρ a := fun P hF a q => by rw [hF a (by omega) (by omega) (by omega), r2 a (by omega), p2 a (by omega)]
              -- one hour more and more
              have hour : ∀ (h : Nat) (G : Row) (P : Mu), h ≤ 30 → FFm P1 P → (∀ i, i < 24 → P 137 i = G i ∧ -1 ≤ G i) → ∃ (b : Bool) (P' : Mu), f_M_march_102 z e' v (L s w : Int) (h : Int) P = (bif b then f_M_march_130 z e' v (L s w : Int) (h : Int) P' else f_M_march_102 z e' v (L s w : Int) ((h + 1 : Nat) : Int) P') ∧ FFm P1 P' ∧ (b = true ↔ MT (edg (ρ 132) (ρ 133) (ρ 134) (ρ 135) (μ (4 + 9 * s + 4) w) x y h) (fun _ => false) 0 (L s w)) ∧ ∀ i, i < 24 → -1 ≤ P' 137 i := fun h G P hh hF hG => by
                obtain ⟨b, P', c1, c2, c3, c4⟩ := t_canMarch (z := z) (d := e') (f := 0) (n := L s w) (h := h) (G := G) (μ := P) (by omega) n8 (by omega) hG
                have ht0 : ∀ i, tld G 0 i = false := fun i => decide_eq_false (by omega)
                have hE2 := hE1 P hF h hh
                refine ⟨b, P', ?_, FFm_trans hF c2, ?_, fun i hi => ?_⟩
                · rw [show ((0 : Nat) : Int) = 0 from rfl] at c1
                  rw [e_M_march_102, cF (by omega), c1]
                  simp -implicitDefEqProofs only [ob]
                  rw [nB, zwc (by omega)]
                · rw [c3]
                  exact ⟨fun q => MT_congr (fun k i _ q1 q2 => hE2 k i q1 q2) (fun i _ => ht0 i) q, fun q => MT_congr (fun k i _ q1 q2 => (hE2 k i q1 q2).symm) (fun i _ => (ht0 i).symm) q⟩
                · rcases (c4 i hi).2 (ht0 i) with q | q <;> omega
              have walk : ∀ (j h h0 : Nat) (P : Mu), j + h = h0 → h0 ≤ 31 → (∀ h', h' < h0 → ¬ MT (edg (ρ 132) (ρ 133) (ρ 134) (ρ 135) (μ (4 + 9 * s + 4) w) x y h') (fun _ => false) 0 (L s w)) → FFm P1 P → (∀ i, i < 24 → -1 ≤ P 137 i) → ∃ P', f_M_march_102 z e' v (L s w : Int) (h : Int) P = f_M_march_102 z e' v (L s w : Int) (h0 : Int) P' ∧ FFm P1 P' ∧ ∀ i, i < 24 → -1 ≤ P' 137 i := by
                intro j
                induction j with
                | zero =>
                  intro h h0 P hj hh hno hF hG
                  have : h = h0 := by omega
                  subst this
                  exact ⟨P, rfl, hF, hG⟩
                | succ j ih =>
                  intro h h0 P hj hh hno hF hG
                  obtain ⟨b, P', c1, c2, c3, c4⟩ := hour h (P 137) P (by omega) hF (fun i hi => ⟨rfl, hG i hi⟩)
                  have hb : b = false := by
                    cases b with
                    | false => rfl
                    | true => exact absurd (c3.mp rfl) (hno h (by omega))
                  subst hb
                  rw [c1, cond_false]
                  exact ih (h + 1) h0 P' (by omega) hh hno c2 c4
              rcases hcase with ⟨h, u, k1, k2, k3, k4, k5, k6, k7⟩ | ⟨k1, k2⟩
              · obtain ⟨P2, l1, l2, l3⟩ := walk h 0 h P1 (by omega) (by omega) k3 (FFm_refl P1) (fun i hi => by rw [r3 i hi]; omega)
                obtain ⟨b, P3, c1, c2, c3, c4⟩ := hour h (P2 137) P2 k1 l2 (fun i hi => ⟨rfl, l3 i hi⟩)
                have hb : b = true := c3.mpr k2
                subst hb
                rw [show ((0 : Nat) : Int) = 0 from rfl] at l1
                rw [l1, c1, cond_true, e_M_march_130, cT (by omega)] at hr
                rw [k5] at hc
                simp -implicitDefEqProofs only [ob] at hc
                rw [nF (by decide)] at hc
                by_cases hv : v = -1
                · rw [nT hv, e_W_march_130, k6] at hc
                  rw [nT hv] at hr
                  exact ⟨_, M, P3, hc, hr, hA, hfr P3 c2⟩
                · obtain ⟨v, rfl, hv2⟩ : ∃ t : Nat, v = (t : Int) ∧ t < L s w := ⟨v.toNat, by omega, by omega⟩
                  rw [nF hv, e_W_march_120, gI_ok (by omega) (by omega), Int.toNat_natCast, k7 v hv2, e_W_march_130] at hc
                  rw [nF hv] at hr
                  have clr2 : ∀ (j i : Nat) (P : Mu), j + i = 24 → FFm P1 P → (∀ i', i' < i → P 137 i' = -1) → ∃ P', f_M_march_152 z e' (v : Int) (L s w : Int) (h : Int) (i : Int) P = f_M_march_179 z e' (v : Int) (L s w : Int) (h : Int) (-1) 0 P' ∧ FFm P1 P' ∧ ∀ i', i' < 24 → P' 137 i' = -1 := by
                    intro j
                    induction j with
                    | zero =>
                      intro i P hj q1 q2
                      have : i = 24 := by omega
                      subst this
                      exact ⟨P, by rw [e_M_march_152, cT (by omega)], q1, q2⟩
                    | succ j ih =>
                      intro i P hj q1 q2
                      rw [e_M_march_152, cF (by omega), gI_ok (by omega) (by omega), Int.toNat_natCast, zwc (by omega)]
                      refine ih (i + 1) _ (by omega) (fun a p1 p2 p3 => by rw [zup_ro p1]; exact q1 a p1 p2 p3) (fun i' hi' => ?_)
                      by_cases e1 : i' = i
                      · subst e1; rw [zup_hit]
                      · rw [zup_nk e1]; exact q2 i' (by omega)
                  obtain ⟨P4, n1, n2, n3⟩ := clr2 24 0 P3 (by omega) c2 (fun i' hi' => absurd hi' (by omega))
                  rw [show ((0 : Nat) : Int) = 0 from rfl] at n1
                  obtain ⟨P5, o1, o2⟩ := t_who (z := z) (e := e') (n := L s w) (h := h) (v := v) (E := edg (ρ 132) (ρ 133) (ρ 134) (ρ 135) (μ (4 + 9 * s + 4) w) x y h) (u := u) (ρ := P4) (by omega) n8 hv2 (hE1 P4 n2 h k1) k4 (v + 1) 0 (-1) (fun _ => -1) P4 (by omega) (FFm_refl P4) (fun i hi => ⟨n3 i hi, by omega⟩) (fun i hi => decide_eq_false (by omega)) (fun q => absurd q (by omega))
                  rw [show ((0 : Nat) : Int) = 0 from rfl] at o1
                  rw [n1, o1] at hr
                  exact ⟨_, M, P5, hc, hr, hA, hfr P5 (FFm_trans n2 o2)⟩
              · obtain ⟨P2, l1, l2, l3⟩ := walk 31 0 31 P1 (by omega) (by omega) (fun h' hh' => k1 h' (by omega)) (FFm_refl P1) (fun i hi => by rw [r3 i hi]; omega)
                have l1' : f_M_march_102 z e' v (L s w : Int) 0 P1 = f_M_march_102 z e' v (L s w : Int) 31 P2 := l1
                rw [l1', e_M_march_102, cT (by omega), e_M_march_130, cF (by omega)] at hr
                rw [k2] at hc
                simp -implicitDefEqProofs only [ob] at hc
                rw [nTt] at hc
                exact ⟨_, M, P2, hc, hr, hA, hfr P2 l2⟩
            · rw [decide_eq_false h5, cond_false, hno2'] at hr
              by_cases h6 : v < -1
              · rw [cT h6, hno2] at hc
                exact fin0 hc hr
              · rw [cF h6, cF (by omega), hno2] at hc
                exact fin0 hc hr
          · rw [decide_eq_false (show ¬ (0 ≤ x + (L s w : Int) - 1 ∧ x + (L s w : Int) - 1 < 16) by omega), cond_false, hno2] at hc
            rw [cT (show 16 < x + (L s w : Int) by omega), hno2'] at hr
            exact fin0 hc hr
        · rw [decide_eq_false h3, cond_false, hno] at hc
          rw [decide_eq_false (show ¬ ((0 : Int) ≤ y ∧ y ≤ 15) by omega), cond_false, hno'] at hr
          exact fin0 hc hr
      · rw [decide_eq_false h2, cond_false, hno] at hc
        rw [decide_eq_false (show ¬ ((0 : Int) ≤ x ∧ x ≤ 15) by omega), cond_false, hno'] at hr
        exact fin0 hc hr
    · rw [decide_eq_false h1, cond_false, hno] at hc
      rw [decide_eq_false h1, cond_false, hno'] at hr
      exact fin0 hc hr
  · rw [decide_eq_false h0, cond_false, hno] at hc
    rw [t_isWord_no (by omega) h0] at hr
    simp -implicitDefEqProofs only [ob] at hr
    rw [cTt, hno'] at hr
    exact fin0 hc hr
