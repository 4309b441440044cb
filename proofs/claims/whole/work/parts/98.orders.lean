/-! orders in both -/
def KF (μ M : Mu) : Prop := (∀ a, 58 ≤ a → a ≤ 78 → M a = μ a) ∧ (∀ k, 7 ≤ k → k ≤ 17 → M 0 k = μ 0 k) ∧ ∀ a, 86 ≤ a → M a = μ a
def KR (ρ P : Mu) : Prop := (∀ a, (128 ≤ a ∧ a ≤ 135) ∨ 140 ≤ a → P a = ρ a) ∧ (∀ k, k = 67 ∨ 76 ≤ k → P 86 k = ρ 86 k) ∧ ∀ a, a < 86 → P a = ρ a
theorem KF_refl (μ : Mu) : KF μ μ := ⟨fun _ _ _ => rfl, fun _ _ _ => rfl, fun _ _ => rfl⟩
theorem KR_refl (μ : Mu) : KR μ μ := ⟨fun _ _ => rfl, fun _ _ => rfl, fun _ _ => rfl⟩
theorem KF_trans {A B C : Mu} (h1 : KF A B) (h2 : KF B C) : KF A C := ⟨fun a p q => by rw [h2.1 a p q, h1.1 a p q], fun k p q => by rw [h2.2.1 k p q, h1.2.1 k p q], fun a p => by rw [h2.2.2 a p, h1.2.2 a p]⟩
theorem KR_trans {A B C : Mu} (h1 : KR A B) (h2 : KR B C) : KR A C := ⟨fun a p => by rw [h2.1 a p, h1.1 a p], fun k p => by rw [h2.2.1 k p, h1.2.1 k p], fun a p => by rw [h2.2.2 a p, h1.2.2 a p]⟩
theorem KF_CF {μ M : Mu} (h : CF μ M) : KF μ M := ⟨fun a p q => h.1 a (by omega) (by omega) (by omega) (by omega) (by omega) (by omega) (by omega) (by omega) (by omega) (by omega), fun k p q => h.2.1 k (by omega), fun a p => h.1 a (by omega) (by omega) (by omega) (by omega) (by omega) (by omega) (by omega) (by omega) (by omega) (by omega)⟩
theorem KR_RF {ρ P : Mu} (h : RFm ρ P) : KR ρ P := ⟨fun a p => h.1 a (by omega) (by omega) (by omega) (by omega) (by omega) (by omega) (by omega), fun k p => h.2 k (by omega) (by omega) (by omega), fun a p => h.1 a (by omega) (by omega) (by omega) (by omega) (by omega) (by omega) (by omega)⟩
/-- the tape of both -/
def TI (μ ρ : Mu) : Prop := ∃ sz : Nat, sz ≤ 220 ∧ μ 1 1 = (sz : Int) ∧ ρ 86 9 = (sz : Int) ∧ tpe ρ (μ 2)
theorem bt_congr {μ ρ M P : Mu} {N F : Nat → Nat} {L : Nat → Nat → Nat} {wl : Nat} (hB : BT μ ρ N F L wl) (m1 : ∀ a, a ≠ 1 → a ≠ 36 → a ≠ 37 → a ≠ 38 → a ≠ 39 → a < 54 → M a = μ a) (p1 : ∀ a, 86 < a → a < 111 → a ≠ 109 → a ≠ 110 → a ≠ 93 → (a < 96 ∨ 103 < a) → P a = ρ a) (p2 : ∀ k, k = 0 ∨ k = 1 ∨ k = 14 ∨ k = 15 ∨ k = 16 ∨ k = 17 ∨ k = 27 → P 86 k = ρ 86 k) : BT M P N F L wl := by
  obtain ⟨hC, hR, ⟨c1, c2, c3, c4⟩, ⟨c5, c6⟩, c7, hw, c8, Nn, lt, Dv, Dc, l1, l2, l3⟩ := hB
  have mo : ∀ t i, t < 2 → i ≤ 4 → M (4 + 9 * t + i) = μ (4 + 9 * t + i) := fun t i ht hi => m1 _ (by omega) (by omega) (by omega) (by omega) (by omega) (by omega)
  have mw : ∀ i, i ≤ 4 → M (wl + i) = μ (wl + i) := fun i hi => m1 _ (by rcases hw with h | h <;> omega) (by rcases hw with h | h <;> omega) (by rcases hw with h | h <;> omega) (by rcases hw with h | h <;> omega) (by rcases hw with h | h <;> omega) (by rcases hw with h | h <;> omega)
  have mw0 : M wl = μ wl := mw 0 (by omega)
  have p1' : ∀ a, 86 < a → a < 96 → a ≠ 93 → P a = ρ a := fun a h1 h2 h3 => p1 a h1 (by omega) (by omega) (by omega) h3 (by omega)
  have p1l : ∀ a, 103 < a → a < 109 → P a = ρ a := fun a h1 h2 => p1 a (by omega) (by omega) (by omega) (by omega) (by omega) (by omega)
  refine ⟨fun t ht => ?_, fun t ht => ?_, ?_⟩
  · have r0 : M (4 + 9 * t) = μ (4 + 9 * t) := mo t 0 ht (by omega)
    unfold SDc
    rw [r0, mo t 1 ht (by omega), mo t 2 ht (by omega), mo t 3 ht (by omega), mo t 4 ht (by omega)]
    exact hC t ht
  · obtain ⟨b1, b2, b3, b4, b5, b6, b7⟩ := hR t ht
    unfold SDr
    rw [mo t 1 ht (by omega), mo t 2 ht (by omega), mo t 3 ht (by omega), mo t 4 ht (by omega), p1' 90 (by omega) (by omega) (by omega), p1' 91 (by omega) (by omega) (by omega), p1' 92 (by omega) (by omega) (by omega), p1' 88 (by omega) (by omega) (by omega), p1' 89 (by omega) (by omega) (by omega), p2 (16 + t) (by omega)]
    refine ⟨b1, ⟨by rw [p2 _ (by omega)]; exact b2.1, b2.2.1, fun w hw2 => ?_⟩, b3, b4, b5, b6, b7⟩
    obtain ⟨k1, k2, k3⟩ := b2.2.2 w hw2
    exact ⟨k1, by rw [p1' 95 (by omega) (by omega) (by omega)]; exact k2, rwd_congr k3 (fun k _ => by rw [p1' 94 (by omega) (by omega) (by omega)])⟩
  · have m0 : M 0 = μ 0 := m1 0 (by omega) (by omega) (by omega) (by omega) (by omega) (by omega)
    have m35 : M 35 = μ 35 := m1 35 (by omega) (by omega) (by omega) (by omega) (by omega) (by omega)
    refine ⟨⟨by rw [m0, p2 1 (by omega)]; exact c1, by rw [m0, p2 0 (by omega)]; exact c2, by rw [m0]; exact c3, by rw [m0]; exact c4⟩, ⟨by rw [m35]; exact c5, fun k hk => by rw [m35, p1' 87 (by omega) (by omega) (by omega)]; exact c6 k hk⟩, by rw [p1' 90 (by omega) (by omega) (by omega), p1' 91 (by omega) (by omega) (by omega), p1' 92 (by omega) (by omega) (by omega)]; exact c7, hw, by rw [m0]; exact c8, Nn, lt, Dv, Dc, lawC_congr l1 (by rw [mw0]) (by rw [mw0]) (mw 1 (by omega)) (mw 2 (by omega)) (mw 3 (by omega)) (mw 4 (by omega)), lawR_congr l2 (p2 27 (by omega)) ?_ ?_ ?_ ?_ ?_, l3⟩
    all_goals exact p1l _ (by omega) (by omega)
theorem actsS_kd {b : Row} {n : Nat} : ∀ (j k p : Nat) (K A O : Row), (∀ i, i < k → isKd (K i)) → ∀ m : Nat, (actsS b n j k p K A O).1 = (m : Int) → 1 ≤ m → ∀ i, i < m → isKd ((actsS b n j k p K A O).2.1 i) := by
  intro j
  induction j with
  | zero =>
    intro k p K A O _ m hm h1
    have : (actsS b n 0 k p K A O).1 = 0 := rfl
    omega
  | succ j ih =>
    intro k p K A O hK m hm h1
    have hkd : canB b n p = true → isKd (aK b n p) := by
      intro hc
      unfold aK
      by_cases h : isl b n p = true
      · rw [if_pos h]; exact Or.inr (Or.inr (Or.inr (Or.inr rfl)))
      · rw [if_neg h]
        unfold canB at hc
        have h' : isl b n p = false := by simpa using h
        rw [h', Bool.false_or] at hc
        have h2 := of_decide_eq_true hc
        unfold isKd
        omega
    have hneg := actF_neg b n p
    simp only [actsS] at hm ⊢
    by_cases h1' : canB b n p = false
    · rw [if_pos h1'] at hm; dsimp only at hm; omega
    · rw [if_neg h1'] at hm ⊢
      have hc : canB b n p = true := by simpa using h1'
      have hK' : ∀ i, i < k + 1 → isKd (rup K k (aK b n p) i) := by
        intro i hi
        by_cases e : i = k
        · rw [e, rup_same]; exact hkd hc
        · rw [rup_ne e]; exact hK i (by omega)
      by_cases h2 : k = 12
      · rw [if_pos h2] at hm; dsimp only at hm; omega
      · rw [if_neg h2] at hm ⊢
        by_cases h3 : actF b n p ≠ 0
        · rw [if_pos h3] at hm; dsimp only at hm; omega
        · rw [if_neg h3] at hm ⊢
          by_cases h4 : n ≤ actE b n p
          · rw [if_pos h4] at hm ⊢
            dsimp only at hm ⊢
            intro i hi
            exact hK' i (by omega)
          · rw [if_neg h4] at hm ⊢
            by_cases h5 : tx b n (actE b n p) = 59
            · rw [if_pos h5] at hm ⊢
              exact ih (k + 1) _ _ _ _ hK' m hm h1
            · rw [if_neg h5] at hm; dsimp only at hm; omega
/-- the acts of a text are read by both -/
def AR (μ ρ : Mu) (m : Nat) : Prop := m ≤ 12 ∧ μ 36 3 = (m : Int) ∧ ρ 86 48 = (m : Int) ∧ ∀ i, i < m → isKd (μ 37 i) ∧ rA ρ i (μ 37 i) (μ 38 i) (μ 39 i)
theorem AR_keep {μ ρ M P : Mu} {m : Nat} (h : AR μ ρ m) (hC : CF μ M) (hR : RFm ρ P) : AR M P m := by
  have c : ∀ a, a = 36 ∨ a = 37 ∨ a = 38 ∨ a = 39 → M a = μ a := fun a ha => hC.1 a (by omega) (by omega) (by omega) (by omega) (by omega) (by omega) (by omega) (by omega) (by omega) (by omega)
  have r : ∀ a, 111 ≤ a → a ≤ 117 → P a = ρ a := fun a h1 h2 => hR.1 a (by omega) (by omega) (by omega) (by omega) (by omega) (by omega) (by omega)
  refine ⟨h.1, by rw [c 36 (by omega)]; exact h.2.1, by rw [hR.2 48 (by omega) (by omega) (by omega)]; exact h.2.2.1, fun i hi => ?_⟩
  obtain ⟨k1, k2⟩ := h.2.2.2 i hi
  rw [c 37 (by omega), c 38 (by omega), c 39 (by omega)]
  refine ⟨k1, ?_⟩
  unfold rA at k2 ⊢
  obtain ⟨k3, ⟨l, l1, l2, l3, l4⟩, k5⟩ := k2
  rw [r 111 (by omega) (by omega), r 113 (by omega) (by omega), r 115 (by omega) (by omega), r 116 (by omega) (by omega), r 117 (by omega) (by omega)]
  exact ⟨k3, ⟨l, l1, l2, rwd_congr l3 (fun k _ => by rw [r 112 (by omega) (by omega)]), l4⟩, fun hk => by
    obtain ⟨l', q1, q2, q3⟩ := k5 hk
    exact ⟨l', q1, q2, rwd_congr q3 (fun k _ => by rw [r 114 (by omega) (by omega)])⟩⟩
theorem orders_go {z : zZ} {d d' s m wl : Nat} (hd : 9 ≤ d) (hd' : 9 ≤ d') (hs : s < 2) : ∀ (j i dn : Nat) (μ ρ : Mu) (N F : Nat → Nat) (L : Nat → Nat → Nat), j + i = m → dn ≤ i → BT μ ρ N F L wl → AR μ ρ m → ∃ (D : Nat) (M P : Mu) (F' : Nat → Nat), f_W_orders_19 z d (s : Int) (dn : Int) (i : Int) μ = some ((D : Int), M) ∧ f_M_orders_46 z d' (s : Int) (dn : Int) (i : Int) ρ = some ((D : Int), P) ∧ BT M P N F' L wl ∧ CF μ M ∧ RFm ρ P := by
  intro j
  induction j with
  | zero =>
    intro i dn μ ρ N F L hj hdn hB hA
    refine ⟨dn, μ, ρ, F, ?_, ?_, hB, CF_refl μ, RFm_refl ρ⟩
    · rw [e_W_orders_19, hA.2.1, cT (by omega)]
    · rw [e_M_orders_46, hA.2.2.1, cT (by omega)]
  | succ j ih =>
    intro i dn μ ρ N F L hj hdn hB hA
    have hm := hA.1
    obtain ⟨k1, k2⟩ := hA.2.2.2 i (by omega)
    obtain ⟨r, M1, P1, F1, c1, c2, c3, c4, c5⟩ := act_step (z := z) (d := d) (d' := d') hd hd' hB hs hA.1 hA.2.1 (by omega) rfl rfl rfl k2 k1
    have hA1 := AR_keep hA c4 c5
    rw [e_W_orders_19, hA.2.1, cF (by omega), c1, e_M_orders_46, hA.2.2.1, cF (by omega), c2]
    simp -implicitDefEqProofs only [ob]
    rw [cB, cB, e_W_orders_44, e_W_orders_44, e_M_orders_71, e_M_orders_71, zwc (by omega), zwc (by omega), show zw ((dn : Int) + 0) = (dn : Int) by rw [zw_id (by omega) (by omega)]; omega]
    cases r
    · obtain ⟨D, M, P, F', q1, q2, q3, q4, q5⟩ := ih (i + 1) dn M1 P1 N F1 L (by omega) (by omega) c3 hA1
      exact ⟨D, M, P, F', q1, q2, q3, CF_trans c4 q4, RFm_trans c5 q5⟩
    · obtain ⟨D, M, P, F', q1, q2, q3, q4, q5⟩ := ih (i + 1) (dn + 1) M1 P1 N F1 L (by omega) (by omega) c3 hA1
      exact ⟨D, M, P, F', q1, q2, q3, CF_trans c4 q4, RFm_trans c5 q5⟩
/-- reading acts: both refuse, both find one fault, or both have the same acts -/
theorem acts_both {z : zZ} {d d' s n wl : Nat} {μ ρ : Mu} {N F : Nat → Nat} {L : Nat → Nat → Nat} (hd : 9 ≤ d) (hd' : 8 ≤ d') (hB : BT μ ρ N F L wl) (hs : s < 2) (hn1 : 1 ≤ n) (hn2 : n ≤ 160) (sz : Nat) (hsz : sz ≤ 220) (h1 : μ 1 1 = (sz : Int)) (h9 : ρ 86 9 = (sz : Int)) (hb : tpe ρ (μ 2)) (hns : n ≤ sz) : ∃ M P, (∀ a, a ≠ 1 → a ≠ 36 → a ≠ 37 → a ≠ 38 → a ≠ 39 → M a = μ a) ∧ M 1 1 = 0 ∧ (∀ a, a ≠ 86 → (a < 111 ∨ 117 < a) → P a = ρ a) ∧ (∀ k, k ≠ 9 → k ≠ 10 → k ≠ 11 → k ≠ 12 → k ≠ 13 → k ≠ 48 → P 86 k = ρ 86 k) ∧ P 86 9 = 0 ∧ BT M P N F L wl ∧ ((∃ f : Int, f < 0 ∧ mC z d 64 [(2, 0), (0, (s : Int)), (0, (n : Int))] μ = some (f, M) ∧ mC z d' 228 [(2, 86), (0, (n : Int))] ρ = some (0, P) ∧ P 86 12 = f) ∨ (∃ m : Nat, mC z d 64 [(2, 0), (0, (s : Int)), (0, (n : Int))] μ = some (0, M) ∧ mC z d' 228 [(2, 86), (0, (n : Int))] ρ = some (1, P) ∧ 1 ≤ m ∧ AR M P m)) := by
  obtain ⟨e, rfl, he⟩ := pred_of (k := 8) hd
  obtain ⟨e', rfl, he'⟩ := pred_of (k := 7) hd'
  obtain ⟨e2, rfl, he2⟩ := pred_of (k := 7) he
  have hR0 : ∃ R, actsS (μ 2) n 13 0 0 (μ 37) (μ 38) (μ 39) = R := ⟨_, rfl⟩
  obtain ⟨R, hR⟩ := hR0
  have ho : opM μ (n : Int) 2 = μ 2 := opM_r (by omega)
  have hx : zup (opM μ (n : Int)) 36 3 0 1 = opM μ (n : Int) 1 := zup_ro (by omega)
  have hy : ∀ a, a ≠ 1 → a ≠ 36 → zup (opM μ (n : Int)) 36 3 0 a = μ a := fun a q1 q2 => by rw [zup_ro q2]; exact opM_r q1
  have hcl := s_acts (z := z) (e := e2) (n := n) (by omega) (by omega) 12 0 0 (zup (opM μ (n : Int)) 36 3 0) rfl (Nat.zero_le _) (by rw [hx]; exact opM_2) (by rw [hx]; exact opM_3) (by rw [hx]; exact opM_4) (by rw [hy 2 (by omega) (by omega)]; exact hb.1) zup_hit R (by rw [hy 2 (by omega) (by omega), hy 37 (by omega) (by omega), hy 38 (by omega) (by omega), hy 39 (by omega) (by omega)]; exact hR)
  obtain ⟨M, m1, m2, m3⟩ := hcl
  simp -implicitDefEqProofs only [Int.natCast_zero] at m1
  have hrun : ∀ (r : Int), M 1 4 = r → mC z (e2 + 1 + 1) 64 [(2, 0), (0, (s : Int)), (0, (n : Int))] μ = some (r, M) := by
    intro r hr
    rw [c_W_readActs, s_isSide (by omega)]
    simp -implicitDefEqProofs only [ob]
    rw [cB, cT (by omega), s_holdsText (by omega) h1]
    simp -implicitDefEqProofs only [ob]
    rw [nB, cT (by omega), s_open (by omega) (by omega)]
    simp -implicitDefEqProofs only [ob]
    rw [c_Acts_read, e_Acts_read_7, cF (by decide), nT (by rw [hx]; exact opM_4), cT (by decide), e_Acts_read_32, cT (by decide), m1]
    simp -implicitDefEqProofs only [ob]
    rw [hr]
  have mr : ∀ a, a ≠ 1 → a ≠ 36 → a ≠ 37 → a ≠ 38 → a ≠ 39 → M a = μ a := fun a q1 q2 q3 q4 q5 => by rw [m2.1 a q1 q2 q3 q4 q5]; exact hy a q1 q2
  have m11 : M 1 1 = 0 := by rw [m2.2.1, hx]; exact opM_1
  -- the reference
  generalize hX : zup (zup (zup ρ 86 10 0) 86 11 (n : Int)) 86 48 0 = X
  have x10 : X 86 10 = ((0 : Nat) : Int) := by subst hX; rw [zup_nk (by omega), zup_nk (by omega)]; exact zup_hit
  have x11 : X 86 11 = (n : Int) := by subst hX; rw [zup_nk (by omega)]; exact zup_hit
  have x48 : X 86 48 = ((0 : Nat) : Int) := by subst hX; exact zup_hit
  have xr : ∀ a, a ≠ 86 → X a = ρ a := fun a q => by subst hX; rw [zup_ro q, zup_ro q, zup_ro q]
  have xk : ∀ k, k ≠ 10 → k ≠ 11 → k ≠ 48 → X 86 k = ρ 86 k := fun k q1 q2 q3 => by subst hX; rw [zup_nk q3, zup_nk q2, zup_nk q1]
  obtain ⟨P, p1, p2⟩ := t_acts (z := z) (e := e') (n := n) (b := μ 2) (by omega) (by omega) 12 0 0 (μ 37) (μ 38) (μ 39) X rfl (Nat.zero_le _) x10 x11 x48 (tpe_congr hb (xr 93 (by omega))) (fun a ha => by omega) R hR
  have pr : ∀ a, a ≠ 86 → (a < 111 ∨ 117 < a) → zup P 86 9 0 a = ρ a := fun a q1 q2 => by rw [zup_ro q1, p1.1 a q1 q2]; exact xr a q1
  have pk : ∀ k, k ≠ 9 → k ≠ 10 → k ≠ 11 → k ≠ 12 → k ≠ 13 → k ≠ 48 → zup P 86 9 0 86 k = ρ 86 k := fun k q1 q2 q3 q4 q5 q6 => by rw [zup_nk q1, p1.2.1 k q2 q4 q5 q6]; exact xk k q2 q3 q6
  have hB' : BT M (zup P 86 9 0) N F L wl := bt_congr hB (fun a q1 q2 q3 q4 q5 _ => mr a q1 q2 q3 q4 q5) (fun a q1 q2 q3 q4 q5 q6 => pr a (by omega) (by omega)) (fun k hk => pk k (by omega) (by omega) (by omega) (by omega) (by omega) (by omega))
  have hrr : ∀ r : Int, ((mC z e' 229 [(2, 86)] X).bind fun q => f_M_readsActs_20 z e' q.1 q.2) = f_M_readsActs_60 z e' r P → (r = 0 ∨ r = 1) → mC z (e' + 1) 228 [(2, 86), (0, (n : Int))] ρ = some (r, zup P 86 9 0) := by
    intro r hr h01
    rw [c_M_readsActs, hX, hr, e_M_readsActs_60, g01_ok h01]
  refine ⟨M, zup P 86 9 0, mr, m11, pr, pk, zup_hit, hB', ?_⟩
  rcases m3 with ⟨hneg, h4⟩ | ⟨m, hm, hm1, hm2, h4, h36, h37, h38, h39⟩
  · left
    rcases p2 with ⟨_, q1, q2⟩ | ⟨m, hm, hm1, _⟩
    · exact ⟨R.1, hneg, hrun _ h4, hrr 0 q1 (Or.inl rfl), by rw [zup_nk (by omega)]; exact q2⟩
    · omega
  · right
    rcases p2 with ⟨hneg, _⟩ | ⟨m', hm', _, _, q1, q2, q3⟩
    · omega
    · have emm : m' = m := by omega
      subst emm
      refine ⟨m', hrun 0 h4, hrr 1 q1 (Or.inr rfl), hm1, hm2, h36, by rw [zup_nk (by omega)]; exact q2, fun i hi => ?_⟩
      rw [h37, h38, h39]
      refine ⟨?_, ?_⟩
      · have := actsS_kd (b := μ 2) (n := n) 13 0 0 (μ 37) (μ 38) (μ 39) (fun i hi => by omega) m' (by rw [hR]; exact hm) hm1 i hi
        rw [hR] at this
        exact this
      · have h := q3 i hi
        unfold rA at h ⊢
        obtain ⟨k3, ⟨l, l1, l2, l3, l4⟩, k5⟩ := h
        rw [zup_ro (by omega), zup_ro (by omega), zup_ro (by omega), zup_ro (by omega), zup_ro (by omega)]
        exact ⟨k3, ⟨l, l1, l2, rwd_congr l3 (fun k _ => by rw [zup_ro (by omega)]), l4⟩, fun hk => by
          obtain ⟨l', q1, q2, q3⟩ := k5 hk
          exact ⟨l', q1, q2, rwd_congr q3 (fun k _ => by rw [zup_ro (by omega)])⟩⟩
