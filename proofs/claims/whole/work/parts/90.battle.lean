/-! both sides in both memories -/
def SDc (μ : Mu) (s N f : Nat) (L : Nat → Nat) : Prop := μ (4 + 9 * s) 6 = (N : Int) ∧ N ≤ 12 ∧ μ (4 + 9 * s) 7 = (f : Int) ∧ f < 2 ^ N ∧ cnt f.testBit 12 ≤ 6 ∧ hr (μ (4 + 9 * s + 3)) ∧ rkr (μ (4 + 9 * s + 1)) ∧ rkr (μ (4 + 9 * s + 2)) ∧ (∀ w, w < N → isW (μ (4 + 9 * s + 4) w) (L w) ∧ 1 ≤ L w) ∧ (∀ v w, v < N → w < N → μ (4 + 9 * s + 4) v = μ (4 + 9 * s + 4) w → v = w) ∧ (∀ j, j < 12 → μ (4 + 9 * s + 2) (μ (4 + 9 * s + 1) j).toNat = (j : Int)) ∧ ∀ x, x < 12 → μ (4 + 9 * s + 1) (μ (4 + 9 * s + 2) x).toNat = (x : Int)
def SDr (μ ρ : Mu) (s N f : Nat) (L : Nat → Nat) : Prop := ρ 86 (16 + s) = (f : Int) ∧ lexR ρ s N (μ (4 + 9 * s + 4)) L ∧ pt (ρ 90) (12 * s) (μ (4 + 9 * s + 3)) 0 ∧ pt (ρ 91) (12 * s) (μ (4 + 9 * s + 3)) 12 ∧ pt (ρ 92) (12 * s) (μ (4 + 9 * s + 3)) 24 ∧ pt (ρ 88) (12 * s) (μ (4 + 9 * s + 1)) 0 ∧ pt (ρ 89) (12 * s) (μ (4 + 9 * s + 2)) 0
def GL (μ ρ : Mu) (wl : Nat) : Prop := isLw wl ∧ μ 0 6 = (wl : Int) + 1 ∧ ∃ (N : Nat) (lt : Nat → Int) (Dv Dc : Nat → Row → Option Int), lawC wl μ N lt Dv Dc ∧ lawR ρ N lt Dv Dc ∧ dep10 Dv ∧ dep10 Dc
def GM (μ ρ : Mu) (wl : Nat) : Prop := (μ 0 18 = ρ 86 1 ∧ μ 0 19 = ρ 86 0 ∧ 0 ≤ μ 0 19 ∧ μ 0 19 ≤ 65535) ∧ (r99 (μ 35) ∧ ∀ k, k < 12 → ρ 87 k = μ 35 k) ∧ (hr (ρ 90) ∧ hr (ρ 91) ∧ hr (ρ 92)) ∧ GL μ ρ wl
def BT (μ ρ : Mu) (N F : Nat → Nat) (L : Nat → Nat → Nat) (wl : Nat) : Prop := (∀ s, s < 2 → SDc μ s (N s) (F s) (L s)) ∧ (∀ s, s < 2 → SDr μ ρ s (N s) (F s) (L s)) ∧ GM μ ρ wl
theorem o9 {s : Nat} (hs : s < 2) : 4 + 9 * s = 4 ∨ 4 + 9 * s = 13 := by omega
/-- what acts may change -/
def CF (μ M : Mu) : Prop := (∀ a, a ≠ 0 → a ≠ 4 → a ≠ 7 → a ≠ 13 → a ≠ 16 → a ≠ 53 → a ≠ 41 → a ≠ 46 → a ≠ 47 → a ≠ 52 → M a = μ a) ∧ (∀ k, k ≠ 19 → M 0 k = μ 0 k) ∧ (∀ k, k ≠ 7 → M 4 k = μ 4 k ∧ M 13 k = μ 13 k) ∧ ∀ k, k ≠ 7 → k ≠ 8 → M 41 k = μ 41 k ∧ M 47 k = μ 47 k
def RFm (ρ P : Mu) : Prop := (∀ a, a ≠ 86 → a ≠ 90 → a ≠ 91 → a ≠ 92 → a ≠ 109 → a ≠ 110 → a ≠ 118 → P a = ρ a) ∧ ∀ k, k ≠ 0 → k ≠ 16 → k ≠ 17 → P 86 k = ρ 86 k
theorem CF_refl (μ : Mu) : CF μ μ := ⟨fun _ _ _ _ _ _ _ _ _ _ _ => rfl, fun _ _ => rfl, fun _ _ => ⟨rfl, rfl⟩, fun _ _ _ => ⟨rfl, rfl⟩⟩
theorem CF_trans {A B C : Mu} (h1 : CF A B) (h2 : CF B C) : CF A C := ⟨fun a q1 q2 q3 q4 q5 q6 q7 q8 q9 q10 => by rw [h2.1 a q1 q2 q3 q4 q5 q6 q7 q8 q9 q10, h1.1 a q1 q2 q3 q4 q5 q6 q7 q8 q9 q10], fun k q => by rw [h2.2.1 k q, h1.2.1 k q], fun k q => ⟨by rw [(h2.2.2.1 k q).1, (h1.2.2.1 k q).1], by rw [(h2.2.2.1 k q).2, (h1.2.2.1 k q).2]⟩, fun k q r => ⟨by rw [(h2.2.2.2 k q r).1, (h1.2.2.2 k q r).1], by rw [(h2.2.2.2 k q r).2, (h1.2.2.2 k q r).2]⟩⟩
theorem RFm_refl (ρ : Mu) : RFm ρ ρ := ⟨fun _ _ _ _ _ _ _ _ => rfl, fun _ _ _ _ => rfl⟩
theorem RFm_trans {A B C : Mu} (h1 : RFm A B) (h2 : RFm B C) : RFm A C := ⟨fun a q1 q2 q3 q4 q5 q6 q7 => by rw [h2.1 a q1 q2 q3 q4 q5 q6 q7, h1.1 a q1 q2 q3 q4 q5 q6 q7], fun k q r s => by rw [h2.2 k q r s, h1.2 k q r s]⟩
theorem CF_side {μ M : Mu} {s : Nat} (hs : s < 2) (h1 : ∀ a, a ≠ 4 + 9 * s → a ≠ 4 + 9 * s + 3 → M a = μ a) (h2 : ∀ k, k ≠ 7 → M (4 + 9 * s) k = μ (4 + 9 * s) k) : CF μ M := by
  have hs2 : s = 0 ∨ s = 1 := by omega
  rcases hs2 with h | h
  · subst h
    exact ⟨fun a q1 q2 q3 q4 q5 q6 q7 q8 q9 q10 => h1 a q2 q3, fun k _ => by rw [h1 0 (by omega) (by omega)], fun k q => ⟨h2 k q, by rw [h1 13 (by omega) (by omega)]⟩, fun k _ _ => ⟨by rw [h1 41 (by omega) (by omega)], by rw [h1 47 (by omega) (by omega)]⟩⟩
  · subst h
    exact ⟨fun a q1 q2 q3 q4 q5 q6 q7 q8 q9 q10 => h1 a q4 q5, fun k _ => by rw [h1 0 (by omega) (by omega)], fun k q => ⟨by rw [h1 4 (by omega) (by omega)], h2 k q⟩, fun k _ _ => ⟨by rw [h1 41 (by omega) (by omega)], by rw [h1 47 (by omega) (by omega)]⟩⟩
theorem RFm_side {ρ P : Mu} {s : Nat} (hs : s < 2) (h1 : ∀ a, a ≠ 86 → a ≠ 90 → a ≠ 91 → a ≠ 92 → a ≠ 118 → P a = ρ a) (h2 : ∀ k, k ≠ 16 + s → P 86 k = ρ 86 k) : RFm ρ P := ⟨fun a q1 q2 q3 q4 q5 q6 q7 => h1 a q1 q2 q3 q4 q7, fun k _ q2 q3 => h2 k (by omega)⟩
/-- one side's letters and field are others -/
theorem bt_upd {μ ρ M P : Mu} {N F : Nat → Nat} {L : Nat → Nat → Nat} {wl s f' : Nat} (hB : BT μ ρ N F L wl) (hs : s < 2) (h1 : ∀ a, a ≠ 4 + 9 * s → a ≠ 4 + 9 * s + 3 → M a = μ a) (h2 : ∀ k, k ≠ 7 → M (4 + 9 * s) k = μ (4 + 9 * s) k) (h3 : M (4 + 9 * s) 7 = (f' : Int)) (h4 : f' < 2 ^ N s) (h5 : cnt f'.testBit 12 ≤ 6) (h6 : hr (M (4 + 9 * s + 3))) (g1 : ∀ a, a ≠ 86 → a ≠ 90 → a ≠ 91 → a ≠ 92 → a ≠ 118 → P a = ρ a) (g2 : ∀ k, k ≠ 16 + s → P 86 k = ρ 86 k) (g3 : P 86 (16 + s) = (f' : Int)) (g4 : hr (P 90) ∧ hr (P 91) ∧ hr (P 92)) (g5 : pt (P 90) (12 * s) (M (4 + 9 * s + 3)) 0) (g6 : pt (P 91) (12 * s) (M (4 + 9 * s + 3)) 12) (g7 : pt (P 92) (12 * s) (M (4 + 9 * s + 3)) 24) (g8 : ∀ k, k < 12 → P 90 (12 * (1 - s) + k) = ρ 90 (12 * (1 - s) + k) ∧ P 91 (12 * (1 - s) + k) = ρ 91 (12 * (1 - s) + k) ∧ P 92 (12 * (1 - s) + k) = ρ 92 (12 * (1 - s) + k)) : BT M P N (fun t => if t = s then f' else F t) L wl := by
  obtain ⟨hC, hR, hG⟩ := hB
  have hlex : ∀ t, t < 2 → ∀ W, lexR ρ t (N t) W (L t) → lexR P t (N t) W (L t) := fun t ht W hx => by
    refine ⟨by rw [g2 _ (by omega)]; exact hx.1, hx.2.1, fun w hw => ?_⟩
    obtain ⟨a1, a2, a3⟩ := hx.2.2 w hw
    exact ⟨a1, by rw [g1 95 (by omega) (by omega) (by omega) (by omega) (by omega)]; exact a2, rwd_congr a3 (fun k _ => by rw [g1 94 (by omega) (by omega) (by omega) (by omega) (by omega)])⟩
  refine ⟨fun t ht => ?_, fun t ht => ?_, ?_⟩
  · by_cases e : t = s
    · subst e
      obtain ⟨a1, a2, a3, a4, a5, a6, a7, a8, a9, a10, a11, a12⟩ := hC t ht
      have r1 : M (4 + 9 * t + 1) = μ (4 + 9 * t + 1) := h1 _ (by omega) (by omega)
      have r2 : M (4 + 9 * t + 2) = μ (4 + 9 * t + 2) := h1 _ (by omega) (by omega)
      have r4 : M (4 + 9 * t + 4) = μ (4 + 9 * t + 4) := h1 _ (by omega) (by omega)
      simp only [if_true]
      exact ⟨by rw [h2 6 (by omega)]; exact a1, a2, h3, h4, h5, h6, by rw [r1]; exact a7, by rw [r2]; exact a8, by rw [r4]; exact a9, by rw [r4]; exact a10, by rw [r1, r2]; exact a11, by rw [r1, r2]; exact a12⟩
    · have r0 : M (4 + 9 * t) = μ (4 + 9 * t) := h1 _ (by omega) (by omega)
      have r1 : M (4 + 9 * t + 1) = μ (4 + 9 * t + 1) := h1 _ (by omega) (by omega)
      have r2 : M (4 + 9 * t + 2) = μ (4 + 9 * t + 2) := h1 _ (by omega) (by omega)
      have r3 : M (4 + 9 * t + 3) = μ (4 + 9 * t + 3) := h1 _ (by omega) (by omega)
      have r4 : M (4 + 9 * t + 4) = μ (4 + 9 * t + 4) := h1 _ (by omega) (by omega)
      simp only [if_neg e]
      unfold SDc
      rw [r0, r1, r2, r3, r4]
      exact hC t ht
  · by_cases e : t = s
    · subst e
      obtain ⟨b1, b2, b3, b4, b5, b6, b7⟩ := hR t ht
      have r1 : M (4 + 9 * t + 1) = μ (4 + 9 * t + 1) := h1 _ (by omega) (by omega)
      have r2 : M (4 + 9 * t + 2) = μ (4 + 9 * t + 2) := h1 _ (by omega) (by omega)
      have r4 : M (4 + 9 * t + 4) = μ (4 + 9 * t + 4) := h1 _ (by omega) (by omega)
      simp only [if_true]
      exact ⟨g3, by rw [r4]; exact hlex t ht _ b2, g5, g6, g7, by rw [r1, g1 88 (by omega) (by omega) (by omega) (by omega) (by omega)]; exact b6, by rw [r2, g1 89 (by omega) (by omega) (by omega) (by omega) (by omega)]; exact b7⟩
    · obtain ⟨b1, b2, b3, b4, b5, b6, b7⟩ := hR t ht
      have e2 : t = 1 - s := by omega
      have r1 : M (4 + 9 * t + 1) = μ (4 + 9 * t + 1) := h1 _ (by omega) (by omega)
      have r2 : M (4 + 9 * t + 2) = μ (4 + 9 * t + 2) := h1 _ (by omega) (by omega)
      have r3 : M (4 + 9 * t + 3) = μ (4 + 9 * t + 3) := h1 _ (by omega) (by omega)
      have r4 : M (4 + 9 * t + 4) = μ (4 + 9 * t + 4) := h1 _ (by omega) (by omega)
      simp only [if_neg e]
      exact ⟨by rw [g2 _ (by omega)]; exact b1, by rw [r4]; exact hlex t ht _ b2, by rw [r3]; exact pt_out b3 (fun k hk => by rw [e2]; exact (g8 k hk).1), by rw [r3]; exact pt_out b4 (fun k hk => by rw [e2]; exact (g8 k hk).2.1), by rw [r3]; exact pt_out b5 (fun k hk => by rw [e2]; exact (g8 k hk).2.2), by rw [r1, g1 88 (by omega) (by omega) (by omega) (by omega) (by omega)]; exact b6, by rw [r2, g1 89 (by omega) (by omega) (by omega) (by omega) (by omega)]; exact b7⟩
  · obtain ⟨⟨c1, c2, c3, c4⟩, ⟨c5, c6⟩, c7, hw, c8, Nn, lt, Dv, Dc, l1, l2, l3⟩ := hG
    have m0 : M 0 = μ 0 := h1 0 (by omega) (by omega)
    have mw : ∀ i, i ≤ 4 → M (wl + i) = μ (wl + i) := fun i hi => h1 _ (by rcases hw with h | h <;> omega) (by rcases hw with h | h <;> omega)
    have mw0 : M wl = μ wl := mw 0 (by omega)
    refine ⟨⟨by rw [m0, g2 1 (by omega)]; exact c1, by rw [m0, g2 0 (by omega)]; exact c2, by rw [m0]; exact c3, by rw [m0]; exact c4⟩, ⟨by rw [h1 35 (by omega) (by omega)]; exact c5, fun k hk => by rw [h1 35 (by omega) (by omega), g1 87 (by omega) (by omega) (by omega) (by omega) (by omega)]; exact c6 k hk⟩, g4, hw, by rw [m0]; exact c8, Nn, lt, Dv, Dc, lawC_congr l1 (by rw [mw0]) (by rw [mw0]) (mw 1 (by omega)) (mw 2 (by omega)) (mw 3 (by omega)) (mw 4 (by omega)), lawR_congr l2 (g2 27 (by omega)) ?_ ?_ ?_ ?_ ?_, l3⟩
    all_goals exact g1 _ (by omega) (by omega) (by omega) (by omega) (by omega)
theorem bt_same {μ ρ P : Mu} {N F : Nat → Nat} {L : Nat → Nat → Nat} {wl : Nat} (hB : BT μ ρ N F L wl) (g1 : ∀ a, a ≠ 118 → P a = ρ a) : BT μ P N F L wl := by
  obtain ⟨hC, hR, hG⟩ := hB
  refine ⟨hC, fun t ht => ?_, ?_⟩
  · obtain ⟨b1, b2, b3, b4, b5, b6, b7⟩ := hR t ht
    refine ⟨by rw [g1 86 (by omega)]; exact b1, lexR_congr b2 (g1 86 (by omega)) (g1 94 (by omega)) (g1 95 (by omega)), by rw [g1 90 (by omega)]; exact b3, by rw [g1 91 (by omega)]; exact b4, by rw [g1 92 (by omega)]; exact b5, by rw [g1 88 (by omega)]; exact b6, by rw [g1 89 (by omega)]; exact b7⟩
  · obtain ⟨⟨c1, c2, c3, c4⟩, ⟨c5, c6⟩, c7, hw, c8, Nn, lt, Dv, Dc, l1, l2, l3⟩ := hG
    exact ⟨⟨by rw [g1 86 (by omega)]; exact c1, by rw [g1 86 (by omega)]; exact c2, c3, c4⟩, ⟨c5, fun k hk => by rw [g1 87 (by omega)]; exact c6 k hk⟩, by rw [g1 90 (by omega), g1 91 (by omega), g1 92 (by omega)]; exact c7, hw, c8, Nn, lt, Dv, Dc, l1, lawR_congr l2 (by rw [g1 86 (by omega)]) (g1 _ (by omega)) (g1 _ (by omega)) (g1 _ (by omega)) (g1 _ (by omega)) (g1 _ (by omega)), l3⟩
/-- the class does an act: its head -/
theorem s_doHead {z : zZ} {d s i m : Nat} {μ : Mu} (hd : 1 ≤ d) (hs : s < 2) (h36 : μ 36 3 = (m : Int)) (hi : i < m) : mC z (d + 1) 70 [(2, 0), (0, (s : Int)), (0, (i : Int))] μ = f_W_doAct_24 z d (s : Int) (i : Int) μ := by
  rw [c_W_doAct, s_isSide hd]
  simp -implicitDefEqProofs only [ob]
  rw [cB, cT (by omega), cF (by omega), cT (by omega)]
theorem s_doKind {z : zZ} {d s i m N : Nat} {K A : Int} {μ : Mu} (hd : 2 ≤ d) (hs : s < 2) (hm : m ≤ 12) (h36 : μ 36 3 = (m : Int)) (hi : i < m) (hK : μ 37 i = K) (hA : μ 38 i = A) (hn : μ (4 + 9 * s) 6 = (N : Int)) (h12 : N ≤ 12) : mC z (d + 1) 70 [(2, 0), (0, (s : Int)), (0, (i : Int))] μ = (bif decide (K = 43) then (f_W_doAct_108 z d (4 + 9 * s) (fst1 (fun w => decide (μ (4 + 9 * s + 4) w = A)) N) μ) else bif decide (K = 45) then (f_W_doAct_115 z d (4 + 9 * s) (fst1 (fun w => decide (μ (4 + 9 * s + 4) w = A)) N) μ) else bif decide (K = 62) then (f_W_doAct_145 z d (s : Int) (i : Int) (4 + 9 * (1 - s)) (fst1 (fun w => decide (μ (4 + 9 * s + 4) w = A)) N) μ) else bif decide (K = 126) then (f_W_doAct_122 z d (i : Int) (4 + 9 * s) (fst1 (fun w => decide (μ (4 + 9 * s + 4) w = A)) N) μ) else (f_W_doAct_167 z d (i : Int) (4 + 9 * s) (4 + 9 * (1 - s)) μ)) := by
  subst hK
  rw [s_doHead (by omega) hs h36 hi, e_W_doAct_24 _ _ _ _ _ (by omega), gI_ok (by omega) (by omega), Int.toNat_natCast, Int.toNat_natCast, z1s hs, Int.toNat_natCast, s_find hd (o9 hs) hn h12, hA]
  simp -implicitDefEqProofs only [ob]
  rw [gI_ok (by omega) (by omega)]
theorem t_doHead {z : zZ} {d s i N : Nat} {K A O : Int} {W : Row} {L : Nat → Nat} {ρ : Mu} (hd : 3 ≤ d) (hs : s < 2) (hi : i < 12) (hR : rA ρ i K A O) (hK : K = 43 ∨ K = 45 ∨ K = 126 ∨ K = 62 ∨ K = 63) (hx : lexR ρ (if K = 63 then 1 - s else s) N W L) : mC z (d + 1) 233 [(2, 86), (0, (s : Int)), (0, (i : Int))] ρ = if fst1 (fun w => decide (W w = A)) N = -1 then some (0, ρ) else f_M_does_51 z d (s : Int) (i : Int) (kc K) (((if K = 63 then 1 - s else s : Nat)) : Int) (fst1 (fun w => decide (W w = A)) N) ρ := by
  obtain ⟨h1, ⟨l, l1, l2, l3, _⟩, _⟩ := hR
  have h19 : f_M_does_19 z d (s : Int) (i : Int) (kc K) (((if K = 63 then 1 - s else s : Nat)) : Int) ρ = if fst1 (fun w => decide (W w = A)) N = -1 then some (0, ρ) else f_M_does_51 z d (s : Int) (i : Int) (kc K) (((if K = 63 then 1 - s else s : Nat)) : Int) (fst1 (fun w => decide (W w = A)) N) ρ := by
    have hw := t_wordIn (z := z) (d := d) (by omega) (by split <;> omega) hx ia112 (by have := l3.1.2.1; omega) (by omega) l3
    rw [show ((112 : Nat) : Int) = 112 from rfl] at hw
    rw [e_M_does_19, gI_ok (by omega) (by omega), Int.toNat_natCast, l2, z8 (by omega), hw]
    simp -implicitDefEqProofs only [ob]
    by_cases h : fst1 (fun w => decide (W w = A)) N = -1
    · rw [nT h, if_pos h]
    · rw [nF h, if_neg h]
  rw [c_M_does, gI_ok (by omega) (by omega), Int.toNat_natCast, h1]
  rcases hK with h | h | h | h | h
  · subst h
    rw [nF (by decide)]
    exact h19
  · subst h
    rw [nF (by decide)]
    exact h19
  · subst h
    rw [nF (by decide)]
    exact h19
  · subst h
    rw [nF (by decide)]
    exact h19
  · subst h
    rw [nT (by decide), z1s hs]
    exact h19
