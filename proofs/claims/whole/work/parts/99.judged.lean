/-! orders and judged, whole calls -/
def GO (z : zZ) (d d' : Nat) (ic ir : Nat) (ac ar : List (Nat × Int)) (μ ρ : Mu) (Q : Mu → Mu → Prop) : Prop := ∃ (r : Int) (M P : Mu), mC z d ic ((2, 0) :: ac) μ = some (r, M) ∧ mC z d' ir ((2, 86) :: ar) ρ = some (r, P) ∧ Q M P ∧ KF μ M ∧ KR ρ P
theorem KF_acts {μ M : Mu} (h : ∀ a, a ≠ 1 → a ≠ 36 → a ≠ 37 → a ≠ 38 → a ≠ 39 → M a = μ a) : KF μ M := ⟨fun a p q => h a (by omega) (by omega) (by omega) (by omega) (by omega), fun k _ _ => by rw [h 0 (by omega) (by omega) (by omega) (by omega) (by omega)], fun a p => h a (by omega) (by omega) (by omega) (by omega) (by omega)⟩
theorem KR_acts {ρ P : Mu} (h : ∀ a, a ≠ 86 → (a < 111 ∨ 117 < a) → P a = ρ a) (h2 : ∀ k, k ≠ 9 → k ≠ 10 → k ≠ 11 → k ≠ 12 → k ≠ 13 → k ≠ 48 → P 86 k = ρ 86 k) : KR ρ P := ⟨fun a p => h a (by omega) (by omega), fun k p => h2 k (by omega) (by omega) (by omega) (by omega) (by omega) (by omega), fun a p => h a (by omega) (by omega)⟩
theorem readActs_no {z : zZ} {d : Nat} {v1 v2 : Int} {sz : Nat} {μ : Mu} (hd : 3 ≤ d) (h1 : μ 1 1 = (sz : Int)) (h : ¬ ((v1 = 0 ∨ v1 = 1) ∧ 1 ≤ v2 ∧ v2 ≤ 160 ∧ v2 ≤ sz)) : mC z d 64 [(2, 0), (0, v1), (0, v2)] μ = some (-1, μ) := by
  obtain ⟨e, rfl, he⟩ := pred_of hd
  rw [c_W_readActs, s_isSide (by omega), e_W_readActs_22]
  simp -implicitDefEqProofs only [ob]
  rw [cB]
  by_cases hv : v1 = 0 ∨ v1 = 1
  · rw [cT hv, s_holdsText (by omega) h1]
    simp -implicitDefEqProofs only [ob]
    rw [nB, cF (by omega), e_W_readActs_22]
  · rw [cF hv]
theorem orders_both {z : zZ} {d d' wl : Nat} {v1 v2 : Int} {μ ρ : Mu} {N F : Nat → Nat} {L : Nat → Nat → Nat} (hd : 10 ≤ d) (hd' : 10 ≤ d') (hB : BT μ ρ N F L wl) (hT : TI μ ρ) : GO z d d' 63 227 [(0, v1), (0, v2)] [(0, v1), (0, v2)] μ ρ (fun M P => (∃ F', BT M P N F' L wl) ∧ TI M P) := by
  obtain ⟨e, rfl, he⟩ := pred_of (k := 9) hd
  obtain ⟨e', rfl, he'⟩ := pred_of (k := 9) hd'
  obtain ⟨sz, hsz, h1, h9, hb⟩ := id hT
  unfold GO
  rw [c_W_orders, c_M_orders, t_isSide (by omega)]
  simp -implicitDefEqProofs only [ob]
  rw [cB, e_M_orders_26]
  by_cases h : (v1 = 0 ∨ v1 = 1) ∧ 1 ≤ v2 ∧ v2 ≤ 160 ∧ v2 ≤ sz
  · obtain ⟨s, rfl, hs⟩ : ∃ s : Nat, v1 = (s : Int) ∧ s < 2 := ⟨v1.toNat, by omega, by omega⟩
    obtain ⟨n, rfl⟩ : ∃ n : Nat, v2 = (n : Int) := ⟨v2.toNat, by omega⟩
    rw [cT h.1, t_in (by omega)]
    simp -implicitDefEqProofs only [ob]
    rw [cB, cT (by omega), cT (by omega)]
    obtain ⟨M, P, m1, m2, p1, p2, p3, hB1, hc⟩ := acts_both (z := z) (d := e) (d' := e') (by omega) (by omega) hB hs (by omega) (by omega) sz hsz h1 h9 hb (by omega)
    have hT1 : TI M P := ⟨0, by omega, m2, p3, tpe_congr (by rw [m1 2 (by omega) (by omega) (by omega) (by omega) (by omega)]; exact hb) (p1 93 (by omega) (by omega))⟩
    rcases hc with ⟨f, hneg, q1, q2, q3⟩ | ⟨m, q1, q2, hm, hA⟩
    · rw [q1, q2]
      simp -implicitDefEqProofs only [ob]
      rw [cF (by omega), nTt, q3]
      exact ⟨f, M, P, rfl, rfl, ⟨⟨F, hB1⟩, hT1⟩, KF_acts m1, KR_acts p1 p2⟩
    · rw [q1, q2]
      simp -implicitDefEqProofs only [ob]
      rw [cTt, nF (by decide), e_M_orders_41]
      obtain ⟨D, M2, P2, F', r1, r2, r3, r4, r5⟩ := orders_go (z := z) (d := e) (d' := e') (by omega) (by omega) hs m 0 0 M P N F L rfl (Nat.le_refl _) hB1 hA
      simp -implicitDefEqProofs only [Int.natCast_zero] at r1 r2
      rw [r1, r2]
      refine ⟨_, M2, P2, rfl, rfl, ⟨⟨F', r3⟩, 0, by omega, ?_, ?_, ?_⟩, KF_trans (KF_acts m1) (KF_CF r4), KR_trans (KR_acts p1 p2) (KR_RF r5)⟩
      · rw [r4.1 1 (by omega) (by omega) (by omega) (by omega) (by omega) (by omega) (by omega) (by omega) (by omega) (by omega)]; exact m2
      · rw [r5.2 9 (by omega) (by omega) (by omega)]; exact p3
      · rw [r4.1 2 (by omega) (by omega) (by omega) (by omega) (by omega) (by omega) (by omega) (by omega) (by omega) (by omega)]
        obtain ⟨_, _, _, _, hb1⟩ := hT1
        exact tpe_congr hb1 (r5.1 93 (by omega) (by omega) (by omega) (by omega) (by omega) (by omega) (by omega))
  · refine ⟨-1, μ, ρ, ?_, ?_, ⟨⟨F, hB⟩, hT⟩, KF_refl μ, KR_refl ρ⟩
    · rw [readActs_no (by omega) h1 h]
      simp -implicitDefEqProofs only [ob]
      rw [cF (by decide)]
    · by_cases hv : v1 = 0 ∨ v1 = 1
      · rw [cT hv, t_in (by omega)]
        simp -implicitDefEqProofs only [ob]
        rw [cB, e_M_orders_26]
        by_cases h2 : 1 ≤ v2 ∧ v2 ≤ 160
        · rw [cT h2, cF (by omega)]
        · rw [cF h2]
      · rw [cF hv]
/-- a side's field and letters come back as they were -/
theorem nwF_id {f N : Nat} {W : Row} (hf : f < 2 ^ N) (hd : ∀ v w, v < N → w < N → W v = W w → v = w) : nwF f W W N N = f := by
  apply Nat.eq_of_testBit_eq
  intro i
  unfold nwF
  rw [bset_bit]
  by_cases hi : i < N
  · have h1 : fst1 (fun w => decide (W w = W i)) N = (i : Int) := fst1_eq hi (decide_eq_true rfl) (fun v hv h => hd v i hv hi (of_decide_eq_true h))
    rw [h1, Int.toNat_natCast, decide_eq_true hi]
    have : decide ((i : Int) ≠ -1) = true := decide_eq_true (by omega)
    rw [this]
    rfl
  · have h2 : f.testBit i = false := by
      cases h : f.testBit i
      · rfl
      · exact absurd (bit_lt hf h) hi
    rw [h2, decide_eq_false hi]
    rfl
theorem hmW_id {h : Row} {f N b : Nat} {W : Row} (hd : ∀ v w, v < N → w < N → W v = W w → v = w) : ∀ w, w ≤ N → hmW h f W W N b w = h := by
  intro w
  induction w with
  | zero => intro _; rfl
  | succ w ih =>
    intro hw
    have h1 : fst1 (fun v => decide (W v = W w)) N = (w : Int) := fst1_eq (by omega) (decide_eq_true rfl) (fun v hv h => hd v w hv (by omega) (of_decide_eq_true h))
    unfold hmW
    rw [h1, if_neg (by omega)]
    exact ih (by omega)
theorem ld_id {h st W : Row} {f N b : Nat} (hf : f < 2 ^ N) (hd : ∀ v w, v < N → w < N → W v = W w → v = w) : ldF W (stB st f W N) N (cnt f.testBit N) = f ∧ ldH h W (stB st f W N) N b (cnt f.testBit N) = h := ⟨by rw [ldF_nwF hd hd, nwF_id hf hd], by rw [ldH_hmW N (Nat.le_refl _), hmW_id hd N (Nat.le_refl _)]⟩
theorem cnt_N {f N : Nat} (hf : f < 2 ^ N) (hN : N ≤ 12) : cnt f.testBit 12 = cnt f.testBit N := cnt_ext hN (fun k hk => by
  cases h : f.testBit k
  · rfl
  · have := bit_lt hf h; omega)
def svd (μ : Mu) (o c N f : Nat) (M : Mu) : Prop := M (c + 1) = cpy (μ (o + 3)) (μ (c + 1)) 36 ∧ M (c + 2) = stB (μ (c + 2)) f (μ (o + 4)) N ∧ M c 2 = ((cnt f.testBit N : Nat) : Int)
theorem jud_go {z : zZ} {d d' s m wl : Nat} {dr : Int} (hd : 9 ≤ d) (hd' : 9 ≤ d') (hs : s < 2) : ∀ (j i : Nat) (μ ρ : Mu) (N F : Nat → Nat) (L : Nat → Nat → Nat), j + i = m → BT μ ρ N F L wl → AR μ ρ m → ∃ (D : Nat) (M P : Mu) (F' : Nat → Nat), f_W_judged_52 z d (s : Int) dr (i : Int) μ = f_W_judged_80 z d dr (D : Int) M ∧ f_M_judged_47 z d' (s : Int) (i : Int) ρ = f_M_judged_71 z d' (D : Int) P ∧ BT M P N F' L wl ∧ CF μ M ∧ RFm ρ P := by
  intro j
  induction j with
  | zero =>
    intro i μ ρ N F L hj hB hA
    refine ⟨i, μ, ρ, F, ?_, ?_, hB, CF_refl μ, RFm_refl ρ⟩
    · rw [e_W_judged_52, hA.2.1, cT (by omega)]
    · rw [e_M_judged_47, hA.2.2.1, cT (by omega)]
  | succ j ih =>
    intro i μ ρ N F L hj hB hA
    have hm := hA.1
    obtain ⟨k1, k2⟩ := hA.2.2.2 i (by omega)
    obtain ⟨r, M1, P1, F1, c1, c2, c3, c4, c5⟩ := act_step (z := z) (d := d) (d' := d') hd hd' hB hs hA.1 hA.2.1 (by omega) rfl rfl rfl k2 k1
    have hA1 := AR_keep hA c4 c5
    rw [e_W_judged_52, hA.2.1, cF (by omega), c1, e_M_judged_47, hA.2.2.1, cF (by omega), c2]
    simp -implicitDefEqProofs only [ob]
    rw [cB, cB, zwc (by omega)]
    cases r
    · exact ⟨i, M1, P1, F1, rfl, rfl, c3, c4, c5⟩
    · obtain ⟨D, M, P, F', q1, q2, q3, q4, q5⟩ := ih (i + 1) M1 P1 N F1 L (by omega) c3 hA1
      exact ⟨D, M, P, F', q1, q2, q3, CF_trans c4 q4, RFm_trans c5 q5⟩
