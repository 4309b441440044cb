/-! orders and judged, whole calls -/
def GO (z : zZ) (d d' : Nat) (ic ir : Nat) (ac ar : List (Nat × Int)) (μ ρ : Mu) (Q : Mu → Mu → Prop) : Prop := ∃ (r : Int) (M P : Mu), mC z d ic ((2, 0) :: ac) μ = some (r, M) ∧ mC z d' ir ((2, 86) :: ar) ρ = some (r, P) ∧ Q M P ∧ KF μ M ∧ KR ρ P
theorem KF_acts {μ M : Mu} (h : ∀ a, a ≠ 1 → a ≠ 36 → a ≠ 37 → a ≠ 38 → a ≠ 39 → M a = μ a) : KF μ M := ⟨fun a p q => h a (by omega) (by omega) (by omega) (by omega) (by omega), fun k _ _ => by rw [h 0 (by omega) (by omega) (by omega) (by omega) (by omega)], fun a p => h a (by omega) (by omega) (by omega) (by omega) (by omega)⟩
theorem KR_acts {ρ P : Mu} (h : ∀ a, a ≠ 86 → (a < 111 ∨ 117 < a) → P a = ρ a) (h2 : ∀ k, k ≠ 9 → k ≠ 10 → k ≠ 11 → k ≠ 12 → k ≠ 13 → k ≠ 48 → P 86 k = ρ 86 k) : KR ρ P := ⟨fun a p => h a (by omega) (by omega), fun k p => h2 k (by omega) (by omega) (by omega) (by omega) (by omega) (by omega), fun a p => h a (by omega) (by omega)⟩
theorem readActs_no {z : zZ} {d : Nat} {v1 v2 : Int} {sz : Nat} {μ : Mu} (hd : 3 ≤ d) (h1 : μ 1 1 = (sz : Int)) (h : ¬ ((v1 = 0 ∨ v1 = 1) ∧ 1 ≤ v2 ∧ v2 ≤ 160 ∧ v2 ≤ sz)) : mC z d 64 [(2, 0), (0, v1), (0, v2)] μ = some (-1, μ) := by
  obtain ⟨e, rfl, he⟩ := pred_of hd
  rw [c_W_readActs, s_isSide (by omega)]
  simp -implicitDefEqProofs only [ob]
  rw [cB, e_W_readActs_22]
  by_cases hv : v1 = 0 ∨ v1 = 1
  · rw [cT hv, s_holdsText (by omega) h1]
    simp -implicitDefEqProofs only [ob]
    rw [nB, cF (by omega), e_W_readActs_22]
  · rw [cF hv]
theorem orders_both {z : zZ} {d d' wl : Nat} {v1 v2 : Int} {μ ρ : Mu} {N F : Nat → Nat} {L : Nat → Nat → Nat} (hd : 10 ≤ d) (hd' : 10 ≤ d') (hB : BT μ ρ N F L wl) (hT : TI μ ρ) : GO z d d' 63 227 [(0, v1), (0, v2)] [(0, v1), (0, v2)] μ ρ (fun M P => (∃ F', BT M P N F' L wl) ∧ TI M P) := by
  obtain ⟨e, rfl, he⟩ := pred_of (k := 9) hd
  obtain ⟨e', rfl, he'⟩ := pred_of (k := 9) hd'
  obtain ⟨sz, hsz, h1, h9, hb⟩ := id hT
  unfold GO
  rw [c_W_orders, c_M_orders, t_isSide (by omega)]
  simp -implicitDefEqProofs only [ob]
  rw [cB, e_M_orders_26]
  by_cases h : (v1 = 0 ∨ v1 = 1) ∧ 1 ≤ v2 ∧ v2 ≤ 160 ∧ v2 ≤ sz
  · obtain ⟨s, rfl, hs⟩ : ∃ s : Nat, v1 = (s : Int) ∧ s < 2 := ⟨v1.toNat, by omega, by omega⟩
    obtain ⟨n, rfl⟩ : ∃ n : Nat, v2 = (n : Int) := ⟨v2.toNat, by omega⟩
    rw [cT h.1, t_in (by omega)]
    simp -implicitDefEqProofs only [ob]
    rw [cB, cT (by omega), cT (by omega)]
    obtain ⟨M, P, m1, m2, p1, p2, p3, hB1, hc⟩ := acts_both (z := z) (d := e) (d' := e') (n := n) (by omega) (by omega) hB hs (by omega) (by omega) sz hsz h1 h9 hb (by omega)
    have hT1 : TI M P := ⟨0, by omega, m2, p3, tpe_congr (by rw [m1 2 (by omega) (by omega) (by omega) (by omega) (by omega)]; exact hb) (p1 93 (by omega) (by omega))⟩
    rcases hc with ⟨f, hneg, q1, q2, q3⟩ | ⟨m, q1, q2, hm, hA⟩
    · rw [q1, q2]
      simp -implicitDefEqProofs only [ob]
      rw [cF (by omega), nTt, q3]
      exact ⟨f, M, P, rfl, rfl, ⟨⟨F, hB1⟩, hT1⟩, KF_acts m1, KR_acts p1 p2⟩
    · rw [q1, q2]
      simp -implicitDefEqProofs only [ob]
      rw [cTt, nF (by decide), e_M_orders_41]
      obtain ⟨D, M2, P2, F', r1, r2, r3, r4, r5⟩ := orders_go (z := z) (d := e) (d' := e') (by omega) (by omega) hs m 0 0 M P N F L rfl (Nat.le_refl _) hB1 hA
      simp -implicitDefEqProofs only [Int.natCast_zero] at r1 r2
      rw [r1, r2]
      refine ⟨_, M2, P2, rfl, rfl, ⟨⟨F', r3⟩, 0, by omega, ?_, ?_, ?_⟩, KF_trans (KF_acts m1) (KF_CF r4), KR_trans (KR_acts p1 p2) (KR_RF r5)⟩
      · rw [r4.1 1 (by omega) (by omega) (by omega) (by omega) (by omega) (by omega) (by omega) (by omega) (by omega) (by omega)]; exact m2
      · rw [r5.2 9 (by omega) (by omega) (by omega)]; exact p3
      · rw [r4.1 2 (by omega) (by omega) (by omega) (by omega) (by omega) (by omega) (by omega) (by omega) (by omega) (by omega)]
        obtain ⟨_, _, _, _, hb1⟩ := hT1
        exact tpe_congr hb1 (r5.1 93 (by omega) (by omega) (by omega) (by omega) (by omega) (by omega) (by omega))
  · refine ⟨-1, μ, ρ, ?_, ?_, ⟨⟨F, hB⟩, hT⟩, KF_refl μ, KR_refl ρ⟩
    · rw [readActs_no (by omega) h1 h]
      simp -implicitDefEqProofs only [ob]
      rw [cF (by decide)]
    · by_cases hv : v1 = 0 ∨ v1 = 1
      · rw [cT hv, t_in (by omega)]
        simp -implicitDefEqProofs only [ob]
        rw [cB, e_M_orders_26]
        by_cases h2 : 1 ≤ v2 ∧ v2 ≤ 160
        · rw [cT h2, cF (by omega)]
        · rw [cF h2]
      · rw [cF hv]
/-- a side's field and letters come back as they were -/
theorem nwF_id {f N : Nat} {W : Row} (hf : f < 2 ^ N) (hd : ∀ v w, v < N → w < N → W v = W w → v = w) : nwF f W W N N = f := by
  apply Nat.eq_of_testBit_eq
  intro i
  unfold nwF
  rw [bset_bit]
  by_cases hi : i < N
  · have h1 : fst1 (fun w => decide (W w = W i)) N = (i : Int) := fst1_eq hi (decide_eq_true rfl) (fun v hv h => hd v i hv hi (of_decide_eq_true h))
    rw [h1, Int.toNat_natCast, decide_eq_true hi]
    have : decide ((i : Int) ≠ -1) = true := decide_eq_true (by omega)
    rw [this]
    rfl
  · have h2 : f.testBit i = false := by
      cases h : f.testBit i
      · rfl
      · exact absurd (bit_lt hf h) hi
    rw [h2, decide_eq_false hi]
    rfl
theorem hmW_id {h : Row} {f N b : Nat} {W : Row} (hd : ∀ v w, v < N → w < N → W v = W w → v = w) : ∀ w, w ≤ N → hmW h f W W N b w = h := by
  intro w
  induction w with
  | zero => intro _; rfl
  | succ w ih =>
    intro hw
    have h1 : fst1 (fun v => decide (W v = W w)) N = (w : Int) := fst1_eq (by omega) (decide_eq_true rfl) (fun v hv h => hd v w hv (by omega) (of_decide_eq_true h))
    unfold hmW
    rw [h1, if_neg (by omega)]
    exact ih (by omega)
theorem ld_id {h st W : Row} {f N b : Nat} (hf : f < 2 ^ N) (hd : ∀ v w, v < N → w < N → W v = W w → v = w) : ldF W (stB st f W N) N (cnt f.testBit N) = f ∧ ldH h W (stB st f W N) N b (cnt f.testBit N) = h := ⟨by rw [ldF_nwF hd hd, nwF_id hf hd], by rw [ldH_hmW N (Nat.le_refl _), hmW_id hd N (Nat.le_refl _)]⟩
theorem cnt_N {f N : Nat} (hf : f < 2 ^ N) (hN : N ≤ 12) : cnt f.testBit 12 = cnt f.testBit N := cnt_ext hN (fun k hk => by
  cases h : f.testBit k
  · rfl
  · have := bit_lt hf h; omega)
def svd (μ : Mu) (o c N f : Nat) (M : Mu) : Prop := M (c + 1) = cpy (μ (o + 3)) (μ (c + 1)) 36 ∧ M (c + 2) = stB (μ (c + 2)) f (μ (o + 4)) N ∧ M c 2 = ((cnt f.testBit N : Nat) : Int)
theorem jud_go {z : zZ} {d d' s m wl : Nat} {dr : Int} (hd : 9 ≤ d) (hd' : 9 ≤ d') (hs : s < 2) : ∀ (j i : Nat) (μ ρ : Mu) (N F : Nat → Nat) (L : Nat → Nat → Nat), j + i = m → BT μ ρ N F L wl → AR μ ρ m → ∃ (D : Nat) (M P : Mu) (F' : Nat → Nat), f_W_judged_52 z d (s : Int) dr (i : Int) μ = f_W_judged_80 z d dr (D : Int) M ∧ f_M_judged_47 z d' (s : Int) (i : Int) ρ = f_M_judged_71 z d' (D : Int) P ∧ BT M P N F' L wl ∧ CF μ M ∧ RFm ρ P := by
  intro j
  induction j with
  | zero =>
    intro i μ ρ N F L hj hB hA
    refine ⟨i, μ, ρ, F, ?_, ?_, hB, CF_refl μ, RFm_refl ρ⟩
    · rw [e_W_judged_52, hA.2.1, cT (by omega)]
    · rw [e_M_judged_47, hA.2.2.1, cT (by omega)]
  | succ j ih =>
    intro i μ ρ N F L hj hB hA
    have hm := hA.1
    obtain ⟨k1, k2⟩ := hA.2.2.2 i (by omega)
    obtain ⟨r, M1, P1, F1, c1, c2, c3, c4, c5⟩ := act_step (z := z) (d := d) (d' := d') hd hd' hB hs hA.1 hA.2.1 (by omega) rfl rfl rfl k2 k1
    have hA1 := AR_keep hA c4 c5
    rw [e_W_judged_52, hA.2.1, cF (by omega), c1, e_M_judged_47, hA.2.2.1, cF (by omega), c2]
    simp -implicitDefEqProofs only [ob]
    rw [cB, cB, zwc (by omega)]
    cases r
    · exact ⟨i, M1, P1, F1, rfl, rfl, c3, c4, c5⟩
    · obtain ⟨D, M, P, F', q1, q2, q3, q4, q5⟩ := ih (i + 1) M1 P1 N F1 L (by omega) c3 hA1
      exact ⟨D, M, P, F', q1, q2, q3, CF_trans c4 q4, RFm_trans c5 q5⟩
theorem judged_both {z : zZ} {d d' wl : Nat} {v1 v2 : Int} {μ ρ : Mu} {N F : Nat → Nat} {L : Nat → Nat → Nat} (hd : 10 ≤ d) (hd' : 10 ≤ d') (hB : BT μ ρ N F L wl) (hT : TI μ ρ) : GO z d d' 96 251 [(0, v1), (0, v2)] [(0, v1), (0, v2)] μ ρ (fun M P => BT M P N F L wl ∧ TI M P) := by
  obtain ⟨e, rfl, he⟩ := pred_of (k := 9) hd
  obtain ⟨e', rfl, he'⟩ := pred_of (k := 9) hd'
  obtain ⟨sz, hsz, h1, h9, hb⟩ := id hT
  unfold GO
  rw [c_W_judged, c_M_judged, t_isSide (by omega)]
  simp -implicitDefEqProofs only [ob]
  rw [cB, e_M_judged_26]
  by_cases h : (v1 = 0 ∨ v1 = 1) ∧ 1 ≤ v2 ∧ v2 ≤ 160 ∧ v2 ≤ sz
  · obtain ⟨s, rfl, hs⟩ : ∃ s : Nat, v1 = (s : Int) ∧ s < 2 := ⟨v1.toNat, by omega, by omega⟩
    obtain ⟨n, rfl⟩ : ∃ n : Nat, v2 = (n : Int) := ⟨v2.toNat, by omega⟩
    rw [cT h.1, t_in (by omega)]
    simp -implicitDefEqProofs only [ob]
    rw [cB, cT (by omega), cT (by omega)]
    obtain ⟨M, P, m1, m2, p1, p2, p3, hB1, hc⟩ := acts_both (z := z) (d := e) (d' := e') (n := n) (by omega) (by omega) hB hs (by omega) (by omega) sz hsz h1 h9 hb (by omega)
    have hT1 : TI M P := ⟨0, by omega, m2, p3, tpe_congr (by rw [m1 2 (by omega) (by omega) (by omega) (by omega) (by omega)]; exact hb) (p1 93 (by omega) (by omega))⟩
    rcases hc with ⟨f, hneg, q1, q2, q3⟩ | ⟨m, q1, q2, hm, hA⟩
    · rw [q1, q2]
      simp -implicitDefEqProofs only [ob]
      rw [cF (by omega), nTt, q3]
      exact ⟨f, M, P, rfl, rfl, ⟨hB1, hT1⟩, KF_acts m1, KR_acts p1 p2⟩
    · rw [q1, q2]
      simp -implicitDefEqProofs only [ob]
      rw [cTt, nF (by decide), e_M_judged_41]
      obtain ⟨a1, a2, a3, a4, a5, a6, a7, a8, a9, a10, a11, a12⟩ := hB1.1 0 (by omega)
      obtain ⟨i1, i2, i3, i4, i5, i6, i7, i8, i9, i10, i11, i12⟩ := hB1.1 1 (by omega)
      have f0 := f4096 a4 a2
      have f1 := f4096 i4 i2
      obtain ⟨h90, h91, h92⟩ := hB1.2.2.2.2.1
      obtain ⟨⟨g1, g2, g3, g4⟩, _⟩ := hB1.2.2
      -- the class saves
      have s1 := s_saveTo (z := z) (d := e) (o := 4) (c := 80) (μ := M) (by omega) (Or.inl rfl) (Or.inr (Or.inr (Or.inr (Or.inr (Or.inl rfl))))) a1 a2 a3 f0 a5
      rw [show ((4 : Nat) : Int) = 4 from rfl, show ((80 : Nat) : Int) = 80 from rfl] at s1
      rw [s1]
      simp -implicitDefEqProofs only [ob]
      generalize hX : zrow (zrow (zrow M (80 + 1) (cpy (M (4 + 3)) (M (80 + 1)) 36)) (80 + 2) (stB (M (80 + 2)) (F 0) (M (4 + 4)) (N 0))) 80 (rup (M 80) 2 ((cnt (F 0).testBit (N 0) : Nat) : Int)) = X
      have xr : ∀ a, a ≠ 80 → a ≠ 81 → a ≠ 82 → X a = M a := fun a q1 q2 q3 => by subst hX; rw [zrow_ne q1, zrow_ne q3, zrow_ne q2]
      have x81 : X 81 = cpy (M 7) (M 81) 36 := by subst hX; rw [zrow_ne (by omega), zrow_ne (by omega), zrow_same]
      have x82 : X 82 = stB (M 82) (F 0) (M 8) (N 0) := by subst hX; rw [zrow_ne (by omega), zrow_same]
      have x80 : X 80 2 = ((cnt (F 0).testBit (N 0) : Nat) : Int) := by subst hX; rw [zrow_same, rup_same]
      clear hX
      have s2 := s_saveTo (z := z) (d := e) (o := 13) (c := 83) (N := N 1) (f := F 1) (μ := X) (by omega) (Or.inr rfl) (Or.inr (Or.inr (Or.inr (Or.inr (Or.inr rfl))))) (by rw [xr 13 (by omega) (by omega) (by omega)]; exact i1) i2 (by rw [xr 13 (by omega) (by omega) (by omega)]; exact i3) f1 i5
      rw [show ((13 : Nat) : Int) = 13 from rfl, show ((83 : Nat) : Int) = 83 from rfl] at s2
      rw [s2]
      simp -implicitDefEqProofs only [ob]
      generalize hY : zrow (zrow (zrow X (83 + 1) (cpy (X (13 + 3)) (X (83 + 1)) 36)) (83 + 2) (stB (X (83 + 2)) (F 1) (X (13 + 4)) (N 1))) 83 (rup (X 83) 2 ((cnt (F 1).testBit (N 1) : Nat) : Int)) = Y
      have yr' : ∀ a, a ≠ 83 → a ≠ 84 → a ≠ 85 → Y a = X a := fun a q1 q2 q3 => by subst hY; rw [zrow_ne q1, zrow_ne q3, zrow_ne q2]
      have y84 : Y 84 = cpy (M 16) (M 84) 36 := by subst hY; rw [zrow_ne (by omega), zrow_ne (by omega), zrow_same, xr 16 (by omega) (by omega) (by omega), xr 84 (by omega) (by omega) (by omega)]
      have y85 : Y 85 = stB (M 85) (F 1) (M 17) (N 1) := by subst hY; rw [zrow_ne (by omega), zrow_same, xr 85 (by omega) (by omega) (by omega), xr 17 (by omega) (by omega) (by omega)]
      have y83 : Y 83 2 = ((cnt (F 1).testBit (N 1) : Nat) : Int) := by subst hY; rw [zrow_same, rup_same]
      clear hY
      have yr : ∀ a, a < 80 ∨ 85 < a → Y a = M a := fun a q => by rw [yr' a (by omega) (by omega) (by omega)]; exact xr a (by omega) (by omega) (by omega)
      have y81 : Y 81 = cpy (M 7) (M 81) 36 := by rw [yr' 81 (by omega) (by omega) (by omega)]; exact x81
      have y82 : Y 82 = stB (M 82) (F 0) (M 8) (N 0) := by rw [yr' 82 (by omega) (by omega) (by omega)]; exact x82
      have y80 : Y 80 2 = ((cnt (F 0).testBit (N 0) : Nat) : Int) := by rw [yr' 80 (by omega) (by omega) (by omega)]; exact x80
      -- the reference saves
      obtain ⟨e'', rfl, he''⟩ := pred_of (k := 8) he'
      rw [c_M_begins]
      generalize hZ : zup (zup (zup P 86 53 (P 86 0)) 86 54 (P 86 16)) 86 55 (P 86 17) = Z
      have z53 : Z 86 53 = P 86 0 := by subst hZ; rw [zup_nk (by omega), zup_nk (by omega)]; exact zup_hit
      have z54 : Z 86 54 = P 86 16 := by subst hZ; rw [zup_nk (by omega)]; exact zup_hit
      have z55 : Z 86 55 = P 86 17 := by subst hZ; exact zup_hit
      have zr : ∀ a, a ≠ 86 → Z a = P a := fun a q => by subst hZ; rw [zup_ro q, zup_ro q, zup_ro q]
      have zk : ∀ k, k ≠ 53 → k ≠ 54 → k ≠ 55 → Z 86 k = P 86 k := fun k q1 q2 q3 => by subst hZ; rw [zup_nk q3, zup_nk q2, zup_nk q1]
      clear hZ
      have ia119 : iar 119 24 := ⟨⟨by decide, rfl⟩, rfl⟩
      have ia120 : iar 120 24 := ⟨⟨by decide, rfl⟩, rfl⟩
      have ia121 : iar 121 24 := ⟨⟨by decide, rfl⟩, rfl⟩
      have t1 := t_copies (z := z) (d := e'') (a := 90) (b := 119) (n := 24) (μ := Z) (by omega) ia90 ia119 (by omega) (by omega) (by omega) (by omega)
      rw [show ((90 : Nat) : Int) = 90 from rfl, show ((119 : Nat) : Int) = 119 from rfl, show ((24 : Nat) : Int) = 24 from rfl] at t1
      rw [t1]
      simp -implicitDefEqProofs only [ob]
      have t2 := t_copies (z := z) (d := e'') (a := 91) (b := 120) (n := 24) (μ := zrow Z 119 (cpy (Z 90) (Z 119) 24)) (by omega) ia91 ia120 (by omega) (by omega) (by omega) (by omega)
      rw [show ((91 : Nat) : Int) = 91 from rfl, show ((120 : Nat) : Int) = 120 from rfl, show ((24 : Nat) : Int) = 24 from rfl, zrow_ne (by omega), zrow_ne (by omega)] at t2
      rw [t2]
      simp -implicitDefEqProofs only [ob]
      have t3 := t_copies (z := z) (d := e'') (a := 92) (b := 121) (n := 24) (μ := zrow (zrow Z 119 (cpy (Z 90) (Z 119) 24)) 120 (cpy (Z 91) (Z 120) 24)) (by omega) ia92 ia121 (by omega) (by omega) (by omega) (by omega)
      rw [show ((92 : Nat) : Int) = 92 from rfl, show ((121 : Nat) : Int) = 121 from rfl, show ((24 : Nat) : Int) = 24 from rfl, zrow_ne (by omega), zrow_ne (by omega), zrow_ne (by omega), zrow_ne (by omega)] at t3
      rw [t3]
      simp -implicitDefEqProofs only [ob]
      generalize hV : zrow (zrow (zrow Z 119 (cpy (Z 90) (Z 119) 24)) 120 (cpy (Z 91) (Z 120) 24)) 121 (cpy (Z 92) (Z 121) 24) = V
      have vr : ∀ a, a ≠ 86 → a ≠ 119 → a ≠ 120 → a ≠ 121 → V a = P a := fun a q0 q1 q2 q3 => by subst hV; rw [zrow_ne q3, zrow_ne q2, zrow_ne q1]; exact zr a q0
      have v86 : V 86 = Z 86 := by subst hV; rw [zrow_ne (by omega), zrow_ne (by omega), zrow_ne (by omega)]
      have v119 : ∀ j, j < 24 → V 119 j = P 90 j := fun j hj => by subst hV; rw [zrow_ne (by omega), zrow_ne (by omega), zrow_same]; unfold cpy; rw [if_pos hj, zr 90 (by omega)]
      have v120 : ∀ j, j < 24 → V 120 j = P 91 j := fun j hj => by subst hV; rw [zrow_ne (by omega), zrow_same]; unfold cpy; rw [if_pos hj, zr 91 (by omega)]
      have v121 : ∀ j, j < 24 → V 121 j = P 92 j := fun j hj => by subst hV; rw [zrow_same]; unfold cpy; rw [if_pos hj, zr 92 (by omega)]
      clear hV
      have hB2 : BT Y V N F L wl := bt_congr hB1 (fun a _ _ _ _ _ q => yr a (by omega)) (fun a q1 q2 q3 q4 q5 q6 => vr a (by omega) (by omega) (by omega) (by omega)) (fun k hk => by rw [v86]; exact zk k (by omega) (by omega) (by omega))
      have hA2 : AR Y V m := by
        refine ⟨hA.1, by rw [yr 36 (by omega)]; exact hA.2.1, by rw [v86, zk 48 (by omega) (by omega) (by omega)]; exact hA.2.2.1, fun i hi => ?_⟩
        obtain ⟨k1, k2⟩ := hA.2.2.2 i hi
        rw [yr 37 (by omega), yr 38 (by omega), yr 39 (by omega)]
        refine ⟨k1, ?_⟩
        unfold rA at k2 ⊢
        have r : ∀ a, 111 ≤ a → a ≤ 117 → V a = P a := fun a h1 h2 => vr a (by omega) (by omega) (by omega) (by omega)
        obtain ⟨k3, ⟨l, l1, l2, l3, l4⟩, k5⟩ := k2
        rw [r 111 (by omega) (by omega), r 113 (by omega) (by omega), r 115 (by omega) (by omega), r 116 (by omega) (by omega), r 117 (by omega) (by omega)]
        exact ⟨k3, ⟨l, l1, l2, rwd_congr l3 (fun k _ => by rw [r 112 (by omega) (by omega)]), l4⟩, fun hk => by
          obtain ⟨l', q1, q2, q3⟩ := k5 hk
          exact ⟨l', q1, q2, rwd_congr q3 (fun k _ => by rw [r 114 (by omega) (by omega)])⟩⟩
      obtain ⟨D, R, Q, F', r1, r2, hB3, hC3, hR3⟩ := jud_go (z := z) (d := e) (d' := e'' + 1) (dr := M 0 19) (by omega) (by omega) hs m 0 Y V N F L rfl hB2 hA2
      simp -implicitDefEqProofs only [Int.natCast_zero] at r1 r2
      rw [r1, r2]
      -- the class brings back
      have rr : ∀ a, 80 ≤ a → a ≤ 85 → R a = Y a := fun a q1 q2 => hC3.1 a (by omega) (by omega) (by omega) (by omega) (by omega) (by omega) (by omega) (by omega) (by omega) (by omega)
      have rw8 : R 8 = M 8 ∧ R 17 = M 17 := ⟨by rw [hC3.1 8 (by omega) (by omega) (by omega) (by omega) (by omega) (by omega) (by omega) (by omega) (by omega) (by omega)]; exact yr 8 (by omega), by rw [hC3.1 17 (by omega) (by omega) (by omega) (by omega) (by omega) (by omega) (by omega) (by omega) (by omega) (by omega)]; exact yr 17 (by omega)⟩
      have r46 : R 4 6 = (N 0 : Int) ∧ R 13 6 = (N 1 : Int) := ⟨by rw [(hC3.2.2.1 6 (by omega)).1, yr 4 (by omega)]; exact a1, by rw [(hC3.2.2.1 6 (by omega)).2, yr 13 (by omega)]; exact i1⟩
      have hrR := (hB3.1 0 (by omega)).2.2.2.2.2.1
      have hrR1 := (hB3.1 1 (by omega)).2.2.2.2.2.1
      have hcp : ∀ (h g : Row), hr h → hr g → ∀ g', hr (cpy (cpy h g' 36) g 36) := fun h g q1 q2 g' j => by
        unfold cpy
        by_cases hj : j < 36
        · rw [if_pos hj, if_pos hj]; exact q1 j
        · rw [if_neg hj]; exact q2 j
      have id0 := ld_id (h := cpy (cpy (M 7) (M 81) 36) (R 7) 36) (st := M 82) (W := M 8) (b := 0) a4 a10
      have id1 := ld_id (h := cpy (cpy (M 16) (M 84) 36) (R 16) 36) (st := M 85) (W := M 17) (b := 0) i4 i10
      have c0 := cnt_N a4 a2
      have c1 := cnt_N i4 i2
      have l1 := s_loadFrom (z := z) (d := e) (o := 4) (c := 80) (N := N 0) (m := cnt (F 0).testBit (N 0)) (μ := R) (by omega) (Or.inl rfl) (Or.inr (Or.inr (Or.inr (Or.inr (Or.inl rfl))))) r46.1 a2 (by rw [rr 80 (by omega) (by omega)]; exact y80) (by omega) (by rw [show (80 + 1 : Nat) = 81 from rfl, rr 81 (by omega) (by omega), y81]; exact hcp _ _ a6 hrR _)
      rw [show ((4 : Nat) : Int) = 4 from rfl, show ((80 : Nat) : Int) = 80 from rfl, show (80 + 1 : Nat) = 81 from rfl, show (80 + 2 : Nat) = 82 from rfl, show (4 + 3 : Nat) = 7 from rfl, show (4 + 4 : Nat) = 8 from rfl, rr 81 (by omega) (by omega), rr 82 (by omega) (by omega), y81, y82, rw8.1, id0.1, id0.2] at l1
      rw [e_W_judged_80, l1]
      simp -implicitDefEqProofs only [ob]
      have l2 := s_loadFrom (z := z) (d := e) (o := 13) (c := 83) (N := N 1) (m := cnt (F 1).testBit (N 1)) (μ := zrow (zrow R 7 (cpy (cpy (M 7) (M 81) 36) (R 7) 36)) 4 (rup (R 4) 7 (F 0 : Int))) (by omega) (Or.inr rfl) (Or.inr (Or.inr (Or.inr (Or.inr (Or.inr rfl))))) (by rw [zrow_ne (by omega), zrow_ne (by omega)]; exact r46.2) i2 (by rw [zrow_ne (by omega), zrow_ne (by omega), rr 83 (by omega) (by omega)]; exact y83) (by omega) (by rw [show (83 + 1 : Nat) = 84 from rfl, show (13 + 3 : Nat) = 16 from rfl, zrow_ne (by omega), zrow_ne (by omega), zrow_ne (by omega), zrow_ne (by omega), rr 84 (by omega) (by omega), y84]; exact hcp _ _ i6 hrR1 _)
      rw [show ((13 : Nat) : Int) = 13 from rfl, show ((83 : Nat) : Int) = 83 from rfl, show (83 + 1 : Nat) = 84 from rfl, show (83 + 2 : Nat) = 85 from rfl, show (13 + 3 : Nat) = 16 from rfl, show (13 + 4 : Nat) = 17 from rfl] at l2
      rw [zrow_ne (b := 84) (by omega), zrow_ne (b := 84) (by omega), zrow_ne (b := 85) (by omega), zrow_ne (b := 85) (by omega), zrow_ne (b := 16) (by omega), zrow_ne (b := 16) (by omega), zrow_ne (b := 17) (by omega), zrow_ne (b := 17) (by omega), zrow_ne (b := 13) (by omega), zrow_ne (b := 13) (by omega), rr 84 (by omega) (by omega), rr 85 (by omega) (by omega), y84, y85, rw8.2, id1.1, id1.2] at l2
      rw [l2]
      simp -implicitDefEqProofs only [ob]
      generalize hK : zup (zrow (zrow (zrow (zrow R 7 (cpy (cpy (M 7) (M 81) 36) (R 7) 36)) 4 (rup (R 4) 7 (F 0 : Int))) 16 (cpy (cpy (M 16) (M 84) 36) (R 16) 36)) 13 (rup (R 13) 7 (F 1 : Int))) 0 19 (M 0 19) = K
      have kr : ∀ a, a ≠ 0 → a ≠ 4 → a ≠ 7 → a ≠ 13 → a ≠ 16 → K a = R a := fun a q0 q1 q2 q3 q4 => by subst hK; rw [zup_ro q0, zrow_ne q3, zrow_ne q4, zrow_ne q1, zrow_ne q2]
      have k0 : ∀ k, k ≠ 19 → K 0 k = R 0 k := fun k q => by subst hK; rw [zup_nk q, zrow_ne (by omega), zrow_ne (by omega), zrow_ne (by omega), zrow_ne (by omega)]
      have k19 : K 0 19 = M 0 19 := by subst hK; exact zup_hit
      have k4 : K 4 = rup (R 4) 7 (F 0 : Int) := by subst hK; rw [zup_ro (by omega), zrow_ne (by omega), zrow_ne (by omega), zrow_same]
      have k13 : K 13 = rup (R 13) 7 (F 1 : Int) := by subst hK; rw [zup_ro (by omega), zrow_same]
      have k7 : K 7 = cpy (cpy (M 7) (M 81) 36) (R 7) 36 := by subst hK; rw [zup_ro (by omega), zrow_ne (by omega), zrow_ne (by omega), zrow_ne (by omega), zrow_same]
      have k16 : K 16 = cpy (cpy (M 16) (M 84) 36) (R 16) 36 := by subst hK; rw [zup_ro (by omega), zrow_ne (by omega), zrow_same]
      clear hK
      -- the reference brings back
      rw [e_M_judged_71, c_M_again]
      generalize hZ2 : zup (zup (zup Q 86 0 (Q 86 53)) 86 16 (Q 86 54)) 86 17 (Q 86 55) = Z2
      have y0 : Z2 86 0 = Q 86 53 := by subst hZ2; rw [zup_nk (by omega), zup_nk (by omega)]; exact zup_hit
      have y16 : Z2 86 16 = Q 86 54 := by subst hZ2; rw [zup_nk (by omega)]; exact zup_hit
      have y17 : Z2 86 17 = Q 86 55 := by subst hZ2; exact zup_hit
      have zr2 : ∀ a, a ≠ 86 → Z2 a = Q a := fun a q => by subst hZ2; rw [zup_ro q, zup_ro q, zup_ro q]
      have zk2 : ∀ k, k ≠ 0 → k ≠ 16 → k ≠ 17 → Z2 86 k = Q 86 k := fun k q1 q2 q3 => by subst hZ2; rw [zup_nk q3, zup_nk q2, zup_nk q1]
      clear hZ2
      have u1 := t_copies (z := z) (d := e'') (a := 119) (b := 90) (n := 24) (μ := Z2) (by omega) ia119 ia90 (by omega) (by omega) (by omega) (by omega)
      rw [show ((90 : Nat) : Int) = 90 from rfl, show ((119 : Nat) : Int) = 119 from rfl, show ((24 : Nat) : Int) = 24 from rfl] at u1
      rw [u1]
      simp -implicitDefEqProofs only [ob]
      have u2 := t_copies (z := z) (d := e'') (a := 120) (b := 91) (n := 24) (μ := zrow Z2 90 (cpy (Z2 119) (Z2 90) 24)) (by omega) ia120 ia91 (by omega) (by omega) (by omega) (by omega)
      rw [show ((91 : Nat) : Int) = 91 from rfl, show ((120 : Nat) : Int) = 120 from rfl, show ((24 : Nat) : Int) = 24 from rfl, zrow_ne (by omega), zrow_ne (by omega)] at u2
      rw [u2]
      simp -implicitDefEqProofs only [ob]
      have u3 := t_copies (z := z) (d := e'') (a := 121) (b := 92) (n := 24) (μ := zrow (zrow Z2 90 (cpy (Z2 119) (Z2 90) 24)) 91 (cpy (Z2 120) (Z2 91) 24)) (by omega) ia121 ia92 (by omega) (by omega) (by omega) (by omega)
      rw [show ((92 : Nat) : Int) = 92 from rfl, show ((121 : Nat) : Int) = 121 from rfl, show ((24 : Nat) : Int) = 24 from rfl, zrow_ne (by omega), zrow_ne (by omega), zrow_ne (by omega), zrow_ne (by omega)] at u3
      rw [u3]
      simp -implicitDefEqProofs only [ob]
      generalize hJ : zrow (zrow (zrow Z2 90 (cpy (Z2 119) (Z2 90) 24)) 91 (cpy (Z2 120) (Z2 91) 24)) 92 (cpy (Z2 121) (Z2 92) 24) = J
      have qv : ∀ a, 119 ≤ a → a ≤ 121 → Q a = V a := fun a h1 h2 => hR3.1 a (by omega) (by omega) (by omega) (by omega) (by omega) (by omega) (by omega)
      have jr : ∀ a, a ≠ 86 → a ≠ 90 → a ≠ 91 → a ≠ 92 → J a = Q a := fun a q0 q1 q2 q3 => by subst hJ; rw [zrow_ne q3, zrow_ne q2, zrow_ne q1]; exact zr2 a q0
      have j86 : J 86 = Z2 86 := by subst hJ; rw [zrow_ne (by omega), zrow_ne (by omega), zrow_ne (by omega)]
      have hcc : ∀ (h g : Row) (j : Nat), j < 24 → cpy h g 24 j = h j := fun h g j hj => by unfold cpy; rw [if_pos hj]
      have j90 : ∀ j, j < 24 → J 90 j = P 90 j := fun j hj => by subst hJ; rw [zrow_ne (by omega), zrow_ne (by omega), zrow_same, hcc _ _ j hj, zr2 119 (by omega), qv 119 (by omega) (by omega)]; exact v119 j hj
      have j91 : ∀ j, j < 24 → J 91 j = P 91 j := fun j hj => by subst hJ; rw [zrow_ne (by omega), zrow_same, hcc _ _ j hj, zr2 120 (by omega), qv 120 (by omega) (by omega)]; exact v120 j hj
      have j92 : ∀ j, j < 24 → J 92 j = P 92 j := fun j hj => by subst hJ; rw [zrow_same, hcc _ _ j hj, zr2 121 (by omega), qv 121 (by omega) (by omega)]; exact v121 j hj
      have jn90 : ∀ j, ¬ j < 24 → J 90 j = Q 90 j := fun j hj => by subst hJ; rw [zrow_ne (by omega), zrow_ne (by omega), zrow_same]; unfold cpy; rw [if_neg hj, zr2 90 (by omega)]
      have jn91 : ∀ j, ¬ j < 24 → J 91 j = Q 91 j := fun j hj => by subst hJ; rw [zrow_ne (by omega), zrow_same]; unfold cpy; rw [if_neg hj, zr2 91 (by omega)]
      have jn92 : ∀ j, ¬ j < 24 → J 92 j = Q 92 j := fun j hj => by subst hJ; rw [zrow_same]; unfold cpy; rw [if_neg hj, zr2 92 (by omega)]
      clear hJ
      have rM : ∀ a, a = 1 ∨ a = 2 ∨ a = 5 ∨ a = 6 ∨ a = 8 ∨ a = 14 ∨ a = 15 ∨ a = 17 ∨ a = 35 → K a = M a := fun a ha => by
        rw [kr a (by omega) (by omega) (by omega) (by omega) (by omega), hC3.1 a (by omega) (by omega) (by omega) (by omega) (by omega) (by omega) (by omega) (by omega) (by omega) (by omega)]
        exact yr a (by omega)
      have jP : ∀ a, a = 87 ∨ a = 88 ∨ a = 89 ∨ a = 93 ∨ a = 94 ∨ a = 95 ∨ 122 ≤ a → J a = P a := fun a ha => by
        rw [jr a (by omega) (by omega) (by omega) (by omega), hR3.1 a (by omega) (by omega) (by omega) (by omega) (by omega) (by omega) (by omega)]
        exact vr a (by omega) (by omega) (by omega) (by omega)
      have jk : ∀ k, k ≠ 0 → k ≠ 16 → k ≠ 17 → k ≠ 53 → k ≠ 54 → k ≠ 55 → J 86 k = P 86 k := fun k q1 q2 q3 q4 q5 q6 => by rw [j86, zk2 k q1 q2 q3, hR3.2 k q1 q2 q3, v86]; exact zk k q4 q5 q6
      have j0 : J 86 0 = P 86 0 := by rw [j86, y0, hR3.2 53 (by omega) (by omega) (by omega), v86]; exact z53
      have j16 : J 86 16 = P 86 16 := by rw [j86, y16, hR3.2 54 (by omega) (by omega) (by omega), v86]; exact z54
      have j17 : J 86 17 = P 86 17 := by rw [j86, y17, hR3.2 55 (by omega) (by omega) (by omega), v86]; exact z55
      have k7' : ∀ j, j < 36 → K 7 j = M 7 j := fun j hj => by rw [k7]; unfold cpy; rw [if_pos hj, if_pos hj]
      have k16' : ∀ j, j < 36 → K 16 j = M 16 j := fun j hj => by rw [k16]; unfold cpy; rw [if_pos hj, if_pos hj]
      obtain ⟨b1, b2, b3, b4, b5, b6, b7⟩ := hB1.2.1 0 (by omega)
      obtain ⟨d1, d2, d3, d4, d5, d6, d7⟩ := hB1.2.1 1 (by omega)
      obtain ⟨_, _, w7, ww, w8, Nn, lt, Dv, Dc, v1, v2, v3⟩ := hB3.2.2
      have hlx : ∀ s W, s < 2 → lexR P s (N s) W (L s) → lexR J s (N s) W (L s) := fun s W hs hx => by
        refine ⟨by rw [jk _ (by omega) (by omega) (by omega) (by omega) (by omega) (by omega)]; exact hx.1, hx.2.1, fun w hw => ?_⟩
        obtain ⟨e1, e2, e3⟩ := hx.2.2 w hw
        exact ⟨e1, by rw [jP 95 (by omega)]; exact e2, rwd_congr e3 (fun k _ => by rw [jP 94 (by omega)])⟩
      have hBK : BT K J N F L wl := by
        refine ⟨fun t ht => ?_, fun t ht => ?_, ?_⟩
        · have ht2 : t = 0 ∨ t = 1 := by omega
          rcases ht2 with h | h
          · subst h
            show K 4 6 = (N 0 : Int) ∧ N 0 ≤ 12 ∧ K 4 7 = (F 0 : Int) ∧ F 0 < 2 ^ N 0 ∧ cnt (F 0).testBit 12 ≤ 6 ∧ hr (K 7) ∧ rkr (K 5) ∧ rkr (K 6) ∧ (∀ w, w < N 0 → isW (K 8 w) (L 0 w) ∧ 1 ≤ L 0 w) ∧ (∀ v w, v < N 0 → w < N 0 → K 8 v = K 8 w → v = w) ∧ (∀ j, j < 12 → K 6 (K 5 j).toNat = (j : Int)) ∧ ∀ x, x < 12 → K 5 (K 6 x).toNat = (x : Int)
            rw [rM 5 (by omega), rM 6 (by omega), rM 8 (by omega)]
            exact ⟨by rw [k4, rup_ne (by omega)]; exact r46.1, a2, by rw [k4, rup_same], a4, a5, by rw [k7]; exact hcp _ _ a6 hrR _, a7, a8, a9, a10, a11, a12⟩
          · subst h
            show K 13 6 = (N 1 : Int) ∧ N 1 ≤ 12 ∧ K 13 7 = (F 1 : Int) ∧ F 1 < 2 ^ N 1 ∧ cnt (F 1).testBit 12 ≤ 6 ∧ hr (K 16) ∧ rkr (K 14) ∧ rkr (K 15) ∧ (∀ w, w < N 1 → isW (K 17 w) (L 1 w) ∧ 1 ≤ L 1 w) ∧ (∀ v w, v < N 1 → w < N 1 → K 17 v = K 17 w → v = w) ∧ (∀ j, j < 12 → K 15 (K 14 j).toNat = (j : Int)) ∧ ∀ x, x < 12 → K 14 (K 15 x).toNat = (x : Int)
            rw [rM 14 (by omega), rM 15 (by omega), rM 17 (by omega)]
            exact ⟨by rw [k13, rup_ne (by omega)]; exact r46.2, i2, by rw [k13, rup_same], i4, i5, by rw [k16]; exact hcp _ _ i6 hrR1 _, i7, i8, i9, i10, i11, i12⟩
        · have ht2 : t = 0 ∨ t = 1 := by omega
          rcases ht2 with h | h
          · subst h
            show J 86 16 = (F 0 : Int) ∧ lexR J 0 (N 0) (K 8) (L 0) ∧ pt (J 90) 0 (K 7) 0 ∧ pt (J 91) 0 (K 7) 12 ∧ pt (J 92) 0 (K 7) 24 ∧ pt (J 88) 0 (K 5) 0 ∧ pt (J 89) 0 (K 6) 0
            rw [rM 5 (by omega), rM 6 (by omega), rM 8 (by omega), jP 88 (by omega), jP 89 (by omega)]
            exact ⟨by rw [j16]; exact b1, hlx 0 _ (by omega) b2, fun k hk => by rw [j90 _ (by omega), k7' _ (by omega)]; exact b3 k hk, fun k hk => by rw [j91 _ (by omega), k7' _ (by omega)]; exact b4 k hk, fun k hk => by rw [j92 _ (by omega), k7' _ (by omega)]; exact b5 k hk, b6, b7⟩
          · subst h
            show J 86 17 = (F 1 : Int) ∧ lexR J 1 (N 1) (K 17) (L 1) ∧ pt (J 90) 12 (K 16) 0 ∧ pt (J 91) 12 (K 16) 12 ∧ pt (J 92) 12 (K 16) 24 ∧ pt (J 88) 12 (K 14) 0 ∧ pt (J 89) 12 (K 15) 0
            rw [rM 14 (by omega), rM 15 (by omega), rM 17 (by omega), jP 88 (by omega), jP 89 (by omega)]
            exact ⟨by rw [j17]; exact d1, hlx 1 _ (by omega) d2, fun k hk => by rw [j90 _ (by omega), k16' _ (by omega)]; exact d3 k hk, fun k hk => by rw [j91 _ (by omega), k16' _ (by omega)]; exact d4 k hk, fun k hk => by rw [j92 _ (by omega), k16' _ (by omega)]; exact d5 k hk, d6, d7⟩
        · obtain ⟨⟨g1, g2, g3, g4⟩, ⟨g5, g6⟩, _⟩ := hB1.2.2
          have wi : ∀ i, i ≤ 4 → wl + i ≠ 0 ∧ wl + i ≠ 4 ∧ wl + i ≠ 7 ∧ wl + i ≠ 13 ∧ wl + i ≠ 16 := by intro i hi; rcases ww with h | h <;> omega
          have kw : ∀ i, i ≤ 4 → K (wl + i) = R (wl + i) := fun i hi => kr _ (wi i hi).1 (wi i hi).2.1 (wi i hi).2.2.1 (wi i hi).2.2.2.1 (wi i hi).2.2.2.2
          have kw0 : K wl = R wl := kw 0 (by omega)
          refine ⟨⟨by rw [k0 18 (by omega), hC3.2.1 18 (by omega), yr 0 (by omega), jk 1 (by omega) (by omega) (by omega) (by omega) (by omega) (by omega)]; exact g1, by rw [k19, j0]; exact g2, by rw [k19]; exact g3, by rw [k19]; exact g4⟩, ⟨by rw [rM 35 (by omega)]; exact g5, fun k hk => by rw [rM 35 (by omega), jP 87 (by omega)]; exact g6 k hk⟩, ⟨fun j => ?_, fun j => ?_, fun j => ?_⟩, ww, by rw [k0 6 (by omega)]; exact w8, Nn, lt, Dv, Dc, lawC_congr v1 (by rw [kw0]) (by rw [kw0]) (kw 1 (by omega)) (kw 2 (by omega)) (kw 3 (by omega)) (kw 4 (by omega)), lawR_congr v2 (by rw [j86, zk2 27 (by omega) (by omega) (by omega)]) ?_ ?_ ?_ ?_ ?_, v3⟩
          · by_cases hj : j < 24
            · rw [j90 j hj]; exact h90 j
            · rw [jn90 j hj]; exact w7.1 j
          · by_cases hj : j < 24
            · rw [j91 j hj]; exact h91 j
            · rw [jn91 j hj]; exact w7.2.1 j
          · by_cases hj : j < 24
            · rw [j92 j hj]; exact h92 j
            · rw [jn92 j hj]; exact w7.2.2 j
          all_goals exact jr _ (by omega) (by omega) (by omega) (by omega)
      refine ⟨(D : Int), K, J, rfl, rfl, ⟨hBK, 0, by omega, by rw [rM 1 (by omega)]; exact m2, by rw [jk 9 (by omega) (by omega) (by omega) (by omega) (by omega) (by omega)]; exact p3, ?_⟩, ?_, ?_⟩
      · rw [rM 2 (by omega), m1 2 (by omega) (by omega) (by omega) (by omega) (by omega)]
        exact tpe_congr hb (by rw [jP 93 (by omega)]; exact p1 93 (by omega) (by omega))
      · refine KF_trans (KF_acts m1) ⟨fun a q1 q2 => ?_, fun k q1 q2 => ?_, fun a q => ?_⟩
        · rw [kr a (by omega) (by omega) (by omega) (by omega) (by omega), (KF_CF hC3).1 a q1 q2]
          exact yr a (by omega)
        · rw [k0 k (by omega), hC3.2.1 k (by omega), yr 0 (by omega)]
        · rw [kr a (by omega) (by omega) (by omega) (by omega) (by omega), (KF_CF hC3).2.2 a q]
          exact yr a (by omega)
      · refine KR_trans (KR_acts p1 p2) ⟨fun a q => jP a (by omega), fun k q => jk k (by omega) (by omega) (by omega) (by omega) (by omega) (by omega), fun a q => ?_⟩
        rw [jr a (by omega) (by omega) (by omega) (by omega), (KR_RF hR3).2.2 a q]
        exact vr a (by omega) (by omega) (by omega) (by omega)
  · refine ⟨-1, μ, ρ, ?_, ?_, ⟨hB, hT⟩, KF_refl μ, KR_refl ρ⟩
    · rw [readActs_no (by omega) h1 h]
      simp -implicitDefEqProofs only [ob]
      rw [cF (by decide)]
    · by_cases hv : v1 = 0 ∨ v1 = 1
      · rw [cT hv, t_in (by omega)]
        simp -implicitDefEqProofs only [ob]
        rw [cB, e_M_judged_26]
        by_cases h2 : 1 ≤ v2 ∧ v2 ≤ 160
        · rw [cT h2, cF (by omega)]
        · rw [cF h2]
      · rw [cF hv]
