/-! keep as one row of both; undo -/
theorem keep_both {z : zZ} {d d' wl n0 : Nat} {A B : Nat → Nat} {μ ρ : Mu} {N F : Nat → Nat} {L : Nat → Nat → Nat} (hd : 5 ≤ d) (hd' : 4 ≤ d') (hB : BT μ ρ N F L wl) (hFc : FIc A B n0 μ) (hFr : FIr A B n0 ρ) (hS : SOr (μ 67) (ρ 132) (ρ 133) (ρ 134) (ρ 135)) : ∃ (r : Int) (M P : Mu), mC z d 168 [(2, 0)] μ = some (r, M) ∧ mC z d' 301 [(2, 86)] ρ = some (r, P) ∧ KT M P ∧ (∀ k, k ≠ 15 → k ≠ 16 → k ≠ 17 → M 0 k = μ 0 k) ∧ (∀ k, k ≠ 1 → M 58 k = μ 58 k) ∧ (∀ a, a ≠ 0 → a ≠ 58 → a ≠ 60 → a ≠ 68 → (a < 73 ∨ 78 < a) → M a = μ a) ∧ (∀ k, k < 76 → P 86 k = ρ 86 k) ∧ ∀ a, a ≠ 86 → (a < 140 ∨ 151 < a) → P a = ρ a := by
  obtain ⟨hC, hR, ⟨c1, c2, c3, c4⟩, ⟨c5, c6⟩, ⟨w1, w2, w3⟩, hG⟩ := hB
  obtain ⟨M, m0, m1, m2, m3, m4, m5, m6, m7, m8, m9, m10⟩ := s_keep (z := z) (d := d) hd hC
  obtain ⟨P, p0, p1, p2, p3, p4, p5⟩ := t_keep (z := z) (d := d') (ρ := ρ) (N := N) (F := F) (L := L) (W := fun s => μ (4 + 9 * s + 4)) hd' (fun s hs => (hR s hs).2.1) (fun s hs => ⟨(hR s hs).1, f4096 (hC s hs).2.2.2.1 (hC s hs).2.1, (hC s hs).2.2.2.2.1⟩) w1
  have e0 : sm (fun k => ρ 90 (12 * 0 + k)) 12 = sm (fun k => μ 7 (0 + k)) 12 := sm_congr (fun k hk => (hR 0 (by omega)).2.2.1 k hk)
  have e1 : sm (fun k => ρ 90 (12 * 1 + k)) 12 = sm (fun k => μ 16 (0 + k)) 12 := sm_congr (fun k hk => (hR 1 (by omega)).2.2.1 k hk)
  rw [e0, e1] at p0
  refine ⟨_, M, P, m0, p0, Or.inr ⟨m5, p3.1, ?_, ⟨?_, ?_, ?_⟩, ⟨A, B, n0, hFc.1, ?_, ?_, fun i hi => ?_, fun i hi => ?_⟩, ?_, fun s hs => ?_⟩, m8, m9, m10, p4, p5⟩
  · rw [m6, p3.2.2.1]; exact c1
  · rw [m7, p3.2.1]; exact c2
  · rw [m7]; exact c3
  · rw [m7]; exact c4
  · rw [m3]; exact hFc.2.1
  · rw [p3.2.2.2]; exact hFr.2.1
  · have h24 := hFc.1
    rw [m2 i (by omega)]; exact hFc.2.2.1 i hi
  · have h24 := hFc.1
    rw [(p1 i (by omega)).2.2.2.1, (p1 i (by omega)).2.2.2.2.1]
    exact hFr.2.2.2 i hi
  · exact SOr_congr hS (fun j hj => m4 j hj) (fun j hj => (p1 j hj).2.2.2.2.2.1) (fun j hj => (p1 j hj).2.2.2.2.2.2.1) (fun j hj => (p1 j hj).2.2.2.2.2.2.2.1) (fun j hj => (p1 j hj).2.2.2.2.2.2.2.2)
  · obtain ⟨a1, a2, a3, a4, a5, a6, a7, a8, a9, a10, a11, a12⟩ := hC s hs
    obtain ⟨b1, b2, b3, b4, b5, b6, b7⟩ := hR s hs
    obtain ⟨k1, k2, k3, k4⟩ := m1 s hs
    obtain ⟨l1, l2⟩ := p2 s hs
    have hN := cnt_N a4 a2
    refine ⟨fun j hj => ?_, fun k hk => ?_, fun k hk => ?_, fun k hk => ?_, cnt (F s).testBit (N s), by omega, k4, l1, fun q hq => ?_⟩
    · rw [k1 j hj]; exact a6 j
    · rw [(p1 (12 * s + k) (by omega)).1, k1 (0 + k) (by omega)]; exact b3 k hk
    · rw [(p1 (12 * s + k) (by omega)).2.1, k1 (12 + k) (by omega)]; exact b4 k hk
    · rw [(p1 (12 * s + k) (by omega)).2.2.1, k1 (24 + k) (by omega)]; exact b5 k hk
    · obtain ⟨v, hv, hb, hc⟩ := cnt_at (N s) hq
      obtain ⟨x1, x2⟩ := l2 v hv hb
      have hg := stB_get (st := μ (75 + 3 * s)) (W := μ (4 + 9 * s + 4)) (f := F s) (N s) v hv hb
      rw [hc] at x1 x2 hg
      rw [k3, hg, x1, Int.toNat_natCast]
      exact ⟨by omega, x2⟩
theorem ldH_pt {g h W st : Row} {N b c : Nat} (hp : pt g b h c) : ∀ i, pt (ldH g W st N b i) b (ldH h W st N c i) c := by
  intro i
  induction i with
  | zero => exact hp
  | succ i ih =>
    unfold ldH
    split
    · exact homeB_pt ih 8
    · exact ih
theorem ldH_out {h W st : Row} {N b j : Nat} (hj : j < b ∨ b + 12 ≤ j) : ∀ i, ldH h W st N b i j = h j := by
  intro i
  induction i with
  | zero => rfl
  | succ i ih =>
    unfold ldH
    split
    · rw [homeB_out hj]; exact ih
    · exact ih
theorem ldF_lt2 {W st : Row} {N : Nat} : ∀ i, ldF W st N i < 2 ^ N := by
  intro i
  induction i with
  | zero => exact Nat.two_pow_pos N
  | succ i ih =>
    unfold ldF
    rcases fst1_sp (fun w => decide (W w = st i)) N with ⟨h5, _⟩ | ⟨w, h5, h6, _, _⟩
    · rw [h5, if_pos rfl]; exact ih
    · rw [h5, if_neg (by omega)]
      exact or_lt2 ih (by omega)
/-- letters and fields are others -/
theorem bt_hf {μ ρ M P : Mu} {N F F' : Nat → Nat} {L : Nat → Nat → Nat} {wl : Nat} (hB : BT μ ρ N F L wl) (m06 : M 0 6 = μ 0 6) (mr : ∀ a, a = 5 ∨ a = 6 ∨ a = 8 ∨ a = 14 ∨ a = 15 ∨ a = 17 ∨ a = 35 ∨ (41 ≤ a ∧ a ≤ 52) → M a = μ a) (mk : ∀ s, s < 2 → M (4 + 9 * s) 6 = μ (4 + 9 * s) 6) (pr : ∀ a, (87 ≤ a ∧ a ≤ 89) ∨ a = 94 ∨ a = 95 ∨ (104 ≤ a ∧ a ≤ 108) → P a = ρ a) (pk : ∀ k, k = 14 ∨ k = 15 ∨ k = 27 → P 86 k = ρ 86 k) (hF : ∀ s, s < 2 → M (4 + 9 * s) 7 = (F' s : Int) ∧ F' s < 2 ^ N s ∧ cnt (F' s).testBit 12 ≤ 6 ∧ P 86 (16 + s) = (F' s : Int)) (hM : ∀ s, s < 2 → hr (M (4 + 9 * s + 3))) (hP : hr (P 90) ∧ hr (P 91) ∧ hr (P 92)) (q : ∀ s, s < 2 → pt (P 90) (12 * s) (M (4 + 9 * s + 3)) 0 ∧ pt (P 91) (12 * s) (M (4 + 9 * s + 3)) 12 ∧ pt (P 92) (12 * s) (M (4 + 9 * s + 3)) 24) (hc : M 0 18 = P 86 1 ∧ M 0 19 = P 86 0 ∧ 0 ≤ M 0 19 ∧ M 0 19 ≤ 65535) : BT M P N F' L wl := by
  obtain ⟨gC, gR, ⟨c1, c2, c3, c4⟩, ⟨c5, c6⟩, c7, hG⟩ := hB
  refine ⟨fun s hs => ?_, fun s hs => ?_, hc, ⟨by rw [mr 35 (by omega)]; exact c5, fun k hk => by rw [mr 35 (by omega), pr 87 (by omega)]; exact c6 k hk⟩, hP, GL_rows m06 (fun a q1 q2 => mr a (by omega)) (pk 27 (by omega)) (fun a q1 q2 => pr a (by omega)) hG⟩
  · obtain ⟨a1, a2, a3, a4, a5, a6, a7, a8, a9, a10, a11, a12⟩ := gC s hs
    obtain ⟨f1, f2, f3, f4⟩ := hF s hs
    have r1 : M (4 + 9 * s + 1) = μ (4 + 9 * s + 1) := mr _ (by omega)
    have r2 : M (4 + 9 * s + 2) = μ (4 + 9 * s + 2) := mr _ (by omega)
    have r4 : M (4 + 9 * s + 4) = μ (4 + 9 * s + 4) := mr _ (by omega)
    exact ⟨by rw [mk s hs]; exact a1, a2, f1, f2, f3, hM s hs, by rw [r1]; exact a7, by rw [r2]; exact a8, by rw [r4]; exact a9, by rw [r4]; exact a10, by rw [r1, r2]; exact a11, by rw [r1, r2]; exact a12⟩
  · obtain ⟨b1, b2, b3, b4, b5, b6, b7⟩ := gR s hs
    have r1 : M (4 + 9 * s + 1) = μ (4 + 9 * s + 1) := mr _ (by omega)
    have r2 : M (4 + 9 * s + 2) = μ (4 + 9 * s + 2) := mr _ (by omega)
    have r4 : M (4 + 9 * s + 4) = μ (4 + 9 * s + 4) := mr _ (by omega)
    refine ⟨(hF s hs).2.2.2, ?_, (q s hs).1, (q s hs).2.1, (q s hs).2.2, by rw [r1, pr 88 (by omega)]; exact b6, by rw [r2, pr 89 (by omega)]; exact b7⟩
    rw [r4]
    refine ⟨by rw [pk _ (by omega)]; exact b2.1, b2.2.1, fun w hw => ?_⟩
    obtain ⟨x1, x2, x3⟩ := b2.2.2 w hw
    exact ⟨x1, by rw [pr 95 (by omega)]; exact x2, rwd_congr x3 (fun k _ => by rw [pr 94 (by omega)])⟩
/-- the class brings back -/
theorem s_undo {z : zZ} {d m0 m1 : Nat} {μ : Mu} {N F : Nat → Nat} {L : Nat → Nat → Nat} (hd : 6 ≤ d) (hC : ∀ s, s < 2 → SDc μ s (N s) (F s) (L s)) (h15 : μ 0 15 = 1) (h0 : μ 73 2 = (m0 : Int)) (h06 : m0 ≤ 6) (h1 : μ 76 2 = (m1 : Int)) (h16 : m1 ≤ 6) (k0 : hr (cpy (μ 74) (μ 7) 36)) (k1 : hr (cpy (μ 77) (μ 16) 36)) : ∃ M, mC z d 171 [(2, 0)] μ = some (1, M) ∧ M 7 = ldH (cpy (μ 74) (μ 7) 36) (μ 8) (μ 75) (N 0) 0 m0 ∧ M 16 = ldH (cpy (μ 77) (μ 16) 36) (μ 17) (μ 78) (N 1) 0 m1 ∧ M 4 = rup (μ 4) 7 ((ldF (μ 8) (μ 75) (N 0) m0 : Nat) : Int) ∧ M 13 = rup (μ 13) 7 ((ldF (μ 17) (μ 78) (N 1) m1 : Nat) : Int) ∧ (∀ j, j < 24 → M 59 j = μ 60 j) ∧ M 58 0 = μ 58 1 ∧ M 58 8 = 0 ∧ M 58 9 = 0 ∧ (∀ k, k ≠ 0 → k ≠ 8 → k ≠ 9 → M 58 k = μ 58 k) ∧ (∀ j, j < 96 → M 67 j = μ 68 j) ∧ M 0 18 = μ 0 16 ∧ M 0 19 = μ 0 17 ∧ (∀ k, k ≠ 18 → k ≠ 19 → M 0 k = μ 0 k) ∧ ∀ a, a ≠ 0 → a ≠ 4 → a ≠ 7 → a ≠ 13 → a ≠ 16 → a ≠ 58 → a ≠ 59 → a ≠ 67 → M a = μ a := by
  obtain ⟨e, rfl, he⟩ := pred_of (k := 5) hd
  obtain ⟨e2, rfl, he2⟩ := pred_of (k := 4) he
  obtain ⟨e3, rfl, he3⟩ := pred_of (k := 3) he2
  obtain ⟨a1, a2, a3, a4, a5, a6, a7, a8, a9, a10, a11, a12⟩ := hC 0 (by omega)
  obtain ⟨i1, i2, i3, i4, i5, i6, i7, i8, i9, i10, i11, i12⟩ := hC 1 (by omega)
  have u1 := s_loadFrom (z := z) (d := e3 + 1 + 1) (o := 4) (c := 73) (N := N 0) (m := m0) (μ := μ) (by omega) (Or.inl rfl) (Or.inr (Or.inr (Or.inl rfl))) a1 a2 h0 h06 k0
  rw [show ((4 : Nat) : Int) = 4 from rfl, show ((73 : Nat) : Int) = 73 from rfl] at u1
  generalize hR1 : zrow (zrow μ (4 + 3) (ldH (cpy (μ (73 + 1)) (μ (4 + 3)) 36) (μ (4 + 4)) (μ (73 + 2)) (N 0) 0 m0)) 4 (rup (μ 4) 7 ((ldF (μ (4 + 4)) (μ (73 + 2)) (N 0) m0 : Nat) : Int)) = R1 at u1
  have r1 : ∀ a, a ≠ 4 → a ≠ 7 → R1 a = μ a := fun a q1 q2 => by subst hR1; rw [zrow_ne q1, zrow_ne q2]
  have r7 : R1 7 = ldH (cpy (μ 74) (μ 7) 36) (μ 8) (μ 75) (N 0) 0 m0 := by subst hR1; rw [zrow_ne (by omega), zrow_same]
  have r4 : R1 4 = rup (μ 4) 7 ((ldF (μ 8) (μ 75) (N 0) m0 : Nat) : Int) := by subst hR1; rw [zrow_same]
  clear hR1
  have u2 := s_loadFrom (z := z) (d := e3 + 1 + 1) (o := 13) (c := 76) (N := N 1) (m := m1) (μ := R1) (by omega) (Or.inr rfl) (Or.inr (Or.inr (Or.inr (Or.inl rfl)))) (by rw [r1 13 (by omega) (by omega)]; exact i1) i2 (by rw [r1 76 (by omega) (by omega)]; exact h1) h16 (by rw [show (76 + 1 : Nat) = 77 from rfl, show (13 + 3 : Nat) = 16 from rfl, r1 77 (by omega) (by omega), r1 16 (by omega) (by omega)]; exact k1)
  rw [show ((13 : Nat) : Int) = 13 from rfl, show ((76 : Nat) : Int) = 76 from rfl] at u2
  generalize hR2 : zrow (zrow R1 (13 + 3) (ldH (cpy (R1 (76 + 1)) (R1 (13 + 3)) 36) (R1 (13 + 4)) (R1 (76 + 2)) (N 1) 0 m1)) 13 (rup (R1 13) 7 ((ldF (R1 (13 + 4)) (R1 (76 + 2)) (N 1) m1 : Nat) : Int)) = R2 at u2
  have s1 : ∀ a, a ≠ 13 → a ≠ 16 → R2 a = R1 a := fun a q1 q2 => by subst hR2; rw [zrow_ne q1, zrow_ne q2]
  have s16 : R2 16 = ldH (cpy (μ 77) (μ 16) 36) (μ 17) (μ 78) (N 1) 0 m1 := by subst hR2; rw [zrow_ne (by omega), zrow_same, r1 77 (by omega) (by omega), r1 16 (by omega) (by omega), r1 17 (by omega) (by omega), r1 78 (by omega) (by omega)]
  have s13 : R2 13 = rup (μ 13) 7 ((ldF (μ 17) (μ 78) (N 1) m1 : Nat) : Int) := by subst hR2; rw [zrow_same, r1 13 (by omega) (by omega), r1 17 (by omega) (by omega), r1 78 (by omega) (by omega)]
  clear hR2
  generalize hR3 : zup (zup (zup (zcpy R2 60 0 59 0 24) 58 0 (zcpy R2 60 0 59 0 24 58 1)) 58 8 0) 58 9 0 = R3
  generalize hR4 : zup (zup (zcpy R3 68 0 67 0 96) 0 18 (zcpy R3 68 0 67 0 96 0 16)) 0 19 (zcpy R3 68 0 67 0 96 0 17) = R4
  have hfin : mC z (e3 + 1 + 1 + 1) 171 [(2, 0)] μ = some (1, R4) := by
    rw [c_W_undo, nF (by omega), u1]
    simp -implicitDefEqProofs only [ob]
    rw [u2]
    simp -implicitDefEqProofs only [ob]
    rw [c_Fig_load, c_Fig_change]
    simp -implicitDefEqProofs only [ob]
    rw [c_Sol_load]
    simp -implicitDefEqProofs only [ob]
    subst hR4
    subst hR3
    rfl
  rw [zcpy0] at hR3 hR4
  have v59 : ∀ j, j < 24 → R3 59 j = μ 60 j := fun j hj => by
    subst hR3
    rw [zup_ro (by omega), zup_ro (by omega), zup_ro (by omega), zrow_same, s1 60 (by omega) (by omega), r1 60 (by omega) (by omega)]
    unfold cpy
    rw [if_pos hj]
  have v580 : R3 58 0 = μ 58 1 := by subst hR3; rw [zup_nk (by omega), zup_nk (by omega), zup_hit, zrow_ne (by omega), s1 58 (by omega) (by omega), r1 58 (by omega) (by omega)]
  have v588 : R3 58 8 = 0 := by subst hR3; rw [zup_nk (by omega), zup_hit]
  have v589 : R3 58 9 = 0 := by subst hR3; exact zup_hit
  have v58 : ∀ k, k ≠ 0 → k ≠ 8 → k ≠ 9 → R3 58 k = μ 58 k := fun k q1 q2 q3 => by subst hR3; rw [zup_nk q3, zup_nk q2, zup_nk q1, zrow_ne (by omega), s1 58 (by omega) (by omega), r1 58 (by omega) (by omega)]
  have vr : ∀ a, a ≠ 58 → a ≠ 59 → R3 a = R2 a := fun a q1 q2 => by subst hR3; rw [zup_ro q1, zup_ro q1, zup_ro q1, zrow_ne q2]
  clear hR3
  have x67 : ∀ j, j < 96 → R4 67 j = μ 68 j := fun j hj => by
    subst hR4
    rw [zup_ro (by omega), zup_ro (by omega), zrow_same, vr 68 (by omega) (by omega), s1 68 (by omega) (by omega), r1 68 (by omega) (by omega)]
    unfold cpy
    rw [if_pos hj]
  have e0 : R3 0 = μ 0 := by rw [vr 0 (by omega) (by omega), s1 0 (by omega) (by omega), r1 0 (by omega) (by omega)]
  have x18 : R4 0 18 = μ 0 16 := by subst hR4; rw [zup_nk (by omega), zup_hit, zrow_ne (by omega), e0]
  have x19 : R4 0 19 = μ 0 17 := by subst hR4; rw [zup_hit, zrow_ne (by omega), e0]
  have x0 : ∀ k, k ≠ 18 → k ≠ 19 → R4 0 k = μ 0 k := fun k q1 q2 => by subst hR4; rw [zup_nk q2, zup_nk q1, zrow_ne (by omega), e0]
  have xr : ∀ a, a ≠ 0 → a ≠ 67 → R4 a = R3 a := fun a q1 q2 => by subst hR4; rw [zup_ro q1, zup_ro q1, zrow_ne q2]
  clear hR4
  refine ⟨R4, hfin, ?_, ?_, ?_, ?_, fun j hj => by rw [xr 59 (by omega) (by omega)]; exact v59 j hj, by rw [xr 58 (by omega) (by omega)]; exact v580, by rw [xr 58 (by omega) (by omega)]; exact v588, by rw [xr 58 (by omega) (by omega)]; exact v589, fun k q1 q2 q3 => by rw [xr 58 (by omega) (by omega)]; exact v58 k q1 q2 q3, x67, x18, x19, x0, fun a q0 q1 q2 q3 q4 q5 q6 q7 => by rw [xr a q0 q7, vr a q5 q6, s1 a q3 q4, r1 a q1 q2]⟩
  · rw [xr 7 (by omega) (by omega), vr 7 (by omega) (by omega), s1 7 (by omega) (by omega), r7]
  · rw [xr 16 (by omega) (by omega), vr 16 (by omega) (by omega), s16]
  · rw [xr 4 (by omega) (by omega), vr 4 (by omega) (by omega), s1 4 (by omega) (by omega), r4]
  · rw [xr 13 (by omega) (by omega), vr 13 (by omega) (by omega), s13]
