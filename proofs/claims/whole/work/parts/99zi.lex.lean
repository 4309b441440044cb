/-! a lexicon in both -/
theorem lexS_dst {b : Row} {n : Nat} : ∀ (j k p : Nat) (W : Row), (∀ v w, v < k → w < k → W v = W w → v = w) → ∀ m : Nat, 1 ≤ m → (lexS b n j k p W).1 = (m : Int) → ∀ v w, v < m → w < m → (lexS b n j k p W).2 v = (lexS b n j k p W).2 w → v = w := by
  intro j
  induction j with
  | zero =>
    intro k p W _ m h1 hm
    have : (lexS b n 0 k p W).1 = 0 := rfl
    omega
  | succ j ih =>
    intro k p W hW m h1
    simp only [lexS]
    by_cases c1 : k = 12 ∧ isl b n p = true
    · rw [if_pos c1]; intro hm; exact absurd (show -4000 - (p : Int) = (m : Int) from hm) (by omega)
    rw [if_neg c1]
    by_cases c2 : wln b n p = 0
    · rw [if_pos c2]; intro hm; exact absurd (show -1000 - (p : Int) = (m : Int) from hm) (by omega)
    rw [if_neg c2]
    by_cases c3 : 8 < wln b n p
    · rw [if_pos c3]; intro hm; exact absurd (show -3000 - ((p + 8 : Nat) : Int) = (m : Int) from hm) (by omega)
    rw [if_neg c3]
    by_cases c4 : fst1 (fun w => decide (W w = wcd b p (wln b n p))) k ≠ -1
    · rw [if_pos c4]; intro hm; exact absurd (show -6000 - (p : Int) = (m : Int) from hm) (by omega)
    rw [if_neg c4]
    have hno : ∀ w, w < k → W w ≠ wcd b p (wln b n p) := by
      intro w hw he
      rcases fst1_sp (fun w => decide (W w = wcd b p (wln b n p))) k with ⟨h5, h6⟩ | ⟨w', h5, h6, h7, h8⟩
      · exact absurd he (of_decide_eq_false (h6 w hw))
      · exact c4 (by rw [h5]; omega)
    have hW' : ∀ v w, v < k + 1 → w < k + 1 → rup W k (wcd b p (wln b n p)) v = rup W k (wcd b p (wln b n p)) w → v = w := by
      intro v w hv hw
      by_cases e1 : v = k
      · subst e1
        rw [rup_same]
        by_cases e2 : w = v
        · intro _; exact e2.symm
        · rw [rup_ne e2]
          intro he
          exact absurd he.symm (hno w (by omega))
      · rw [rup_ne e1]
        by_cases e2 : w = k
        · subst e2
          rw [rup_same]
          intro he
          exact absurd he (hno v (by omega))
        · rw [rup_ne e2]
          exact hW v w (by omega) (by omega)
    by_cases c5 : n ≤ p + wln b n p
    · rw [if_pos c5]
      intro hm v w hv hw
      have : ((k + 1 : Nat) : Int) = (m : Int) := hm
      exact hW' v w (by omega) (by omega)
    rw [if_neg c5]
    by_cases c6 : tx b n (p + wln b n p) = 44
    · rw [if_pos c6]
      exact ih (k + 1) (p + wln b n p + 1) _ hW' m h1
    rw [if_neg c6]
    intro hm
    exact absurd (show -1000 - ((p + wln b n p : Nat) : Int) = (m : Int) from hm) (by omega)
theorem cnt_or1 {f w n : Nat} : cnt (f ||| 2 ^ w).testBit n ≤ cnt f.testBit n + 1 := by
  by_cases h : f.testBit w = true
  · rw [cnt_congr (q := f.testBit) (fun k _ => by
      rw [or_bit]
      by_cases e : k = w
      · subst e; rw [h]; rfl
      · simp [e])]
    omega
  · by_cases hw : w < n
    · rw [cnt_point (p := (f ||| 2 ^ w).testBit) (q := f.testBit) (w := w) (by rw [or_bit]; simp) (by simpa using h) (fun k hk => by rw [or_bit]; simp [hk]) n hw]
      omega
    · rw [cnt_congr (q := f.testBit) (fun k hk => by rw [or_bit]; have : ¬ k = w := by omega
                                                     simp [this])]
      omega
theorem ldF_cnt {W st : Row} {N n : Nat} : ∀ i, cnt (ldF W st N i).testBit n ≤ i := by
  intro i
  induction i with
  | zero =>
    have : cnt (ldF W st N 0).testBit n = 0 := by
      have h : ∀ m, cnt (ldF W st N 0).testBit m = 0 := by
        intro m
        induction m with
        | zero => rfl
        | succ m ih => rw [cnt_succ, ih]; simp [ldF]
      exact h n
    omega
  | succ i ih =>
    unfold ldF
    split
    · omega
    · have := cnt_or1 (f := ldF W st N i) (w := (fst1 (fun w => decide (W w = st i)) N).toNat) (n := n)
      omega
theorem hmW_congr {h W V V' : Row} {f m b : Nat} (hv : ∀ v, v < m → V v = V' v) : ∀ w, hmW h f W V m b w = hmW h f W V' m b w := by
  intro w
  induction w with
  | zero => rfl
  | succ w ih =>
    unfold hmW
    rw [ih, fst1_congr (p := fun v => decide (V v = W w)) (q := fun v => decide (V' v = W w)) (fun i hi => by rw [hv i hi])]
theorem nwF_congr {f N m : Nat} {W V V' : Row} (hv : ∀ v, v < m → V v = V' v) : nwF f W V N m = nwF f W V' N m := by
  unfold nwF
  have : ∀ n, n ≤ m → bset (fun v => decide (fst1 (fun w => decide (W w = V v)) N ≠ -1) && f.testBit (fst1 (fun w => decide (W w = V v)) N).toNat) n = bset (fun v => decide (fst1 (fun w => decide (W w = V' v)) N ≠ -1) && f.testBit (fst1 (fun w => decide (W w = V' v)) N).toNat) n := by
    intro n
    induction n with
    | zero => intro _; rfl
    | succ n ih =>
      intro hn
      unfold bset
      rw [ih (by omega), hv n (by omega)]
  exact this m (Nat.le_refl _)
theorem hmW_pt {g h W V : Row} {f m b c : Nat} (hp : pt g b h c) : ∀ w, pt (hmW g f W V m b w) b (hmW h f W V m c w) c := by
  intro w
  induction w with
  | zero => exact hp
  | succ w ih =>
    unfold hmW
    split
    · exact homeB_pt ih 8
    · exact ih
theorem hmW_out {h W V : Row} {f m b j : Nat} (hj : j < b ∨ b + 12 ≤ j) : ∀ w, hmW h f W V m b w j = h j := by
  intro w
  induction w with
  | zero => rfl
  | succ w ih =>
    unfold hmW
    split
    · rw [homeB_out hj]; exact ih
    · exact ih
theorem lexicon_both {z : zZ} {d d' wl : Nat} {s v : Int} {μ ρ : Mu} {N F : Nat → Nat} {L : Nat → Nat → Nat} (hd : 8 ≤ d) (hd' : 8 ≤ d') (hB : BT μ ρ N F L wl) (hT : TI μ ρ) : GO z d d' 24 190 [(0, s), (0, v)] [(0, s), (0, v)] μ ρ (fun M P => (∃ N' F' L', BT M P N' F' L' wl) ∧ TI M P ∧ M 0 = μ 0) := by
  obtain ⟨e, rfl, he⟩ := pred_of (k := 7) hd
  obtain ⟨e', rfl, he'⟩ := pred_of (k := 7) hd'
  obtain ⟨sz, t1, t2, t3, t4⟩ := id hT
  unfold GO
  rw [c_W_lexicon, c_M_lexicon, s_isSide (by omega), t_isSide (by omega)]
  simp -implicitDefEqProofs only [ob]
  rw [cB, cB]
  by_cases h0 : s = 0 ∨ s = 1
  · rw [decide_eq_true h0, cond_true, cond_true, s_holdsText (by omega) t2, t_in (by omega)]
    simp -implicitDefEqProofs only [ob]
    rw [nB, cB]
    by_cases h1 : 1 ≤ v ∧ v ≤ 160
    · rw [decide_eq_true h1, cond_true]
      by_cases h2 : v ≤ (sz : Int)
      · obtain ⟨s, rfl, hs⟩ : ∃ t : Nat, s = (t : Int) ∧ t < 2 := ⟨s.toNat, by omega, by omega⟩
        obtain ⟨n, rfl, hn⟩ : ∃ t : Nat, v = (t : Int) ∧ 1 ≤ t ∧ t ≤ 160 := ⟨v.toNat, by omega, by omega⟩
        have ho := o9 hs
        rw [decide_eq_true (show (1 : Int) ≤ (n : Int) ∧ (n : Int) ≤ 160 ∧ (n : Int) ≤ (sz : Int) by omega), cond_true, cT (show (n : Int) ≤ ρ 86 9 by omega), e_W_lexicon_24 _ _ _ _ _ h0, Int.toNat_natCast, s_open (by omega) (by omega)]
        simp -implicitDefEqProofs only [ob]
        obtain ⟨a1, a2, a3, a4, a5, a6, a7, a8, a9, a10, a11, a12⟩ := hB.1 s hs
        obtain ⟨b1, b2, b3, b4, b5, b6, b7⟩ := hB.2.1 s hs
        obtain ⟨w1, w2, w3⟩ := hB.2.2.2.2.1
        obtain ⟨e2, rfl, he2⟩ := pred_of (k := 6) he
        rw [c_Army_takeLexicon _ _ _ _ ho]
        have om : ∀ a, a ≠ 1 → opM μ (n : Int) a = μ a := fun a q => opM_r q
        have x1 := s_lex (z := z) (e := e2) (o := 4 + 9 * s) (n := n) (by omega) ho (by omega) 12 0 0 (opM μ (n : Int)) (by omega) (by omega) opM_2 opM_3 opM_4 (by rw [om 2 (by omega)]; exact t4.1) _ rfl
        rw [om 2 (by omega), om (4 + 9 * s + 5) (by omega), show ((0 : Nat) : Int) = 0 from rfl] at x1
        generalize hZ : zup (zup (zup ρ 86 10 0) 86 11 (n : Int)) 86 22 0 = Z
        have z10 : Z 86 10 = ((0 : Nat) : Int) := by subst hZ; rw [zup_nk (by omega), zup_nk (by omega)]; exact zup_hit
        have z11 : Z 86 11 = (n : Int) := by subst hZ; rw [zup_nk (by omega)]; exact zup_hit
        have z22 : Z 86 22 = ((0 : Nat) : Int) := by subst hZ; exact zup_hit
        have zr : ∀ a, a ≠ 86 → Z a = ρ a := fun a q => by subst hZ; rw [zup_ro q, zup_ro q, zup_ro q]
        have zk : ∀ k, k ≠ 10 → k ≠ 11 → k ≠ 22 → Z 86 k = ρ 86 k := fun k q1 q2 q3 => by subst hZ; rw [zup_nk q3, zup_nk q2, zup_nk q1]
        clear hZ
        have x2 := t_lexgo (z := z) (e := e') (n := n) (v := (s : Int)) (b := μ 2) (by omega) (by omega) 12 0 0 (μ (4 + 9 * s + 5)) (L s) Z (by omega) (by omega) z10 z11 z22 (tpe_congr t4 (zr 93 (by omega))) (fun w hw => absurd hw (by omega)) _ rfl
        have hdst := lexS_dst (b := μ 2) (n := n) 13 0 0 (μ (4 + 9 * s + 5)) (fun v w hv => absurd hv (by omega))
        rw [show (12 + 1 : Nat) = 13 from rfl] at x1 x2
        generalize lexS (μ 2) n 13 0 0 (μ (4 + 9 * s + 5)) = R at x1 x2 hdst
        rcases x1 with ⟨f1, M, f2, f3, f4⟩ | ⟨m, M, f1, f2, f3, f4, f5, f6, f7⟩
        · rcases x2 with ⟨g1, P, g2, g3, g4, g5⟩ | ⟨m', L', P, g1, g2, _⟩
          · rw [f2, g2, e_M_lexicon_88, nT rfl]
            simp -implicitDefEqProofs only [ob]
            rw [g3]
            have n1 : ∀ a, a ≠ 1 → a ≠ 4 + 9 * s + 5 → M a = μ a := fun a q1 q2 => by rw [f3 a q1 q2, om a q1]
            have p1 : ∀ a, a ≠ 86 → a ≠ 96 → a ≠ 97 → zup P 86 9 0 a = ρ a := fun a q1 q2 q3 => by rw [zup_ro q1, g4 a q1 q2 q3, zr a q1]
            have pk : ∀ k, k ≠ 9 → k ≠ 10 → k ≠ 11 → k ≠ 12 → k ≠ 13 → k ≠ 22 → zup P 86 9 0 86 k = ρ 86 k := fun k q0 q1 q2 q3 q4 q5 => by rw [zup_nk q0, g5 k q1 q3 q4 q5, zk k q1 q2 q5]
            refine ⟨_, _, _, rfl, rfl, ⟨⟨N, F, L, bt_rows hB ⟨by rw [n1 0 (by omega) (by omega)], by rw [n1 0 (by omega) (by omega)], by rw [n1 0 (by omega) (by omega)]⟩ (fun a ha => n1 a (by omega) (by omega)) (fun a ha => p1 a (by omega) (by omega) (by omega)) (fun k hk => pk k (by omega) (by omega) (by omega) (by omega) (by omega) (by omega))⟩, ⟨0, by omega, by rw [f4]; exact opM_1, by rw [zup_hit]; rfl, by rw [n1 2 (by omega) (by omega)]; exact tpe_congr t4 (p1 93 (by omega) (by omega) (by omega))⟩, n1 0 (by omega) (by omega)⟩, ⟨fun a _ _ => n1 a (by omega) (by omega), fun k _ _ => by rw [n1 0 (by omega) (by omega)], fun a _ => n1 a (by omega) (by omega)⟩, ⟨fun a _ => p1 a (by omega) (by omega) (by omega), fun k _ => pk k (by omega) (by omega) (by omega) (by omega) (by omega) (by omega), fun a _ => p1 a (by omega) (by omega) (by omega)⟩⟩
          · exact absurd g1 (by omega)
        · rcases x2 with ⟨g1, _⟩ | ⟨m', L', P, g1, g2, g3, g4, g5, g6, g7, g8⟩
          · exact absurd g1 (by omega)
          · have em : m' = m := by rw [f1] at g1; omega
            subst em
            have n1 : ∀ a, a ≠ 1 → a ≠ 4 + 9 * s + 5 → M a = μ a := fun a q1 q2 => by rw [f5 a q1 q2, om a q1]
            have r0 : M (4 + 9 * s) = μ (4 + 9 * s) := n1 _ (by omega) (by omega)
            have r3 : M (4 + 9 * s + 3) = μ (4 + 9 * s + 3) := n1 _ (by omega) (by omega)
            have r4 : M (4 + 9 * s + 4) = μ (4 + 9 * s + 4) := n1 _ (by omega) (by omega)
            obtain ⟨M2, u1, u2, u3, u4, u5⟩ := s_adopt (z := z) (d := e2) (o := 4 + 9 * s) (N := N s) (f := F s) (m := m') (μ := M) (by omega) ho (by rw [r0]; exact a1) a2 (by rw [r0]; exact a3) (f4096 a4 a2) a5 f3 (by rw [r3]; exact a6)
            rw [f7, u1, g4]
            simp -implicitDefEqProofs only [ob]
            rw [f4, r3, r4] at u3
            rw [f4, r4] at u2
            rw [f4, r0, r4] at u4
            have p1 : ∀ a, a ≠ 86 → a ≠ 96 → a ≠ 97 → P a = ρ a := fun a q1 q2 q3 => by rw [g7 a q1 q2 q3, zr a q1]
            have pk : ∀ k, k ≠ 10 → k ≠ 11 → k ≠ 12 → k ≠ 13 → k ≠ 22 → P 86 k = ρ 86 k := fun k q1 q2 q3 q4 q5 => by rw [g8 k q1 q3 q4 q5, zk k q1 q2 q5]
            have hxP : lexR P s (N s) (μ (4 + 9 * s + 4)) (L s) := by
              refine ⟨by rw [pk _ (by omega) (by omega) (by omega) (by omega) (by omega)]; exact b2.1, b2.2.1, fun w hw => ?_⟩
              obtain ⟨y1, y2, y3⟩ := b2.2.2 w hw
              exact ⟨y1, by rw [p1 95 (by omega) (by omega) (by omega)]; exact y2, rwd_congr y3 (fun k _ => by rw [p1 94 (by omega) (by omega) (by omega)])⟩
            have f4k := f4096 a4 a2
            obtain ⟨Q, k1, k2, k3, k4, k5, k6⟩ := t_lexend (z := z) (e := e') (s := s) (N := N s) (m := m') (f := F s) (W := μ (4 + 9 * s + 4)) (V := R.2) (L := L s) (L' := L') (μ := P) (by omega) hs hxP g5 f3 g6 (by rw [pk _ (by omega) (by omega) (by omega) (by omega) (by omega)]; exact b1) f4k (by rw [p1 90 (by omega) (by omega) (by omega)]; exact w1)
            rw [k1]
            rw [p1 90 (by omega) (by omega) (by omega)] at k2
            rw [p1 94 (by omega) (by omega) (by omega)] at k3
            rw [p1 95 (by omega) (by omega) (by omega)] at k4
            have hV : ∀ w, w < m' → cpy R.2 (μ (4 + 9 * s + 4)) 12 w = R.2 w := fun w hw => by unfold cpy; rw [if_pos (by omega)]
            have hVd : ∀ v w, v < m' → w < m' → cpy R.2 (μ (4 + 9 * s + 4)) 12 v = cpy R.2 (μ (4 + 9 * s + 4)) 12 w → v = w := fun v w hv hw he2 => by
              rw [hV v hv, hV w hw] at he2
              exact hdst m' (by omega) f1 v w hv hw he2
            have hF1 : ldF (cpy R.2 (μ (4 + 9 * s + 4)) 12) (stB (M (4 + 9 * s + 8)) (F s) (μ (4 + 9 * s + 4)) (N s)) m' (cnt (F s).testBit (N s)) = nwF (F s) (μ (4 + 9 * s + 4)) (cpy R.2 (μ (4 + 9 * s + 4)) 12) (N s) m' := ldF_nwF hVd a10
            have hF2 : nwF (F s) (μ (4 + 9 * s + 4)) (cpy R.2 (μ (4 + 9 * s + 4)) 12) (N s) m' = nwF (F s) (μ (4 + 9 * s + 4)) R.2 (N s) m' := nwF_congr hV
            have hcnt : cnt (nwF (F s) (μ (4 + 9 * s + 4)) R.2 (N s) m').testBit 12 ≤ 6 := by
              rw [← hF2, ← hF1]
              have q1 := ldF_cnt (W := cpy R.2 (μ (4 + 9 * s + 4)) 12) (st := stB (M (4 + 9 * s + 8)) (F s) (μ (4 + 9 * s + 4)) (N s)) (N := m') (n := 12) (cnt (F s).testBit (N s))
              have q2 := cnt_mono (F s).testBit a2
              omega
            have hlt : nwF (F s) (μ (4 + 9 * s + 4)) R.2 (N s) m' < 2 ^ m' := bset_lt _ _
            rw [hF1, hF2] at u4
            rw [hmW_congr hV] at u3
            generalize hf' : nwF (F s) (μ (4 + 9 * s + 4)) R.2 (N s) m' = f' at *
            have v1 : M2 (4 + 9 * s) 6 = (m' : Int) := by rw [u4, rup_ne (by omega), rup_same]
            have v2 : M2 (4 + 9 * s) 7 = (f' : Int) := by rw [u4, rup_same]
            have n2 : ∀ a, a ≠ 1 → a ≠ 4 + 9 * s → a ≠ 4 + 9 * s + 3 → a ≠ 4 + 9 * s + 4 → a ≠ 4 + 9 * s + 5 → a ≠ 4 + 9 * s + 6 → a ≠ 4 + 9 * s + 7 → a ≠ 4 + 9 * s + 8 → M2 a = μ a := fun a q1 q2 q3 q4 q5 q6 q7 q8 => by rw [u5 a q2 q3 q4 q6 q7 q8, n1 a q1 q5]
            have m1r : M2 1 = M 1 := u5 1 (by omega) (by omega) (by omega) (by omega) (by omega) (by omega)
            have s1 : M2 (4 + 9 * s + 1) = μ (4 + 9 * s + 1) := n2 _ (by omega) (by omega) (by omega) (by omega) (by omega) (by omega) (by omega) (by omega)
            have s2 : M2 (4 + 9 * s + 2) = μ (4 + 9 * s + 2) := n2 _ (by omega) (by omega) (by omega) (by omega) (by omega) (by omega) (by omega) (by omega)
            have hW2 : ∀ w, w < m' → M2 (4 + 9 * s + 4) w = R.2 w := fun w hw => by rw [u2]; exact hV w hw
            have pk2 : ∀ k, k ≠ 9 → k ≠ 10 → k ≠ 11 → k ≠ 12 → k ≠ 13 → k ≠ 14 + s → k ≠ 16 + s → k ≠ 22 → Q 86 k = ρ 86 k := fun k q0 q1 q2 q3 q4 q5 q6 q7 => by rw [k5, rup_ne q6, rup_ne q5, rup_ne q0, pk k q1 q2 q3 q4 q7]
            have p2 : ∀ a, a ≠ 86 → a ≠ 90 → a ≠ 94 → a ≠ 95 → a ≠ 96 → a ≠ 97 → Q a = ρ a := fun a q1 q2 q3 q4 q5 q6 => by rw [k6 a q1 q2 q3 q4, p1 a q1 q5 q6]
            have hSC : SDc M2 s m' f' L' := by
              refine ⟨v1, f3, v2, hlt, hcnt, by rw [u3]; exact hr_hmW a6 _, by rw [s1]; exact a7, by rw [s2]; exact a8, fun w hw => ?_, fun v w hv hw => ?_, by rw [s1, s2]; exact a11, by rw [s1, s2]; exact a12⟩
              · rw [hW2 w hw]
                exact ⟨(g6 w hw).2.2.1, (g6 w hw).1⟩
              · rw [hW2 v hv, hW2 w hw]
                exact hdst m' (by omega) f1 v w hv hw
            have hSR : SDr M2 Q s m' f' L' := by
              refine ⟨by rw [k5, rup_same], ⟨by rw [k5, rup_ne (by omega), rup_same], f3, fun w hw => ⟨(g6 w hw).1, ?_, ?_⟩⟩, ?_, ?_, ?_, ?_, ?_⟩
              · rw [k4]
                unfold shf
                rw [if_pos (by omega), show 12 * s + w - 12 * s = w by omega]
                exact (g6 w hw).2.1
              · rw [hW2 w hw]
                refine ⟨(g6 w hw).2.2.1, fun k hk => ?_⟩
                have h8 := (g6 w hw).2.2.1.2.1
                have := (g6 w hw).2.2.2 k hk
                rw [k3]
                unfold shf
                rw [if_pos (by omega), show 8 * (12 * s + w) + k - 96 * s = 8 * w + k by omega]
                exact this
              · rw [k2, u3]
                exact hmW_pt b3 _
              · rw [p2 91 (by omega) (by omega) (by omega) (by omega) (by omega) (by omega), u3]
                intro k hk
                rw [hmW_out (by omega)]
                exact b4 k hk
              · rw [p2 92 (by omega) (by omega) (by omega) (by omega) (by omega) (by omega), u3]
                intro k hk
                rw [hmW_out (by omega)]
                exact b5 k hk
              · rw [p2 88 (by omega) (by omega) (by omega) (by omega) (by omega) (by omega), s1]
                exact b6
              · rw [p2 89 (by omega) (by omega) (by omega) (by omega) (by omega) (by omega), s2]
                exact b7
            have hb := bt_side (M := M2) (P := Q) hB hs ⟨by rw [n2 0 (by omega) (by omega) (by omega) (by omega) (by omega) (by omega) (by omega) (by omega)], by rw [n2 0 (by omega) (by omega) (by omega) (by omega) (by omega) (by omega) (by omega) (by omega)], by rw [n2 0 (by omega) (by omega) (by omega) (by omega) (by omega) (by omega) (by omega) (by omega)]⟩ (fun i hi => n2 _ (by omega) (by omega) (by omega) (by omega) (by omega) (by omega) (by omega) (by omega)) (fun a ha => n2 a (by omega) (by omega) (by omega) (by omega) (by omega) (by omega) (by omega) (by omega)) hSC hSR (fun a k ha hk => by
              by_cases q1 : a = 90
              · subst q1; rw [k2]; exact hmW_out (by omega) _
              · by_cases q2 : a = 95
                · subst q2; rw [k4]; unfold shf; rw [if_neg (by omega)]
                · rw [p2 a (by omega) q1 (by omega) q2 (by omega) (by omega)]) (fun k hk => by rw [k3]; unfold shf; rw [if_neg (by omega)]) (fun a ha => p2 a (by omega) (by omega) (by omega) (by omega) (by omega) (by omega)) (fun k hk => pk2 k (by omega) (by omega) (by omega) (by omega) (by omega) (by omega) (by omega) (by omega)) ⟨by rw [k2]; exact hr_hmW w1 _, by rw [p2 91 (by omega) (by omega) (by omega) (by omega) (by omega) (by omega)]; exact w2, by rw [p2 92 (by omega) (by omega) (by omega) (by omega) (by omega) (by omega)]; exact w3⟩
            refine ⟨_, _, _, rfl, by rw [v1], ⟨⟨_, _, _, hb⟩, ⟨0, by omega, by rw [m1r, f6]; exact opM_1, by rw [k5, rup_ne (by omega), rup_ne (by omega), rup_same]; rfl, by rw [n2 2 (by omega) (by omega) (by omega) (by omega) (by omega) (by omega) (by omega) (by omega)]; exact tpe_congr t4 (p2 93 (by omega) (by omega) (by omega) (by omega) (by omega) (by omega))⟩, n2 0 (by omega) (by omega) (by omega) (by omega) (by omega) (by omega) (by omega) (by omega)⟩, ⟨fun a _ _ => n2 a (by omega) (by omega) (by omega) (by omega) (by omega) (by omega) (by omega) (by omega), fun k _ _ => by rw [n2 0 (by omega) (by omega) (by omega) (by omega) (by omega) (by omega) (by omega) (by omega)], fun a _ => n2 a (by omega) (by omega) (by omega) (by omega) (by omega) (by omega) (by omega) (by omega)⟩, ⟨fun a _ => p2 a (by omega) (by omega) (by omega) (by omega) (by omega) (by omega), fun k _ => pk2 k (by omega) (by omega) (by omega) (by omega) (by omega) (by omega) (by omega) (by omega), fun a _ => p2 a (by omega) (by omega) (by omega) (by omega) (by omega) (by omega)⟩⟩
      · rw [decide_eq_false (show ¬ (1 ≤ v ∧ v ≤ 160 ∧ v ≤ (sz : Int)) by omega), cond_false, cF (show ¬ v ≤ ρ 86 9 by omega), e_W_lexicon_22, e_M_lexicon_26]
        exact ⟨_, _, _, rfl, rfl, ⟨⟨N, F, L, hB⟩, hT, rfl⟩, KF_refl μ, KR_refl ρ⟩
    · rw [decide_eq_false h1, cond_false, decide_eq_false (show ¬ (1 ≤ v ∧ v ≤ 160 ∧ v ≤ (sz : Int)) by omega), cond_false, e_W_lexicon_22, e_M_lexicon_26]
      exact ⟨_, _, _, rfl, rfl, ⟨⟨N, F, L, hB⟩, hT, rfl⟩, KF_refl μ, KR_refl ρ⟩
  · rw [decide_eq_false h0, cond_false, cond_false, e_W_lexicon_22, e_M_lexicon_26]
    exact ⟨_, _, _, rfl, rfl, ⟨⟨N, F, L, hB⟩, hT, rfl⟩, KF_refl μ, KR_refl ρ⟩
