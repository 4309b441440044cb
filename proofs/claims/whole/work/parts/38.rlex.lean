/-! the reference reads a lexicon's text -/
def newR (μ : Mu) (k : Nat) (W : Row) (L : Nat → Nat) : Prop := ∀ w, w < k → 1 ≤ L w ∧ μ 97 w = (L w : Int) ∧ rwd μ 96 (8 * w) (L w) (W w)
theorem z8 {k : Nat} (h : k < 1000) : zw (8 * (k : Int)) = ((8 * k : Nat) : Int) := by rw [zw_id (by omega) (by omega)]; omega
theorem rwd_rdw {μ : Mu} {a i p m : Nat} {b : Row} (ha : a ≠ 86) (hm : m ≤ 8) (h : ∀ k, k < m → 97 ≤ b (p + k) ∧ b (p + k) ≤ 108) : rwd (rdw μ a i b p m) a i m (wcd b p m) := by
  refine ⟨isW_wcd hm h, fun k hk => ?_⟩
  have hb := h k hk
  rw [rdw_a ha, nib_wcd hm h k m (Nat.le_refl _), if_pos hk]
  unfold rdr
  rw [if_pos (by omega), show p + (i + k - i) = p + k by omega]
  omega
theorem rwd_congr {μ μ' : Mu} {a i n : Nat} {c : Int} (h : rwd μ a i n c) (hh : ∀ k, k < n → μ' a (i + k) = μ a (i + k)) : rwd μ' a i n c := ⟨h.1, fun k hk => by rw [hh k hk]; exact h.2 k hk⟩
theorem newR_rdw {μ : Mu} {k p m : Nat} {b W : Row} {L : Nat → Nat} (h : newR μ k W L) : newR (rdw μ 96 (8 * k) b p m) k W L := by
  intro w hw
  obtain ⟨g1, g2, g3⟩ := h w hw
  have g4 := g3.1.2.1
  refine ⟨g1, by rw [rdw_ne (by omega) (by omega)]; exact g2, rwd_congr g3 (fun q hq => ?_)⟩
  rw [rdw_a (by omega)]
  unfold rdr
  rw [if_neg (by omega)]
theorem t_dup {z : zZ} {e k m : Nat} {v c : Int} {W : Row} {L : Nat → Nat} {M : Mu} (he : 1 ≤ e) (hk : k < 12) (h22 : M 86 22 = (k : Int)) (h13 : M 86 13 = (m : Int)) (hx : newR M k W L) (hc : rwd M 96 (8 * k) m c) (w : Nat) (hw : w < k) : f_M_readsLexWord_63 z e v (w : Int) M = bif decide (W w = c) then (mC z e 194 [(2, 86), (0, 6), (0, v)] M).bind fun q2 => f_M_readsLexWord_113 z e v (w : Int) q2.1 q2.2 else f_M_readsLexWord_63 z e v ((w + 1 : Nat) : Int) M := by
  obtain ⟨g1, g2, g3⟩ := hx w hw
  have g4 := g3.1.2.1
  have m8 := hc.1.2.1
  have ha := t_areAlike (z := z) (d := e) (a := 96) (la := 96) (b := 96) (lb := 96) he ia96 ia96 (by omega) (by omega) (by omega) (by omega) g3 hc
  simp -implicitDefEqProofs only [Int.cast_ofNat_Int] at ha
  rw [e_M_readsLexWord_63]
  simp -implicitDefEqProofs only [h22, h13]
  rw [cF (by omega), gI_ok (by omega) (by omega), z8 (by omega), z8 (by omega), Int.toNat_natCast, g2, ha]
  simp -implicitDefEqProofs only [ob, cB]
  cases decide (W w = c)
  · simp -implicitDefEqProofs only [cond_false]
    rw [e_M_readsLexWord_114, zwc (by omega)]
  · rfl
theorem t_readsLexWord {z : zZ} {d p n k : Nat} {b W : Row} {L : Nat → Nat} {μ : Mu} (hd : 4 ≤ d) (h2 : μ 86 10 = (p : Int)) (h3 : μ 86 11 = (n : Int)) (h22 : μ 86 22 = (k : Int)) (hk : k ≤ 12) (hn : n ≤ 220) (hp : p ≤ n) (hb : tpe μ b) (hx : newR μ k W L) : (k = 12 ∧ isl b n p = true ∧ mC z d 191 [(2, 86)] μ = some (0, zup μ 86 12 (-4000 - (p : Int)))) ∨ (wln b n p = 0 ∧ mC z d 191 [(2, 86)] μ = some (0, zup μ 86 12 (-1000 - (p : Int)))) ∨ (k < 12 ∧ 8 < wln b n p ∧ mC z d 191 [(2, 86)] μ = some (0, zup (rdw μ 96 (8 * k) b p 8) 86 12 (-3000 - ((p + 8 : Nat) : Int)))) ∨ (k < 12 ∧ 1 ≤ wln b n p ∧ wln b n p ≤ 8 ∧ fst1 (fun w => decide (W w = wcd b p (wln b n p))) k ≠ -1 ∧ mC z d 191 [(2, 86)] μ = some (0, zup (rdw μ 96 (8 * k) b p (wln b n p)) 86 12 (-6000 - (p : Int)))) ∨ (k < 12 ∧ 1 ≤ wln b n p ∧ wln b n p ≤ 8 ∧ fst1 (fun w => decide (W w = wcd b p (wln b n p))) k = -1 ∧ mC z d 191 [(2, 86)] μ = some (1, zup (zup (rdw μ 96 (8 * k) b p (wln b n p)) 97 k ((wln b n p : Nat) : Int)) 86 22 ((k + 1 : Nat) : Int))) := by
  obtain ⟨e, rfl, he⟩ := pred_of hd
  have h9 : wln b n p ≤ 9 := wl9_le (isl b n) 9 p
  have hall := wln_b (b := b) (n := n) (p := p)
  have hst := c_M_readsLexWord z e μ
  rw [t_isLetterHere (by omega) h2 h3 hn hb] at hst
  simp -implicitDefEqProofs only [ob, nB, h22, h2] at hst
  cases hl : isl b n p
  · right; left
    refine ⟨wln_0 hl, ?_⟩
    rw [hl] at hst
    simp -implicitDefEqProofs only [cond_false] at hst
    rw [hst, t_wrongAt (by omega) (by omega) (by omega)]
    simp -implicitDefEqProofs only [ob]
    rw [g01_0]
    rfl
  · have h1 := wln_1 hl
    rw [hl] at hst
    simp -implicitDefEqProofs only [cond_true] at hst
    by_cases h12 : k = 12
    · left
      refine ⟨h12, rfl, ?_⟩
      rw [nT (by omega)] at hst
      rw [hst, t_wrongAt (by omega) (by omega) (by omega)]
      simp -implicitDefEqProofs only [ob]
      rw [g01_0]
      rfl
    · right; right
      rw [nF (by omega), z8 (by omega)] at hst
      have hr := t_readsWord (z := z) (d := e) (a := 96) (la := 96) (i := 8 * k) (by omega) h2 h3 hn hp hb ia96 (by omega) (by omega) (by omega) (by omega)
      simp -implicitDefEqProofs only [Int.cast_ofNat_Int] at hr
      rw [if_neg (by omega)] at hr
      by_cases h8 : wln b n p ≤ 8
      · rw [if_pos h8] at hr
        rw [hr] at hst
        simp -implicitDefEqProofs only [ob] at hst
        rw [nF (by omega), e_M_readsLexWord_61] at hst
        generalize hm : wln b n p = m at hst h8 h1 h9 hall
        generalize hc : wcd b p m = c
        have r22 : rdw μ 96 (8 * k) b p m 86 22 = (k : Int) := by rw [rdw_86 (by omega) (by omega)]; exact h22
        have rc : rwd (rdw μ 96 (8 * k) b p m) 96 (8 * k) m c := by rw [← hc]; exact rwd_rdw (by omega) h8 hall
        have hdup := t_dup (z := z) (e := e) (v := (p : Int)) (by omega) (by omega) r22 rdw_13 (newR_rdw (b := b) (p := p) (m := m) hx) rc
        rcases fst1_sp (fun w => decide (W w = c)) k with ⟨g1, g2⟩ | ⟨u, g1, g2, g3, g4⟩
        · right; right
          refine ⟨by omega, h1, h8, g1, ?_⟩
          rw [hst]
          have H := down (n := k) (P := fun w => f_M_readsLexWord_63 z e (p : Int) (w : Int) (rdw μ 96 (8 * k) b p m) = some (1, zup (zup (rdw μ 96 (8 * k) b p m) 97 k (m : Int)) 86 22 ((k + 1 : Nat) : Int)))
            (by
              rw [e_M_readsLexWord_63]
              simp -implicitDefEqProofs only [r22, rdw_13]
              rw [cT (by omega), gI_ok (by omega) (by omega), Int.toNat_natCast, zwc (by omega)])
            (by
              intro w hw ih
              rw [hdup w hw, g2 w hw]
              exact ih)
          exact H 0 (by omega)
        · right; left
          refine ⟨by omega, h1, h8, by rw [g1]; omega, ?_⟩
          rw [hst]
          have H := down (n := u) (P := fun w => f_M_readsLexWord_63 z e (p : Int) (w : Int) (rdw μ 96 (8 * k) b p m) = some (0, zup (rdw μ 96 (8 * k) b p m) 86 12 (-6000 - (p : Int))))
            (by
              rw [hdup u g2, g3]
              simp -implicitDefEqProofs only [cond_true]
              rw [t_wrongAt (by omega) (by omega) (by omega)]
              simp -implicitDefEqProofs only [ob]
              rw [e_M_readsLexWord_113, g01_0]
              rfl)
            (by
              intro w hw ih
              rw [hdup w (by omega), g4 w hw]
              exact ih)
          exact H 0 (by omega)
      · left
        refine ⟨by omega, by omega, ?_⟩
        rw [if_neg h8] at hr
        rw [hr] at hst
        simp -implicitDefEqProofs only [ob] at hst
        rw [nT trivial] at hst
        exact hst
theorem newR_86 {μ : Mu} {k i : Nat} {v : Int} {W : Row} {L : Nat → Nat} (h : newR μ k W L) : newR (zup μ 86 i v) k W L := by
  intro w hw
  obtain ⟨g1, g2, g3⟩ := h w hw
  exact ⟨g1, by rw [zup_ro (by omega)]; exact g2, rwd_congr g3 (fun q _ => by rw [zup_ro (by omega)])⟩
theorem newR_add {μ : Mu} {k p m : Nat} {b W : Row} {L : Nat → Nat} (h : newR μ k W L) (hm1 : 1 ≤ m) (hm : m ≤ 8) (hall : ∀ k, k < m → 97 ≤ b (p + k) ∧ b (p + k) ≤ 108) : newR (zup (zup (rdw μ 96 (8 * k) b p m) 97 k (m : Int)) 86 22 ((k + 1 : Nat) : Int)) (k + 1) (rup W k (wcd b p m)) (fun w => if w = k then m else L w) := by
  apply newR_86
  intro w hw
  by_cases hwk : w = k
  · subst hwk
    simp only [if_true, rup_same]
    exact ⟨hm1, zup_hit, rwd_congr (rwd_rdw (by omega) hm hall) (fun q _ => by rw [zup_ro (by omega)])⟩
  · simp only [if_neg hwk, rup_ne hwk]
    obtain ⟨g1, g2, g3⟩ := newR_rdw (b := b) (p := p) (m := m) h w (by omega)
    exact ⟨g1, by rw [zup_nk hwk]; exact g2, rwd_congr g3 (fun q _ => by rw [zup_ro (by omega)])⟩
theorem tpe_congr {μ μ' : Mu} {b : Row} (h : tpe μ b) (hh : μ' 93 = μ 93) : tpe μ' b := ⟨h.1, fun k hk => by rw [hh]; exact h.2 k hk⟩
theorem t_lexgo {z : zZ} {e n : Nat} {v : Int} {b : Row} (he : 4 ≤ e) (hn : n ≤ 220) (j : Nat) : ∀ (k p : Nat) (W : Row) (L : Nat → Nat) (μ : Mu), j + k = 12 → p ≤ n → μ 86 10 = (p : Int) → μ 86 11 = (n : Int) → μ 86 22 = (k : Int) → tpe μ b → newR μ k W L → ∀ R, lexS b n (j + 1) k p W = R → (R.1 < 0 ∧ ∃ μ', ((mC z e 191 [(2, 86)] μ).bind fun q => f_M_lexicon_48 z e v q.1 q.2) = f_M_lexicon_88 z e v 0 μ' ∧ μ' 86 12 = R.1 ∧ (∀ a, a ≠ 86 → a ≠ 96 → a ≠ 97 → μ' a = μ a) ∧ ∀ i, i ≠ 10 → i ≠ 12 → i ≠ 13 → i ≠ 22 → μ' 86 i = μ 86 i) ∨ (∃ (m : Nat) (L' : Nat → Nat) (μ' : Mu), R.1 = (m : Int) ∧ 1 ≤ m ∧ m ≤ 12 ∧ ((mC z e 191 [(2, 86)] μ).bind fun q => f_M_lexicon_48 z e v q.1 q.2) = f_M_lexicon_88 z e v 1 μ' ∧ μ' 86 22 = (m : Int) ∧ newR μ' m R.2 L' ∧ (∀ a, a ≠ 86 → a ≠ 96 → a ≠ 97 → μ' a = μ a) ∧ ∀ i, i ≠ 10 → i ≠ 12 → i ≠ 13 → i ≠ 22 → μ' 86 i = μ 86 i) := by
  induction j using Nat.strongRecOn with
  | ind j ih =>
    intro k p W L μ hjk hp h2 h3 h22 hb hx R hR
    have hall := wln_b (b := b) (n := n) (p := p)
    have hwn := wln_n (b := b) hp
    simp only [lexS] at hR
    have hbad : ∀ M : Mu, f_M_lexicon_48 z e v 0 M = f_M_lexicon_88 z e v 0 M := fun M => by rw [e_M_lexicon_48, cT rfl]
    rcases t_readsLexWord (z := z) (d := e) he h2 h3 h22 (by omega) hn hp hb hx with ⟨c1, c2, hq⟩ | ⟨c2, hq⟩ | ⟨c1, c2, hq⟩ | ⟨c1, c2, c3, c4, hq⟩ | ⟨c1, c2, c3, c4, hq⟩
    · rw [if_pos ⟨c1, c2⟩] at hR
      subst hR
      left
      refine ⟨by show -4000 - (p : Int) < 0; omega, zup μ 86 12 (-4000 - (p : Int)), ?_, zup_hit, fun a h1 _ _ => zup_ro h1, fun i _ h1 _ _ => zup_nk h1⟩
      rw [hq]
      simp -implicitDefEqProofs only [ob]
      exact hbad _
    · have hnl : ¬ (k = 12 ∧ isl b n p = true) := by
        intro h
        have := wln_1 h.2
        omega
      rw [if_neg hnl, if_pos c2] at hR
      subst hR
      left
      refine ⟨by show -1000 - (p : Int) < 0; omega, zup μ 86 12 (-1000 - (p : Int)), ?_, zup_hit, fun a h1 _ _ => zup_ro h1, fun i _ h1 _ _ => zup_nk h1⟩
      rw [hq]
      simp -implicitDefEqProofs only [ob]
      exact hbad _
    · rw [if_neg (by omega), if_neg (by omega), if_pos c2] at hR
      subst hR
      left
      refine ⟨by show -3000 - ((p + 8 : Nat) : Int) < 0; omega, zup (rdw μ 96 (8 * k) b p 8) 86 12 (-3000 - ((p + 8 : Nat) : Int)), ?_, zup_hit, fun a h1 h5 _ => by rw [zup_ro h1, rdw_ne h1 h5], fun i h1 h5 h6 _ => by rw [zup_nk h5, rdw_86 h1 h6]⟩
      rw [hq]
      simp -implicitDefEqProofs only [ob]
      exact hbad _
    · rw [if_neg (by omega), if_neg (by omega), if_neg (by omega), if_pos c4] at hR
      subst hR
      left
      refine ⟨by show -6000 - (p : Int) < 0; omega, zup (rdw μ 96 (8 * k) b p (wln b n p)) 86 12 (-6000 - (p : Int)), ?_, zup_hit, fun a h1 h5 _ => by rw [zup_ro h1, rdw_ne h1 h5], fun i h1 h5 h6 _ => by rw [zup_nk h5, rdw_86 h1 h6]⟩
      rw [hq]
      simp -implicitDefEqProofs only [ob]
      exact hbad _
    · rw [if_neg (by omega), if_neg (by omega), if_neg (by omega), if_neg (by intro h; exact h c4)] at hR
      rw [hq]
      simp -implicitDefEqProofs only [ob]
      generalize hm : wln b n p = m at hR hq c2 c3 c4 hall hwn
      have hnew := newR_add (p := p) hx c2 c3 hall
      generalize hM : zup (zup (rdw μ 96 (8 * k) b p m) 97 k (m : Int)) 86 22 ((k + 1 : Nat) : Int) = M at hnew
      have k10 : M 86 10 = ((p + m : Nat) : Int) := by rw [← hM, zup_nk (by omega), zup_ro (by omega), rdw_10]
      have k11 : M 86 11 = (n : Int) := by rw [← hM, zup_nk (by omega), zup_ro (by omega), rdw_86 (by omega) (by omega)]; exact h3
      have k22 : M 86 22 = ((k + 1 : Nat) : Int) := by rw [← hM]; exact zup_hit
      have kf : ∀ a, a ≠ 86 → a ≠ 96 → a ≠ 97 → M a = μ a := fun a h1 h5 h6 => by rw [← hM, zup_ro h1, zup_ro h6, rdw_ne h1 h5]
      have ki : ∀ i, i ≠ 10 → i ≠ 12 → i ≠ 13 → i ≠ 22 → M 86 i = μ 86 i := fun i h1 h5 h6 h7 => by rw [← hM, zup_nk h7, zup_ro (by omega), rdw_86 h1 h6]
      have kb : tpe M b := tpe_congr hb (kf 93 (by omega) (by omega) (by omega))
      rw [e_M_lexicon_48, cF (by omega)]
      simp -implicitDefEqProofs only [k10, k11]
      by_cases c5 : n ≤ p + m
      · rw [if_pos c5] at hR
        subst hR
        right
        rw [cT (by omega)]
        exact ⟨k + 1, _, M, rfl, by omega, by omega, rfl, k22, hnew, kf, ki⟩
      · rw [if_neg c5] at hR
        rw [cF (by omega), t_takes (by omega) k10 k11 hn (by omega) kb]
        by_cases c6 : tx b n (p + m) = 44
        · rw [if_pos c6] at hR ⊢
          simp -implicitDefEqProofs only [ob]
          rw [cF (by omega)]
          obtain ⟨j', rfl⟩ : ∃ j', j = j' + 1 := ⟨j - 1, by omega⟩
          have q10 : zup M 86 10 ((p + m + 1 : Nat) : Int) 86 10 = ((p + m + 1 : Nat) : Int) := zup_hit
          have q11 : zup M 86 10 ((p + m + 1 : Nat) : Int) 86 11 = (n : Int) := by rw [zup_nk (by omega)]; exact k11
          have q22 : zup M 86 10 ((p + m + 1 : Nat) : Int) 86 22 = ((k + 1 : Nat) : Int) := by rw [zup_nk (by omega)]; exact k22
          have qb : tpe (zup M 86 10 ((p + m + 1 : Nat) : Int)) b := tpe_congr kb (zup_ro (by omega))
          have qf : ∀ a, a ≠ 86 → a ≠ 96 → a ≠ 97 → zup M 86 10 ((p + m + 1 : Nat) : Int) a = μ a := fun a h1 h5 h6 => by rw [zup_ro h1]; exact kf a h1 h5 h6
          have qi : ∀ i, i ≠ 10 → i ≠ 12 → i ≠ 13 → i ≠ 22 → zup M 86 10 ((p + m + 1 : Nat) : Int) 86 i = μ 86 i := fun i h1 h5 h6 h7 => by rw [zup_nk h1]; exact ki i h1 h5 h6 h7
          have hsame : ((mC z e 191 [(2, 86)] (zup M 86 10 ((p + m + 1 : Nat) : Int))).bind fun q2 => bif decide (q2.1 = 0) then f_M_lexicon_83 z e v q2.2 else f_M_lexicon_84 z e v 1 q2.2) = (mC z e 191 [(2, 86)] (zup M 86 10 ((p + m + 1 : Nat) : Int))).bind fun q => f_M_lexicon_48 z e v q.1 q.2 := by
            rcases t_readsLexWord (z := z) (d := e) he q10 q11 q22 (by omega) hn (by omega) qb (newR_86 hnew) with ⟨_, _, hq'⟩ | ⟨_, hq'⟩ | ⟨_, _, hq'⟩ | ⟨_, _, _, _, hq'⟩ | ⟨_, _, _, _, hq'⟩ <;> rw [hq'] <;> simp -implicitDefEqProofs only [ob]
            · rw [cT trivial, e_M_lexicon_83, e_M_lexicon_84]
            · rw [cT trivial, e_M_lexicon_83, e_M_lexicon_84]
            · rw [cT trivial, e_M_lexicon_83, e_M_lexicon_84]
            · rw [cT trivial, e_M_lexicon_83, e_M_lexicon_84]
            · rw [cF (by omega), e_M_lexicon_84]
          rw [hsame]
          rcases ih j' (by omega) (k + 1) (p + m + 1) _ _ _ (by omega) (by omega) q10 q11 q22 qb (newR_86 hnew) R hR with ⟨r1, μ', r2, r3, r4, r5⟩ | ⟨m', L', μ', r1, r2, r3, r4, r5, r6, r7, r8⟩
          · left
            exact ⟨r1, μ', r2, r3, fun a h1 h5 h6 => by rw [r4 a h1 h5 h6, qf a h1 h5 h6], fun i h1 h5 h6 h7 => by rw [r5 i h1 h5 h6 h7, qi i h1 h5 h6 h7]⟩
          · right
            exact ⟨m', L', μ', r1, r2, r3, r4, r5, r6, fun a h1 h5 h6 => by rw [r7 a h1 h5 h6, qf a h1 h5 h6], fun i h1 h5 h6 h7 => by rw [r8 i h1 h5 h6 h7, qi i h1 h5 h6 h7]⟩
        · rw [if_neg c6] at hR ⊢
          simp -implicitDefEqProofs only [ob]
          subst hR
          left
          refine ⟨by show -1000 - ((p + m : Nat) : Int) < 0; omega, zup M 86 12 (-1000 - ((p + m : Nat) : Int)), ?_, zup_hit, fun a h1 h5 h6 => by rw [zup_ro h1]; exact kf a h1 h5 h6, fun i h1 h5 h6 h7 => by rw [zup_nk h5]; exact ki i h1 h5 h6 h7⟩
          rw [cT trivial, e_M_lexicon_83, e_M_lexicon_84]
          exact hbad _
