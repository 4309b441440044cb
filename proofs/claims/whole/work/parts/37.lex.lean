/-! a lexicon's text -/
def lexS (b : Row) (n : Nat) : Nat → Nat → Nat → Row → Int × Row
  | 0, _, _, W => (0, W)
  | j + 1, k, p, W =>
    if k = 12 ∧ isl b n p = true then (-4000 - (p : Int), W)
    else if wln b n p = 0 then (-1000 - (p : Int), W)
    else if 8 < wln b n p then (-3000 - ((p + 8 : Nat) : Int), W)
    else if fst1 (fun w => decide (W w = wcd b p (wln b n p))) k ≠ -1 then (-6000 - (p : Int), W)
    else if n ≤ p + wln b n p then (((k + 1 : Nat) : Int), rup W k (wcd b p (wln b n p)))
    else if tx b n (p + wln b n p) = 44 then lexS b n j (k + 1) (p + wln b n p + 1) (rup W k (wcd b p (wln b n p)))
    else (-1000 - ((p + wln b n p : Nat) : Int), rup W k (wcd b p (wln b n p)))
theorem wln_0 {b : Row} {n p : Nat} (h : isl b n p = false) : wln b n p = 0 := by
  unfold wln wl9
  simp [h]
theorem wln_1 {b : Row} {n p : Nat} (h : isl b n p = true) : 1 ≤ wln b n p := by
  unfold wln wl9
  simp [h]
theorem wln_b {b : Row} {n p : Nat} : ∀ k, k < wln b n p → 97 ≤ b (p + k) ∧ b (p + k) ≤ 108 := fun k hk => isl_b (wl9_all (isl b n) 9 p k hk)
theorem wln_n {b : Row} {n p : Nat} (hp : p ≤ n) : p + wln b n p ≤ n := by
  by_cases h : wln b n p = 0
  · omega
  · have := isl_lt (wl9_all (isl b n) 9 p (wln b n p - 1) (by unfold wln at *; omega))
    omega
/-- with a fault, nothing but the place changes -/
theorem s_takeWord_f {z : zZ} {d p n : Nat} {μ : Mu} (hd : 4 ≤ d) (h2 : μ 1 2 = (p : Int)) (h3 : μ 1 3 = (n : Int)) (h4 : μ 1 4 ≠ 0) (hn : n ≤ 220) (hp : p ≤ 1000) (hb : byt (μ 2)) : ∃ q : Int, mC z d 29 [(2, 1)] μ = some (0, zup μ 1 2 q) := by
  obtain ⟨e, rfl, he⟩ := pred_of hd
  have hend : ∀ (q v : Int), f_Tape_takeWord_12 z e v 1 (zup μ 1 2 q) = some (0, zup μ 1 2 q) := by
    intro q v
    have m4 : zup μ 1 2 q 1 4 ≠ 0 := by rw [zup_nk (by omega)]; exact h4
    rw [e_Tape_takeWord_12, cF (by omega), nF m4, e_Tape_takeWord_66, nF m4, e_Tape_takeWord_78]
  rw [c_Tape_takeWord]
  cases hl : isl (μ 2) n p
  · refine ⟨(p : Int), ?_⟩
    have hs : mC z e 30 [(2, 1)] μ = some (0, μ) := by
      obtain ⟨e2, rfl, he2⟩ := pred_of he
      rw [c_Tape_takeLetter, s_atLetter he2 h2 h3 hn hb]
      simp -implicitDefEqProofs only [ob, nB, hl, cond_false]
      rw [s_fail1 (by omega) h4]
      rfl
    have hc := s_changed (z := z) (d := e) (k := 0) (c := 0) (l := 0) (μ := μ) (by omega) (by omega) (by omega) (by omega)
    simp -implicitDefEqProofs only [Int.natCast_zero] at hc
    rw [hs]
    simp -implicitDefEqProofs only [ob]
    rw [hc]
    simp -implicitDefEqProofs only [ob]
    rw [zup_self h2]
    have := hend (p : Int) (wset 0 0 0)
    rwa [zup_self h2] at this
  · refine ⟨((p + 1 : Nat) : Int), ?_⟩
    have hbb := isl_b hl
    rw [s_takeLetter he h2 h3 hn hb hl]
    simp -implicitDefEqProofs only [ob]
    have hc := s_changed (z := z) (d := e) (k := 0) (c := 0) (l := μ 2 p - 97) (μ := zup μ 1 2 ((p + 1 : Nat) : Int)) (by omega) (by omega) (by omega) (by omega)
    simp -implicitDefEqProofs only [Int.natCast_zero] at hc
    rw [hc]
    simp -implicitDefEqProofs only [ob]
    exact hend _ _
theorem s_pass {z : zZ} {d p n : Nat} {c : Int} {μ : Mu} (hd : 2 ≤ d) (h2 : μ 1 2 = (p : Int)) (h3 : μ 1 3 = (n : Int)) (h4 : μ 1 4 = 0) (hn : n ≤ 220) (hp : p ≤ 1000) : mC z d 43 [(2, 1), (0, c)] μ = some (if tx (μ 2) n p = c then (1, zup μ 1 2 ((p + 1 : Nat) : Int)) else (0, zup μ 1 4 (-1000 - (p : Int)))) := by
  obtain ⟨e, rfl, he⟩ := pred_of hd
  rw [c_Tape_pass, s_peek he h2 h3 hn]
  simp -implicitDefEqProofs only [ob]
  by_cases h : tx (μ 2) n p = c
  · rw [nT h, if_pos h, h2, zwc (by omega)]
  · rw [nF h, if_neg h, h2, s_fail0 he h4 (by omega) (by omega)]
    rfl
/-- the class's lexicon loop once a fault stands -/
theorem s_lex_f {z : zZ} {e o p n k : Nat} {μ : Mu} (he : 4 ≤ e) (ho : o = 4 ∨ o = 13) (h2 : μ 1 2 = (p : Int)) (h3 : μ 1 3 = (n : Int)) (h4 : μ 1 4 ≠ 0) (hn : n ≤ 220) (hp : p ≤ 1000) (hb : byt (μ 2)) (hk : k ≤ 12) : ∃ q : Int, f_Army_takeLexicon_2 z e o (k : Int) μ = some (μ 1 4, zup μ 1 2 q) := by
  obtain ⟨q, hq⟩ := s_takeWord_f (z := z) (d := e) he h2 h3 h4 hn hp hb
  refine ⟨q, ?_⟩
  have m4 : zup μ 1 2 q 1 4 = μ 1 4 := zup_nk (by omega)
  have h32 : ∀ v : Int, f_Army_takeLexicon_32 z e o (k : Int) v μ = some (μ 1 4, zup μ 1 2 q) := by
    intro v
    rw [e_Army_takeLexicon_32 _ _ _ _ _ _ ho, hq]
    simp -implicitDefEqProofs only [ob, m4]
    rw [nF h4, e_Army_takeLexicon_66 _ _ _ _ _ _ ho]
    simp -implicitDefEqProofs only [m4]
    rw [nF h4, e_Army_takeLexicon_79]
    simp -implicitDefEqProofs only [m4]
  rw [e_Army_takeLexicon_2 _ _ _ _ _ ho, cF (by omega)]
  by_cases h12 : k = 12
  · rw [nT (by omega), s_atLetter (by omega) h2 h3 hn hb]
    simp -implicitDefEqProofs only [ob, cB]
    cases isl (μ 2) n p
    · simp -implicitDefEqProofs only [cond_false]
      exact h32 _
    · simp -implicitDefEqProofs only [cond_true]
      rw [s_fail1 (by omega) h4]
      simp -implicitDefEqProofs only [ob]
      exact h32 _
  · rw [nF (by omega)]
    exact h32 _
theorem s_lex32_f {z : zZ} {e o p n k : Nat} {v : Int} {μ : Mu} (he : 4 ≤ e) (ho : o = 4 ∨ o = 13) (h2 : μ 1 2 = (p : Int)) (h3 : μ 1 3 = (n : Int)) (h4 : μ 1 4 ≠ 0) (hn : n ≤ 220) (hp : p ≤ 1000) (hb : byt (μ 2)) : ∃ q : Int, f_Army_takeLexicon_32 z e o (k : Int) v μ = some (μ 1 4, zup μ 1 2 q) := by
  obtain ⟨q, hq⟩ := s_takeWord_f (z := z) (d := e) he h2 h3 h4 hn hp hb
  refine ⟨q, ?_⟩
  have m4 : zup μ 1 2 q 1 4 = μ 1 4 := zup_nk (by omega)
  rw [e_Army_takeLexicon_32 _ _ _ _ _ _ ho, hq]
  simp -implicitDefEqProofs only [ob, m4]
  rw [nF h4, e_Army_takeLexicon_66 _ _ _ _ _ _ ho]
  simp -implicitDefEqProofs only [m4]
  rw [nF h4, e_Army_takeLexicon_79]
  simp -implicitDefEqProofs only [m4]
theorem s_lex66_f {z : zZ} {e o k : Nat} {v : Int} {μ : Mu} (ho : o = 4 ∨ o = 13) (h4 : μ 1 4 ≠ 0) : f_Army_takeLexicon_66 z e o (k : Int) v μ = some (μ 1 4, μ) := by
  rw [e_Army_takeLexicon_66 _ _ _ _ _ _ ho, nF h4, e_Army_takeLexicon_79]
theorem s_lex {z : zZ} {e o n : Nat} (he : 4 ≤ e) (ho : o = 4 ∨ o = 13) (hn : n ≤ 220) (j : Nat) : ∀ (k p : Nat) (μ : Mu), j + k = 12 → p ≤ n → μ 1 2 = (p : Int) → μ 1 3 = (n : Int) → μ 1 4 = 0 → byt (μ 2) → ∀ R, lexS (μ 2) n (j + 1) k p (μ (o + 5)) = R → (R.1 < 0 ∧ ∃ μ', f_Army_takeLexicon_2 z e o (k : Int) μ = some (R.1, μ') ∧ (∀ a, a ≠ 1 → a ≠ o + 5 → μ' a = μ a) ∧ μ' 1 1 = μ 1 1) ∨ (∃ (m : Nat) (μ' : Mu), R.1 = (m : Int) ∧ 1 ≤ m ∧ m ≤ 12 ∧ μ' (o + 5) = R.2 ∧ (∀ a, a ≠ 1 → a ≠ o + 5 → μ' a = μ a) ∧ μ' 1 1 = μ 1 1 ∧ f_Army_takeLexicon_2 z e o (k : Int) μ = (mC z e 34 [(2, (o : Int)), (0, (m : Int))] μ').bind fun q3 => some (q3.2 o 6, q3.2)) := by
  induction j using Nat.strongRecOn with
  | ind j ih =>
    intro k p μ hjk hp h2 h3 h4 hb R hR
    have o5 : o + 5 ≠ 1 ∧ o + 5 ≠ 2 := by omega
    have hall := wln_b (b := μ 2) (n := n) (p := p)
    have hwn := wln_n (b := μ 2) hp
    have h9 : wln (μ 2) n p ≤ 9 := wl9_le (isl (μ 2) n) 9 p
    simp only [lexS] at hR
    by_cases c1 : k = 12 ∧ isl (μ 2) n p = true
    · rw [if_pos c1] at hR
      subst hR
      left
      refine ⟨by show -4000 - (p : Int) < 0; omega, ?_⟩
      have m2 : zup μ 1 4 (-4000 - (p : Int)) 1 2 = (p : Int) := by rw [zup_nk (by omega)]; exact h2
      have m3 : zup μ 1 4 (-4000 - (p : Int)) 1 3 = (n : Int) := by rw [zup_nk (by omega)]; exact h3
      have m4 : zup μ 1 4 (-4000 - (p : Int)) 1 4 = -4000 - (p : Int) := zup_hit
      have mb : zup μ 1 4 (-4000 - (p : Int)) 2 = μ 2 := zup_ro (by omega)
      obtain ⟨q, hq⟩ := s_lex32_f (z := z) (e := e) (o := o) (k := k) (v := (p : Int)) (μ := zup μ 1 4 (-4000 - (p : Int))) he ho m2 m3 (by rw [m4]; omega) hn (by omega) (by rw [mb]; exact hb)
      refine ⟨zup (zup μ 1 4 (-4000 - (p : Int))) 1 2 q, ?_, ?_, ?_⟩
      · rw [e_Army_takeLexicon_2 _ _ _ _ _ ho, cF (by omega), nT (by omega), s_atLetter (by omega) h2 h3 hn hb, c1.2]
        simp -implicitDefEqProofs only [ob, cB, cond_true]
        rw [h2, s_fail0 (by omega) h4 (by omega) (by omega)]
        simp -implicitDefEqProofs only [ob]
        rw [show (-1000 * 4 - (p : Int)) = -4000 - (p : Int) by omega, hq, m4]
      · intro a h1 _
        rw [zup_ro h1, zup_ro h1]
      · rw [zup_nk (by omega), zup_nk (by omega)]
    · rw [if_neg c1] at hR
      have h32 : f_Army_takeLexicon_2 z e o (k : Int) μ = f_Army_takeLexicon_32 z e o (k : Int) (p : Int) μ := by
        rw [e_Army_takeLexicon_2 _ _ _ _ _ ho, cF (by omega)]
        by_cases h12 : k = 12
        · have hl : isl (μ 2) n p = false := by
            cases hl : isl (μ 2) n p
            · rfl
            · exact absurd ⟨h12, hl⟩ c1
          rw [nT (by omega), s_atLetter (by omega) h2 h3 hn hb, hl]
          simp -implicitDefEqProofs only [ob, cB, cond_false]
          rw [h2]
        · rw [nF (by omega), h2]
      rw [h32]
      have hT := s_takeWord (z := z) (d := e) he h2 h3 h4 hn hp hb
      by_cases c2 : wln (μ 2) n p = 0
      · rw [if_pos c2] at hR hT
        subst hR
        left
        have m4 : zup μ 1 4 (-1000 - (p : Int)) 1 4 = -1000 - (p : Int) := zup_hit
        refine ⟨by show -1000 - (p : Int) < 0; omega, zup μ 1 4 (-1000 - (p : Int)), ?_, fun a h1 _ => zup_ro h1, zup_nk (by omega)⟩
        rw [e_Army_takeLexicon_32 _ _ _ _ _ _ ho, hT]
        simp -implicitDefEqProofs only [ob]
        rw [nF (by rw [m4]; omega), s_lex66_f ho (by rw [m4]; omega), m4]
      · rw [if_neg c2] at hR hT
        by_cases c3 : 8 < wln (μ 2) n p
        · rw [if_pos c3] at hR
          rw [if_neg (by omega)] at hT
          subst hR
          left
          have m4 : zup (zup μ 1 2 ((p + 8 : Nat) : Int)) 1 4 (-3000 - ((p + 8 : Nat) : Int)) 1 4 = -3000 - ((p + 8 : Nat) : Int) := zup_hit
          refine ⟨by show -3000 - ((p + 8 : Nat) : Int) < 0; omega, zup (zup μ 1 2 ((p + 8 : Nat) : Int)) 1 4 (-3000 - ((p + 8 : Nat) : Int)), ?_, fun a h1 _ => by rw [zup_ro h1, zup_ro h1], by rw [zup_nk (by omega), zup_nk (by omega)]⟩
          rw [e_Army_takeLexicon_32 _ _ _ _ _ _ ho, hT]
          simp -implicitDefEqProofs only [ob]
          rw [nF (by rw [m4]; omega), s_lex66_f ho (by rw [m4]; omega), m4]
        · rw [if_neg c3] at hR
          rw [if_pos (by omega)] at hT
          generalize hm : wln (μ 2) n p = m at hR hT c2 c3 hwn h9 hall
          generalize hc : wcd (μ 2) p m = c at hR hT
          have m2 : zup μ 1 2 ((p + m : Nat) : Int) 1 2 = ((p + m : Nat) : Int) := zup_hit
          have m3 : zup μ 1 2 ((p + m : Nat) : Int) 1 3 = (n : Int) := by rw [zup_nk (by omega)]; exact h3
          have m4 : zup μ 1 2 ((p + m : Nat) : Int) 1 4 = 0 := by rw [zup_nk (by omega)]; exact h4
          have m5 : zup μ 1 2 ((p + m : Nat) : Int) (o + 5) = μ (o + 5) := zup_ro (by omega)
          have hk12 : k ≠ 12 := by
            intro hk
            apply c1
            refine ⟨hk, ?_⟩
            have := wl9_all (isl (μ 2) n) 9 p 0 (by show 0 < wln (μ 2) n p; omega)
            rwa [Nat.add_zero] at this
          rw [e_Army_takeLexicon_32 _ _ _ _ _ _ ho, hT]
          simp -implicitDefEqProofs only [ob]
          rw [nT m4, s_indexOf (by omega) (wAr5 ho) (by omega), m5]
          simp -implicitDefEqProofs only [ob]
          by_cases c4 : fst1 (fun w => decide (μ (o + 5) w = c)) k = -1
          · rw [if_neg (by intro h; exact h c4)] at hR
            rw [cT c4, e_Army_takeLexicon_66 _ _ _ _ _ _ ho, nT m4, nF (by omega), gI_ok (by omega) (by omega), Int.toNat_natCast]
            generalize hM : zup (zup μ 1 2 ((p + m : Nat) : Int)) (o + 5) k c = M
            have k2 : M 1 2 = ((p + m : Nat) : Int) := by rw [← hM, zup_na (by omega)]; exact m2
            have k3 : M 1 3 = (n : Int) := by rw [← hM, zup_na (by omega)]; exact m3
            have k4 : M 1 4 = 0 := by rw [← hM, zup_na (by omega)]; exact m4
            have k1 : M 1 1 = μ 1 1 := by rw [← hM, zup_na (by omega), zup_nk (by omega)]
            have kb : M 2 = μ 2 := by rw [← hM, zup_ro (by omega), zup_ro (by omega)]
            have k5 : M (o + 5) = rup (μ (o + 5)) k c := by rw [← hM, zupr, zrow_same, m5]
            have kf : ∀ a, a ≠ 1 → a ≠ o + 5 → M a = μ a := fun a h1 h5 => by rw [← hM, zup_ro h5, zup_ro h1]
            rw [s_atEnd (by omega) k2 k3]
            simp -implicitDefEqProofs only [ob, cB]
            by_cases c5 : n ≤ p + m
            · rw [if_pos c5] at hR
              subst hR
              right
              simp -implicitDefEqProofs only [c5, decide_true, cond_true]
              refine ⟨k + 1, M, rfl, by omega, by omega, k5, kf, k1, ?_⟩
              rw [zwc (by omega)]
            · rw [if_neg c5] at hR
              simp -implicitDefEqProofs only [c5, decide_false, cond_false]
              rw [s_pass (by omega) k2 k3 k4 hn (by omega), kb]
              by_cases c6 : tx (μ 2) n (p + m) = 44
              · rw [if_pos c6] at hR ⊢
                simp -implicitDefEqProofs only [ob]
                rw [zwc (by omega)]
                obtain ⟨j', rfl⟩ : ∃ j', j = j' + 1 := ⟨j - 1, by omega⟩
                have q2 : zup M 1 2 ((p + m + 1 : Nat) : Int) 1 2 = ((p + m + 1 : Nat) : Int) := zup_hit
                have q3 : zup M 1 2 ((p + m + 1 : Nat) : Int) 1 3 = (n : Int) := by rw [zup_nk (by omega)]; exact k3
                have q4 : zup M 1 2 ((p + m + 1 : Nat) : Int) 1 4 = 0 := by rw [zup_nk (by omega)]; exact k4
                have qb : zup M 1 2 ((p + m + 1 : Nat) : Int) 2 = μ 2 := by rw [zup_ro (by omega)]; exact kb
                have q5 : zup M 1 2 ((p + m + 1 : Nat) : Int) (o + 5) = rup (μ (o + 5)) k c := by rw [zup_ro (by omega)]; exact k5
                have q1 : zup M 1 2 ((p + m + 1 : Nat) : Int) 1 1 = μ 1 1 := by rw [zup_nk (by omega)]; exact k1
                have qf : ∀ a, a ≠ 1 → a ≠ o + 5 → zup M 1 2 ((p + m + 1 : Nat) : Int) a = μ a := fun a h1 h5 => by rw [zup_ro h1]; exact kf a h1 h5
                rcases ih j' (by omega) (k + 1) (p + m + 1) _ (by omega) (by omega) q2 q3 q4 (by rw [qb]; exact hb) R (by rw [qb, q5]; exact hR) with ⟨r1, μ', r2, r3, r4⟩ | ⟨m', μ', r1, r2, r3, r4, r5, r6, r7⟩
                · left
                  exact ⟨r1, μ', r2, fun a h1 h5 => by rw [r3 a h1 h5, qf a h1 h5], by rw [r4, q1]⟩
                · right
                  exact ⟨m', μ', r1, r2, r3, r4, fun a h1 h5 => by rw [r5 a h1 h5, qf a h1 h5], by rw [r6, q1], r7⟩
              · rw [if_neg c6] at hR ⊢
                simp -implicitDefEqProofs only [ob]
                rw [zwc (by omega)]
                subst hR
                left
                refine ⟨by show -1000 - ((p + m : Nat) : Int) < 0; omega, ?_⟩
                have q2 : zup M 1 4 (-1000 - ((p + m : Nat) : Int)) 1 2 = ((p + m : Nat) : Int) := by rw [zup_nk (by omega)]; exact k2
                have q3 : zup M 1 4 (-1000 - ((p + m : Nat) : Int)) 1 3 = (n : Int) := by rw [zup_nk (by omega)]; exact k3
                have q4 : zup M 1 4 (-1000 - ((p + m : Nat) : Int)) 1 4 = -1000 - ((p + m : Nat) : Int) := zup_hit
                have qb : zup M 1 4 (-1000 - ((p + m : Nat) : Int)) 2 = μ 2 := by rw [zup_ro (by omega)]; exact kb
                obtain ⟨q, hq⟩ := s_lex_f (z := z) (e := e) (o := o) (k := k + 1) he ho q2 q3 (by rw [q4]; omega) hn (by omega) (by rw [qb]; exact hb) (by omega)
                refine ⟨_, by rw [hq, q4], fun a h1 h5 => by rw [zup_ro h1, zup_ro h1]; exact kf a h1 h5, by rw [zup_nk (by omega), zup_nk (by omega)]; exact k1⟩
          · rw [if_pos c4] at hR
            subst hR
            left
            rw [cF c4, s_fail0 (by omega) m4 (by omega) (by omega)]
            simp -implicitDefEqProofs only [ob]
            have q4 : ∀ v : Int, zup (zup μ 1 2 ((p + m : Nat) : Int)) 1 4 v 1 4 = v := fun v => zup_hit
            refine ⟨by show -6000 - (p : Int) < 0; omega, _, by rw [s_lex66_f ho (by rw [q4]; omega), q4]; rfl, fun a h1 h5 => by rw [zup_ro h1, zup_ro h1], by rw [zup_nk (by omega), zup_nk (by omega)]⟩
