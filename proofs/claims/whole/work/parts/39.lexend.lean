/-! a new lexicon is taken: the words that stand -/
theorem stB_get {st W : Row} {f : Nat} (N : Nat) : ∀ w, w < N → f.testBit w = true → stB st f W N (cnt f.testBit w) = W w := by
  induction N with
  | zero => intro w hw; omega
  | succ N ih =>
    intro w hw hb
    unfold stB
    by_cases hwN : w = N
    · subst hwN
      rw [if_pos hb, rup_same]
    · have hm := cnt_mono f.testBit (n := w + 1) (m := N) (by omega)
      rw [cnt_succ, hb] at hm
      simp only [if_true] at hm
      split
      · rw [rup_ne (by omega)]; exact ih w (by omega) hb
      · exact ih w (by omega) hb
def hmW (h : Row) (f : Nat) (W V : Row) (m b : Nat) : Nat → Row
  | 0 => h
  | w + 1 => if f.testBit w = true ∧ fst1 (fun v => decide (V v = W w)) m = -1 then homeB (hmW h f W V m b w) b (W w) 8 else hmW h f W V m b w
theorem hr_hmW {h W V : Row} {f m b : Nat} (hh : hr h) (w : Nat) : hr (hmW h f W V m b w) := by
  induction w with
  | zero => exact hh
  | succ w ih =>
    unfold hmW
    split
    · exact hr_homeB ih 8
    · exact ih
theorem ldH_hmW {h W V st : Row} {f m b N : Nat} : ∀ w, w ≤ N → ldH h V (stB st f W N) m b (cnt f.testBit w) = hmW h f W V m b w := by
  intro w
  induction w with
  | zero => intro _; rfl
  | succ w ih =>
    intro hw
    unfold hmW
    rw [cnt_succ]
    cases hb : f.testBit w
    · rw [if_neg (by decide), Nat.add_zero, if_neg (by simp), ih (by omega)]
    · have hg := stB_get (st := st) (W := W) N w (by omega) hb
      rw [if_pos rfl]
      show (if fst1 (fun v => decide (V v = stB st f W N (cnt f.testBit w))) m = -1 then _ else _) = _
      rw [hg, ih (by omega)]
      by_cases hc : fst1 (fun v => decide (V v = W w)) m = -1
      · rw [if_pos hc, if_pos ⟨rfl, hc⟩]
      · rw [if_neg hc, if_neg (fun h => hc h.2)]
theorem fst1_eq {p : Nat → Bool} {n w : Nat} (hw : w < n) (hp : p w = true) (hu : ∀ v, v < n → p v = true → v = w) : fst1 p n = (w : Int) := by
  rcases fst1_sp p n with ⟨_, g2⟩ | ⟨u, g1, g2, g3, _⟩
  · rw [g2 w hw] at hp; cases hp
  · rw [g1, hu u g2 g3]
theorem ldF_bit {V st : Row} {m : Nat} (hd : ∀ v w, v < m → w < m → V v = V w → v = w) (v : Nat) : ∀ i, (ldF V st m i).testBit v = true ↔ v < m ∧ ∃ q, q < i ∧ V v = st q := by
  intro i
  induction i with
  | zero => simp [ldF]
  | succ i ih =>
    unfold ldF
    rcases fst1_sp (fun w => decide (V w = st i)) m with ⟨g1, g2⟩ | ⟨u, g1, g2, g3, g4⟩
    · rw [if_pos g1, ih]
      constructor
      · rintro ⟨h1, q, h2, h3⟩
        exact ⟨h1, q, by omega, h3⟩
      · rintro ⟨h1, q, h2, h3⟩
        refine ⟨h1, q, ?_, h3⟩
        apply Nat.lt_of_le_of_ne (by omega)
        intro hq
        subst hq
        have := g2 v h1
        simp at this
        exact this h3
    · rw [if_neg (by rw [g1]; omega), g1, Int.toNat_natCast, Nat.testBit_or, Bool.or_eq_true, ih]
      have g3' : V u = st i := by simpa using g3
      constructor
      · rintro (⟨h1, q, h2, h3⟩ | h)
        · exact ⟨h1, q, by omega, h3⟩
        · have : u = v := by
            have := Nat.testBit_two_pow (n := u) (m := v)
            rw [h] at this
            simpa using this.symm
          subst this
          exact ⟨g2, i, by omega, g3'⟩
      · rintro ⟨h1, q, h2, h3⟩
        by_cases hq : q = i
        · subst hq
          right
          have : v = u := hd v u h1 g2 (by rw [h3, g3'])
          subst this
          exact Nat.testBit_two_pow_self
        · left
          exact ⟨h1, q, by omega, h3⟩
theorem stB_ex {st W : Row} {f N : Nat} {x : Int} : (∃ q, q < cnt f.testBit N ∧ x = stB st f W N q) ↔ ∃ w, w < N ∧ f.testBit w = true ∧ x = W w := by
  constructor
  · have : ∀ n, n ≤ N → ∀ q, q < cnt f.testBit n → ∃ w, w < n ∧ f.testBit w = true ∧ q = cnt f.testBit w := by
      intro n
      induction n with
      | zero => intro _ q hq; simp [cnt] at hq
      | succ n ih =>
        intro hn q hq
        rw [cnt_succ] at hq
        by_cases h : q < cnt f.testBit n
        · obtain ⟨w, h1, h2, h3⟩ := ih (by omega) q h
          exact ⟨w, by omega, h2, h3⟩
        · cases hb : f.testBit n
          · rw [hb] at hq; simp at hq; omega
          · rw [hb] at hq; simp at hq
            exact ⟨n, by omega, hb, by omega⟩
    rintro ⟨q, h1, h2⟩
    obtain ⟨w, g1, g2, g3⟩ := this N (Nat.le_refl _) q h1
    refine ⟨w, g1, g2, ?_⟩
    rw [h2, g3, stB_get N w g1 g2]
  · rintro ⟨w, h1, h2, h3⟩
    refine ⟨cnt f.testBit w, ?_, ?_⟩
    · have hm := cnt_mono f.testBit (n := w + 1) (m := N) (by omega)
      rw [cnt_succ, h2] at hm
      simp at hm
      omega
    · rw [h3, stB_get N w h1 h2]
def nwF (f : Nat) (W V : Row) (N m : Nat) : Nat := bset (fun v => decide (fst1 (fun w => decide (W w = V v)) N ≠ -1) && f.testBit (fst1 (fun w => decide (W w = V v)) N).toNat) m
theorem ldF_nwF {V W st : Row} {f N m : Nat} (hV : ∀ v w, v < m → w < m → V v = V w → v = w) (hW : ∀ v w, v < N → w < N → W v = W w → v = w) : ldF V (stB st f W N) m (cnt f.testBit N) = nwF f W V N m := by
  apply Nat.eq_of_testBit_eq
  intro v
  unfold nwF
  rw [bset_bit]
  apply Bool.eq_iff_iff.mpr
  rw [ldF_bit hV, stB_ex, Bool.and_eq_true, Bool.and_eq_true, decide_eq_true_eq, decide_eq_true_eq]
  constructor
  · rintro ⟨h1, w, h2, h3, h4⟩
    have hf : fst1 (fun w => decide (W w = V v)) N = (w : Int) := fst1_eq h2 (by simp [h4]) (fun u hu hp => hW u w hu h2 (by simp at hp; rw [hp, h4]))
    rw [hf, Int.toNat_natCast]
    exact ⟨h1, by omega, h3⟩
  · rintro ⟨h1, h2, h3⟩
    rcases fst1_sp (fun w => decide (W w = V v)) N with ⟨g1, g2⟩ | ⟨u, g1, g2, g3, g4⟩
    · exact absurd g1 h2
    · rw [g1, Int.toNat_natCast] at h3
      exact ⟨h1, u, g2, h3, by simp at g3; exact g3.symm⟩
theorem rup2 {h : Row} {i j : Nat} {v w : Int} {q : Nat} : rup (rup h i v) j w q = if q = j then w else if q = i then v else h q := rfl
/-- the class takes the new words -/
theorem s_adopt {z : zZ} {d o N f m : Nat} {μ : Mu} (hd : 5 ≤ d) (ho : o = 4 ∨ o = 13) (hn : μ o 6 = (N : Int)) (h12 : N ≤ 12) (hf : μ o 7 = (f : Int)) (h4 : f < 4096) (h6 : cnt f.testBit 12 ≤ 6) (hm : m ≤ 12) (hh : hr (μ (o + 3))) : ∃ μ', mC z d 34 [(2, (o : Int)), (0, (m : Int))] μ = some (0, μ') ∧ μ' (o + 4) = cpy (μ (o + 5)) (μ (o + 4)) 12 ∧ μ' (o + 3) = hmW (μ (o + 3)) f (μ (o + 4)) (cpy (μ (o + 5)) (μ (o + 4)) 12) m 0 N ∧ μ' o = rup (rup (μ o) 6 (m : Int)) 7 ((ldF (cpy (μ (o + 5)) (μ (o + 4)) 12) (stB (μ (o + 8)) f (μ (o + 4)) N) m (cnt f.testBit N) : Nat) : Int) ∧ ∀ a, a ≠ o → a ≠ o + 3 → a ≠ o + 4 → a ≠ o + 6 → a ≠ o + 7 → a ≠ o + 8 → μ' a = μ a := by
  obtain ⟨e, rfl, he⟩ := pred_of hd
  have hc : isC (o + 6) := by unfold isC; omega
  rw [c_Army_adopt _ _ _ _ _ ho, s_saveTo (by omega) ho hc hn h12 hf h4 h6]
  simp -implicitDefEqProofs only [ob]
  have hcN := cnt_mono f.testBit (n := N) (m := 12) h12
  generalize hM : zrow (zrow (zrow μ (o + 6 + 1) (cpy (μ (o + 3)) (μ (o + 6 + 1)) 36)) (o + 6 + 2) (stB (μ (o + 6 + 2)) f (μ (o + 4)) N)) (o + 6) (rup (μ (o + 6)) 2 ((cnt f.testBit N : Nat) : Int)) = M
  have r : ∀ a, a ≠ o + 6 → a ≠ o + 7 → a ≠ o + 8 → M a = μ a := fun a h1 h2 h3 => by rw [← hM, zrow_ne h1, zrow_ne h3, zrow_ne h2]
  have r6 : M (o + 6) = rup (μ (o + 6)) 2 ((cnt f.testBit N : Nat) : Int) := by rw [← hM, zrow_same]
  have r8 : M (o + 6 + 2) = stB (μ (o + 8)) f (μ (o + 4)) N := by rw [← hM, zrow_ne (by omega), zrow_same]
  have r7 : M (o + 6 + 1) = cpy (μ (o + 3)) (μ (o + 6 + 1)) 36 := by rw [← hM, zrow_ne (by omega), zrow_ne (by omega), zrow_same]
  rw [zcpy0]
  generalize hK : zup (zrow M (o + 4) (cpy (M (o + 5)) (M (o + 4)) 12)) o 6 (m : Int) = K
  have k : ∀ a, a ≠ o → a ≠ o + 4 → K a = M a := fun a h1 h2 => by rw [← hK, zup_ro h1, zrow_ne h2]
  have k4 : K (o + 4) = cpy (μ (o + 5)) (μ (o + 4)) 12 := by rw [← hK, zup_ro (by omega), zrow_same, r _ (by omega) (by omega) (by omega), r _ (by omega) (by omega) (by omega)]
  have ko : K o = rup (μ o) 6 (m : Int) := by rw [← hK, zupr, zrow_same, zrow_ne (by omega), r _ (by omega) (by omega) (by omega)]
  have k3 : K (o + 3) = μ (o + 3) := by rw [k _ (by omega) (by omega), r _ (by omega) (by omega) (by omega)]
  have k7 : cpy (K (o + 6 + 1)) (K (o + 3)) 36 = μ (o + 3) := by
    rw [k _ (by omega) (by omega), k3, r7]
    funext j
    unfold cpy
    split <;> rfl
  have k8 : K (o + 6 + 2) = stB (μ (o + 8)) f (μ (o + 4)) N := by rw [k _ (by omega) (by omega), r8]
  have hl := s_loadFrom (z := z) (d := e) (o := o) (c := o + 6) (N := m) (m := cnt f.testBit N) (μ := K) he ho hc (by rw [ko, rup_same]) hm (by rw [k _ (by omega) (by omega), r6, rup_same]) (by omega) (by rw [k7]; exact hh)
  rw [k7, k4, k8, ko, ldH_hmW N (Nat.le_refl _)] at hl
  rw [hl]
  simp -implicitDefEqProofs only [ob]
  refine ⟨_, rfl, ?_, ?_, ?_, ?_⟩
  · rw [zrow_ne (by omega), zrow_ne (by omega), k4]
  · rw [zrow_ne (by omega), zrow_same]
  · rw [zrow_same]
  · intro a h1 h2 h3 h5 h7 h8
    rw [zrow_ne h1, zrow_ne h2, k a h1 h3, r a h5 h7 h8]
