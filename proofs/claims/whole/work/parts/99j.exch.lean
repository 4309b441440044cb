/-! exchanges: what is asked of the scan -/
theorem scn_le {f : Nat → Option (Int × Nat)} {p : Int × Nat} {b : Int} (hp : p.1 ≤ b) : ∀ n, (∀ i, i < n → ∀ q, f i = some q → q.1 ≤ b) → (scn f n p).1 ≤ b := by
  intro n
  induction n with
  | zero => intro _; exact hp
  | succ n ih =>
    intro h
    have h1 := ih (fun i hi => h i (by omega))
    show (stp2 (scn f n p) (f n)).1 ≤ b
    cases hf : f n with
    | none => exact h1
    | some q =>
      have h2 := h n (by omega) q hf
      show (if (scn f n p).1 < q.1 then q else scn f n p).1 ≤ b
      split
      · exact h2
      · exact h1
theorem scn_mono {f g : Nat → Option (Int × Nat)} {p p' : Int × Nat} (hp : p.1 ≤ p'.1) : ∀ n, (∀ i, i < n → ∀ q, f i = some q → ∃ q', g i = some q' ∧ q.1 ≤ q'.1) → (scn f n p).1 ≤ (scn g n p').1 := by
  intro n
  induction n with
  | zero => intro _; exact hp
  | succ n ih =>
    intro h
    have h1 := ih (fun i hi => h i (by omega))
    show (stp2 (scn f n p) (f n)).1 ≤ (stp2 (scn g n p') (g n)).1
    have h3 : (scn g n p').1 ≤ (stp2 (scn g n p') (g n)).1 := by
      cases hg : g n with
      | none => exact Int.le_refl _
      | some q =>
        show _ ≤ (if (scn g n p').1 < q.1 then q else scn g n p').1
        split <;> omega
    cases hf : f n with
    | none =>
      show (scn f n p).1 ≤ _
      omega
    | some q =>
      obtain ⟨q', g1, g2⟩ := h n (by omega) q hf
      rw [g1] at h3 ⊢
      show (if (scn f n p).1 < q.1 then q else scn f n p).1 ≤ _
      have h4 : q'.1 ≤ (stp2 (scn g n p') (some q')).1 := stp2_ge _ _
      split <;> omega
theorem bsT_rg {N f room : Nat} {val W : Nat → Int} {st : Nat → Int} (hv : ∀ w, 0 ≤ val w ∧ val w ≤ 9999) : -1 ≤ (bsT N f val W room st (-1)).1 ∧ (bsT N f val W room st (-1)).1 ≤ 119988 := by
  refine ⟨scn_ge _, scn_le (by omega) _ (fun i hi q hq => ?_)⟩
  by_cases h : okT (fun w => decide (w < N) && !f.testBit w) (fun _ => 0) (fun w => tms (W w) 8) room st 0 i 12
  · rw [gT_y h] at hq
    have h1 := Option.some.inj hq
    have h2 := smT_le (val := val) (T := i) (b := 9999) hv 12
    rw [← h1]
    show (0 : Int) + smT val i 12 ≤ 119988
    omega
  · rw [gT_n h] at hq
    exact absurd hq (by simp)
theorem bsT_fl {N f room : Nat} {val W : Nat → Int} {st : Nat → Int} {fl : Int} (h : -1 ≤ fl) : (bsT N f val W room st fl).1 = if (bsT N f val W room st (-1)).1 < fl then fl else (bsT N f val W room st (-1)).1 := scn_floor h 4096
/-- how many of a letter the words that do not stand have -/
def ned (f : Nat) (W : Nat → Int) (x k : Nat) : Int := sm (fun w => if f.testBit w = true then 0 else tms (W w) 8 x) k
theorem ned_ge {N f T x : Nat} {W : Nat → Int} (hT : ∀ w, w < 12 → T.testBit w = true → (decide (w < N) && !f.testBit w) = true) : ∀ k, k ≤ 12 → smT (fun w => tms (W w) 8 x) T k ≤ ned f W x (if k ≤ N then k else N) := by
  have hnn : ∀ k, ned f W x k ≤ ned f W x (k + 1) := fun k => by
    show ned f W x k ≤ ned f W x k + (if f.testBit k = true then 0 else tms (W k) 8 x)
    have := tms_rg (W k) 8 x
    split <;> omega
  intro k
  induction k with
  | zero => intro _; rw [if_pos (by omega)]; exact Int.le_refl _
  | succ k ih =>
    intro hk
    have h1 := ih (by omega)
    rw [smT_s]
    by_cases hb : T.testBit k = true
    · have h2 := hT k (by omega) hb
      rw [Bool.and_eq_true] at h2
      have h3 := of_decide_eq_true h2.1
      have h4 : f.testBit k = false := by simpa using h2.2
      rw [if_pos hb, if_pos (by omega)]
      rw [if_pos (by omega)] at h1
      have h5 : ned f W x (k + 1) = ned f W x k + (if f.testBit k = true then 0 else tms (W k) 8 x) := rfl
      rw [h4, if_neg (by decide)] at h5
      omega
    · rw [if_neg hb, Int.add_zero]
      by_cases h2 : k + 1 ≤ N
      · rw [if_pos h2]
        rw [if_pos (by omega)] at h1
        have := hnn k
        omega
      · rw [if_neg h2]
        by_cases h3 : k ≤ N
        · have : k = N := by omega
          subst this
          rw [if_pos h3] at h1
          exact h1
        · rw [if_neg h3] at h1
          exact h1
theorem clq_mono {a b : Int} (h : a ≤ b) : clq a ≤ clq b := by
  unfold clq
  by_cases h1 : 100 < a
  · rw [if_pos h1, if_pos (by omega), if_pos (by omega), if_pos (by omega)]
    omega
  · rw [if_neg h1]
    by_cases h2 : 100 < b
    · rw [if_pos h2, if_pos (show (0 : Int) < 100 by omega)]
      split <;> omega
    · rw [if_neg h2]
      split <;> split <;> omega
/-- a letter that nobody needs brings nothing -/
theorem bsT_need {N f room a b : Nat} {val W : Nat → Int} {h : Row} (hh : hr h) (hN : N ≤ 12) (hb : b < 12) (hne : a ≠ b) (hn : ned f W b N ≤ h b) : (bsT N f val W room (stq h (b : Int) (a : Int)) (-1)).1 ≤ (bsT N f val W room (stq h (-1) (-1)) (-1)).1 := by
  refine scn_mono (Int.le_refl _) _ (fun T hT q hq => ?_)
  by_cases hok : okT (fun w => decide (w < N) && !f.testBit w) (fun _ => 0) (fun w => tms (W w) 8) room (stq h (b : Int) (a : Int)) 0 T 12
  · rw [gT_y hok] at hq
    have hok2 : okT (fun w => decide (w < N) && !f.testBit w) (fun _ => 0) (fun w => tms (W w) 8) room (stq h (-1) (-1)) 0 T 12 := by
      refine ⟨hok.1, hok.2.1, fun x hx => ?_⟩
      have h3 := hok.2.2 x hx
      rw [stq_no]
      by_cases e : x = b
      · subst e
        have h1 := ned_ge (x := x) (W := W) (fun w hw ht => (hok.2.1 w hw ht).1) 12 (Nat.le_refl _)
        have h2 := smT_le (val := fun w => tms (W w) 8 x) (T := T) (b := 8) (fun w => tms_rg (W w) 8 x) 12
        have h5 := clq_id (v := h x) (hh x).1
        have h6 : ned f W x (if 12 ≤ N then 12 else N) ≤ h x := by
          by_cases e2 : 12 ≤ N
          · have : N = 12 := by omega
            subst this
            rw [if_pos e2]; exact hn
          · rw [if_neg e2]; exact hn
        show smT (fun w => tms (W w) 8 x) T 12 ≤ clq (h x)
        omega
      · have h1 : stq h (b : Int) (a : Int) x ≤ clq (h x) := by
          unfold stq
          refine clq_mono ?_
          rw [if_neg (by omega)]
          split <;> omega
        omega
    exact ⟨q, by rw [gT_y hok2]; exact hq, Int.le_refl _⟩
  · rw [gT_n hok] at hq
    exact absurd hq (by simp)
/-! exchanges: the class -/
def XC (μ : Mu) (N F : Nat → Nat) (val : Nat → Nat → Int) (M : Mu) : Prop := QC μ M ∧ ∀ t, t < 2 → CHP M t (N t) (F t) (val t) (μ (4 + 9 * t + 4))
theorem CHP_congr {M M' : Mu} {s N f : Nat} {val W : Nat → Int} (h : CHP M s N f val W) (h5 : M' (23 + 6 * s) 5 = M (23 + 6 * s) 5) (h1 : ∀ i, 1 ≤ i → i ≤ 4 → M' (23 + 6 * s + i) = M (23 + 6 * s + i)) : CHP M' s N f val W := by
  obtain ⟨O, o1, o2, o3, o4, o5⟩ := h
  refine ⟨O, o1, o2, by rw [h5]; exact o3, fun w hw hf => ?_, fun w hw => by rw [h1 2 (by omega) (by omega)]; exact o5 w hw⟩
  rw [h1 1 (by omega) (by omega), h1 3 (by omega) (by omega), h1 4 (by omega) (by omega)]
  exact o4 w hw hf
theorem QC_lo {μ M : Mu} (h : QC μ M) {a : Nat} (ha : a < 23 ∨ a = 35) : M a = μ a := by
  rcases ha with h1 | h1
  · exact h.1 a (by omega) (by omega) (by omega) (by omega) (by omega) (Or.inl h1) (Or.inl (by omega))
  · exact h.1 a (by omega) (by omega) (by omega) (by omega) (by omega) (Or.inr (by omega)) (Or.inl (by omega))
theorem XC_search {z : zZ} {d t : Nat} {come gone fl : Int} {μ M : Mu} {N F : Nat → Nat} {val : Nat → Nat → Int} {L : Nat → Nat} (hd : 17 ≤ d) (ht : t < 2) (hS : SDc μ t (N t) (F t) L) (hv : ∀ w, 0 ≤ val t w ∧ val t w ≤ 9999) (hX : XC μ N F val M) : ∃ M', mC z d 109 [(2, 0), (0, (t : Int)), (0, come), (0, gone), (0, fl)] M = some ((bsT (N t) (F t) (val t) (μ (4 + 9 * t + 4)) (6 - cnt (F t).testBit 12) (stq (μ (4 + 9 * t + 3)) come gone) fl).1, M') ∧ XC μ N F val M' := by
  obtain ⟨a1, a2, a3, a4, a5, a6, _⟩ := hS
  have r0 : M (4 + 9 * t) = μ (4 + 9 * t) := QC_lo hX.1 (Or.inl (by omega))
  have r3 : M (4 + 9 * t + 3) = μ (4 + 9 * t + 3) := QC_lo hX.1 (Or.inl (by omega))
  obtain ⟨M2, n1, n2, n3, n4, n5⟩ := s_searchBest (z := z) (d := d) (come := come) (gone := gone) (fl := fl) (μ := M) hd ht (by rw [r0]; exact a3) (f4096 a4 a2) a5 (by rw [r3]; exact a6) (hX.2 t ht) hv
  rw [r3] at n1
  refine ⟨M2, n1, QC_trans hX.1 (QC_cho ht n4), fun u hu => CHP_congr (hX.2 u hu) ?_ (fun i h1 h2 => n4 _ (by omega) (by omega))⟩
  by_cases e : u = t
  · subst e; exact n5 5 (by omega) (by omega) (by omega)
  · rw [n4 _ (by omega) (by omega)]
theorem s_wants {z : zZ} {d s N f l : Nat} {L : Nat → Nat} {μ : Mu} (hd : 3 ≤ d) (hs : s < 2) (hl : l < 12) (hS : SDc μ s N f L) : mC z d 125 [(2, 0), (0, (s : Int)), (0, (l : Int))] μ = some (bi (decide (μ (4 + 9 * s + 3) l < ned f (μ (4 + 9 * s + 4)) l N)), μ) := by
  obtain ⟨e, rfl, he⟩ := pred_of (k := 2) hd
  obtain ⟨a1, a2, a3, a4, _⟩ := hS
  have hrg : ∀ k, 0 ≤ ned f (μ (4 + 9 * s + 4)) l k ∧ ned f (μ (4 + 9 * s + 4)) l k ≤ 8 * k := by
    intro k
    induction k with
    | zero => exact ⟨Int.le_refl _, Int.le_refl _⟩
    | succ k ih =>
      have h5 : ned f (μ (4 + 9 * s + 4)) l (k + 1) = ned f (μ (4 + 9 * s + 4)) l k + (if f.testBit k = true then 0 else tms (μ (4 + 9 * s + 4) k) 8 l) := rfl
      have := tms_rg (μ (4 + 9 * s + 4) k) 8 l
      rw [h5]
      split <;> omega
  have H := down (n := N) (P := fun k => f_W_wants_13 z e (l : Int) (4 + 9 * s) (ned f (μ (4 + 9 * s + 4)) l k) (k : Int) μ = some (bi (decide (μ (4 + 9 * s + 3) l < ned f (μ (4 + 9 * s + 4)) l N)), μ))
    (by
      rw [e_W_wants_13 _ _ _ _ _ _ _ (o9 hs), a1, cT (by omega), Int.zero_add, zw_id (x := (l : Int)) (by omega) (by omega), gI_ok (by omega) (by omega), Int.toNat_natCast]
      by_cases h : μ (4 + 9 * s + 3) l < ned f (μ (4 + 9 * s + 4)) l N
      · rw [cF (by omega), decide_eq_true h, e_W_wants_71, g01_1]; rfl
      · rw [cT (by omega), decide_eq_false h, e_W_wants_71, g01_0]; rfl)
    (by
      intro k hk ih
      have h5 : ned f (μ (4 + 9 * s + 4)) l (k + 1) = ned f (μ (4 + 9 * s + 4)) l k + (if f.testBit k = true then 0 else tms (μ (4 + 9 * s + 4) k) 8 l) := rfl
      have hr0 := hrg k
      have ht := tms_rg (μ (4 + 9 * s + 4) k) 8 l
      rw [e_W_wants_13 _ _ _ _ _ _ _ (o9 hs), a1, cF (by omega), s_stands he (o9 hs) a1 a2 a3 (f4096 a4 a2)]
      simp -implicitDefEqProofs only [ob]
      rw [decide_eq_true (show (0 : Int) ≤ (k : Int) ∧ (k : Int) < (N : Int) by omega), Bool.true_and, Int.toNat_natCast, nB]
      by_cases hst : f.testBit k = true
      · rw [hst, cond_true, e_W_wants_47 _ _ _ _ _ _ _ (o9 hs), zwc (by omega)]
        rw [hst, if_pos rfl, Int.add_zero] at h5
        rw [h5] at ih
        exact ih
      · have hst' : f.testBit k = false := by simpa using hst
        have hc : ((cnt (fun j => decide ((nib (μ (4 + 9 * s + 4) k) j : Int) - 1 = (l : Int))) 8 : Nat) : Int) = tms (μ (4 + 9 * s + 4) k) 8 l := by
          unfold tms
          rw [cnt_congr (p := fun j => decide ((nib (μ (4 + 9 * s + 4) k) j : Int) - 1 = (l : Int))) (q := fun j => decide (nib (μ (4 + 9 * s + 4) k) j = l + 1)) (fun j _ => by apply decide_eq_decide.mpr; omega)]
        rw [hst', cond_false, gI_ok (by omega) (by omega), s_times he, hc]
        simp -implicitDefEqProofs only [ob]
        rw [e_W_wants_47 _ _ _ _ _ _ _ (o9 hs), zwc (by omega), zw_id (x := _ + tms (μ (4 + 9 * s + 4) k) 8 l) (by omega) (by omega)]
        rw [hst', if_neg (by decide)] at h5
        rw [h5] at ih
        exact ih) 0 (by omega)
  simp -implicitDefEqProofs only [Int.natCast_zero] at H
  rw [c_W_wants _ _ _ _ _ (by omega), Int.toNat_natCast]
  exact H
