/-! spies: the class and the reference -/
def dfN (W : Row) (w v : Nat) : Nat := cnt (fun k => decide (nib (W w) k ≠ nib (W v) k)) 8
theorem dfN_sym (W : Row) (w v : Nat) : dfN W w v = dfN W v w := cnt_congr (fun k _ => by apply decide_eq_decide.mpr; exact ⟨fun h q => h q.symm, fun h q => h q.symm⟩)
theorem dfN_pos {W : Row} {w v n m : Nat} (h1 : isW (W w) n) (h2 : isW (W v) m) (hne : W w ≠ W v) : 1 ≤ dfN W w v := by
  apply Classical.byContradiction
  intro h0
  refine hne (nib_ext h1.1 h2.1 (fun k hk => ?_))
  apply Classical.byContradiction
  intro hk2
  exact h0 (cnt_pos (p := fun k => decide (nib (W w) k ≠ nib (W v) k)) hk (decide_eq_true hk2))
theorem tms_zero (k x : Nat) : tms 0 k x = 0 := by
  unfold tms
  have h5 := cnt_ext (p := fun j => decide (nib 0 j = x + 1)) (n := 0) (N := k) (by omega) (fun j _ => by
    apply decide_eq_false
    rw [nib_zero]
    omega)
  rw [h5]
  rfl
/-- a set of words none of which is near another -/
def frS (N : Nat) (W : Row) (L : Nat → Nat) (T : Nat) : Prop := ∀ w v, w < N → v < w → T.testBit w = true → T.testBit v = true → ¬ (L w = L v ∧ dfN W w v < 3)
def clN (N : Nat) (W : Row) (L : Nat → Nat) (w : Nat) : Nat := bset (nrB W L w 1 2) N
theorem okT_fr {N T : Nat} {W : Row} {L : Nat → Nat} (hN : N ≤ 12) (hT : T < 2 ^ N) (hW : ∀ w, w < N → isW (W w) (L w)) (hi : ∀ v w, v < N → w < N → W v = W w → v = w) : okT (fun w => decide (w < N)) (clN N W L) (fun _ => tms 0 8) 12 (fun _ => 0) 0 T 12 ↔ frS N W L T := by
  have hcl : ∀ w v, v < N → ((clN N W L w).testBit v = false ↔ ¬ (L w = L v ∧ 1 ≤ dfN W w v ∧ dfN W w v ≤ 2)) := fun w v hv => by
    unfold clN
    rw [bset_bit, decide_eq_true hv, Bool.true_and]
    show (decide (L w = L v) && decide (1 ≤ dfN W w v ∧ dfN W w v ≤ 2)) = false ↔ _
    by_cases h1 : L w = L v
    · rw [decide_eq_true h1, Bool.true_and]
      constructor
      · intro h q
        exact absurd q.2 (of_decide_eq_false h)
      · intro h
        exact decide_eq_false (fun q => h ⟨h1, q⟩)
    · rw [decide_eq_false h1, Bool.false_and]
      exact ⟨fun _ q => h1 q.1, fun _ => rfl⟩
  constructor
  · rintro ⟨_, h2, _⟩ w v hw hv tw tv hh
    have hb := (h2 v (by omega) tv).2.2 w hv (by omega) tw
    have h3 := (hcl v w hw).mp hb
    have hp := dfN_pos (hW w hw) (hW v (by omega)) (fun q => by have := hi w v hw (by omega) q; omega)
    rw [dfN_sym] at h3
    exact h3 ⟨hh.1.symm, by omega, by omega⟩
  · intro h
    refine ⟨cnt_le _ _, fun w hw tw => ⟨decide_eq_true (bit_lt hT tw), Nat.and_zero _, fun v hv hv12 tv => ?_⟩, fun x _ => ?_⟩
    · have hvN := bit_lt hT tv
      refine (hcl w v hvN).mpr (fun q => ?_)
      refine h v w hvN hv tv tw ⟨q.1.symm, ?_⟩
      rw [dfN_sym]
      omega
    · have h9 : smT (fun _ => tms 0 8 x) T 12 ≤ ((12 : Nat) : Int) * 0 := smT_le (val := fun _ => tms 0 8 x) (T := T) (b := 0) (fun w => by rw [tms_zero]; exact ⟨Int.le_refl _, Int.le_refl _⟩) 12
      rw [Int.mul_zero] at h9
      exact h9
noncomputable def spT (N : Nat) (W : Row) (L : Nat → Nat) : Int × Nat := scn (gT (fun _ => 1) (fun w => decide (w < N)) (clN N W L) (fun _ => tms 0 8) 12 (fun _ => 0) 0 0 12) 4096 (-1, 0)
theorem s_spyloop {z : zZ} {e s N : Nat} {v : Int} {L : Nat → Nat} {μ : Mu} (he : 17 ≤ e) (hs : s < 2) (hn : μ (4 + 9 * s) 6 = (N : Int)) (h12 : N ≤ 12) (hW : ∀ w, w < N → isW (μ (4 + 9 * s + 4) w) (L w)) : ∀ (j k : Nat) (M : Mu), j + k = N → (∀ a, (a < 23 + 6 * s ∨ 23 + 6 * s + 5 < a) → M a = μ a) → M (23 + 6 * s) 5 = ((bset (fun _ => true) k : Nat) : Int) → (∀ w, w < k → M (23 + 6 * s + 1) w = 1 ∧ M (23 + 6 * s + 2) w = ((clN N (μ (4 + 9 * s + 4)) L w : Nat) : Int) ∧ M (23 + 6 * s + 3) w = pkr (tms 0 8) 0 6 ∧ M (23 + 6 * s + 4) w = pkr (tms 0 8) 6 6) → ∃ R, f_W_spy_68 z e v (4 + 9 * s) (23 + 6 * s) (k : Int) M = some (if v = 1 then (spT N (μ (4 + 9 * s + 4)) L).1 else (((spT N (μ (4 + 9 * s + 4)) L).2 : Nat) : Int), R) ∧ ∀ a, (a < 23 + 6 * s ∨ 23 + 6 * s + 5 < a) → R a = μ a := by
  have hH : isH (23 + 6 * s) := by unfold isH; omega
  intro j
  induction j with
  | zero =>
    intro k M hj hM h5 hV
    have : k = N := by omega
    subst this
    have hlt := bset_lt (fun _ => true) k
    have hb := fun w => bset_bit (fun _ => true) k w
    have hus : (fun w => (bset (fun _ => true) k).testBit w) = (fun w => decide (w < k)) := funext (fun w => by rw [hb w, Bool.and_true])
    have hS := s_search (z := z) (d := e) (o := 23 + 6 * s) (O := bset (fun _ => true) k) (room := 12) (fl := -1) (val := fun _ => 1) (cl := clN k (μ (4 + 9 * s + 4)) L) (nd := fun _ => tms 0 8) (st := fun _ => 0) (μ := M) (by omega) hH h5 (f4096 hlt h12) (fun w _ hu => by
      rw [hb w, Bool.and_true] at hu
      obtain ⟨q1, q2, q3, q4⟩ := hV w (of_decide_eq_true hu)
      exact ⟨⟨q1, by omega⟩, ⟨q2, f4096 (bset_lt _ _) h12⟩, q3, q4⟩) (fun w x => tms_rg 0 8 x) (fun x _ => by omega) (by omega)
    rw [hus] at hS
    obtain ⟨R, m1, m2, m3, m4, m5⟩ := hS
    have e0 : stk (fun _ => 0) 0 = 141289400074368 := rfl
    have e6 : stk (fun _ => 0) 6 = 141289400074368 := rfl
    rw [e0, e6] at m1
    have m1' : mC z e 111 [(2, ((23 + 6 * s : Nat) : Int)), (1, 141289400074368), (1, 141289400074368), (0, 12), (0, -1)] M = some ((spT k (μ (4 + 9 * s + 4)) L).1, R) := m1
    refine ⟨R, ?_, fun a ha => by rw [m4 a (by omega) (by omega)]; exact hM a ha⟩
    rw [e_W_spy_68 _ _ _ _ _ _ _ (o9 hs) hH, hM _ (by omega), hn, cT (by omega), m1']
    simp -implicitDefEqProofs only [ob]
    by_cases h : v = 1
    · rw [nT h, if_pos h, e_W_spy_143, m2]; rfl
    · rw [nF h, if_neg h, e_W_spy_143, m3]; rfl
  | succ j ih =>
    intro k M hj hM h5 hV
    have r0 : M (4 + 9 * s) = μ (4 + 9 * s) := hM _ (by omega)
    have r4 : M (4 + 9 * s + 4) = μ (4 + 9 * s + 4) := hM _ (by omega)
    have hlt := f4096 (bset_lt (fun _ => true) k) (show k ≤ 12 by omega)
    have hbs := or_bset (p := fun _ => true) (k := k)
    rw [if_pos rfl] at hbs
    rw [e_W_spy_68 _ _ _ _ _ _ _ (o9 hs) hH, r0, hn, cF (by omega), s_offer (O := bset (fun _ => true) k) (by omega) hH (by omega) h5 hlt]
    simp -implicitDefEqProofs only [ob]
    generalize hX : zup (zup (zup (zup M (23 + 6 * s) 5 ((bset (fun _ => true) k ||| 2 ^ k : Nat) : Int)) (23 + 6 * s + 1) k 1) (23 + 6 * s + 3) k (pkr (tms 0 8) 0 6)) (23 + 6 * s + 4) k (pkr (tms 0 8) 6 6) = X
    have xr : ∀ a, a ≠ 23 + 6 * s → a ≠ 23 + 6 * s + 1 → a ≠ 23 + 6 * s + 3 → a ≠ 23 + 6 * s + 4 → X a = M a := fun a q1 q2 q3 q4 => by subst hX; rw [zup_ro q4, zup_ro q3, zup_ro q2, zup_ro q1]
    have x5 : X (23 + 6 * s) 5 = ((bset (fun _ => true) (k + 1) : Nat) : Int) := by subst hX; rw [zup_ro (by omega), zup_ro (by omega), zup_ro (by omega), hbs]; exact zup_hit
    have x1 : X (23 + 6 * s + 1) k = 1 ∧ ∀ w, w ≠ k → X (23 + 6 * s + 1) w = M (23 + 6 * s + 1) w := by subst hX; exact ⟨by rw [zup_ro (by omega), zup_ro (by omega)]; exact zup_hit, fun w q => by rw [zup_ro (by omega), zup_ro (by omega), zup_nk q, zup_ro (by omega)]⟩
    have x3 : X (23 + 6 * s + 3) k = pkr (tms 0 8) 0 6 ∧ ∀ w, w ≠ k → X (23 + 6 * s + 3) w = M (23 + 6 * s + 3) w := by subst hX; exact ⟨by rw [zup_ro (by omega)]; exact zup_hit, fun w q => by rw [zup_ro (by omega), zup_nk q, zup_ro (by omega), zup_ro (by omega)]⟩
    have x4 : X (23 + 6 * s + 4) k = pkr (tms 0 8) 6 6 ∧ ∀ w, w ≠ k → X (23 + 6 * s + 4) w = M (23 + 6 * s + 4) w := by subst hX; exact ⟨zup_hit, fun w q => by rw [zup_nk q, zup_ro (by omega), zup_ro (by omega), zup_ro (by omega)]⟩
    clear hX
    have y0 : X (4 + 9 * s) = μ (4 + 9 * s) := by rw [xr _ (by omega) (by omega) (by omega) (by omega)]; exact r0
    have y4 : X (4 + 9 * s + 4) = μ (4 + 9 * s + 4) := by rw [xr _ (by omega) (by omega) (by omega) (by omega)]; exact r4
    have hnr := s_nearTo (z := z) (d := e) (o := 4 + 9 * s) (n := N) (w := k) (a := 1) (b := 2) (L := L) (μ := X) (by omega) (o9 hs) (by rw [y0]; exact hn) h12 (by omega) (fun v hv => by rw [y4]; exact hW v hv)
    rw [y4] at hnr
    have hnr' : mC z e 135 [(2, ((4 + 9 * s : Nat) : Int)), (0, (k : Int)), (0, 1), (0, 2)] X = some (((clN N (μ (4 + 9 * s + 4)) L k : Nat) : Int), X) := hnr
    rw [hnr']
    simp -implicitDefEqProofs only [ob]
    rw [gI_ok (by omega) (by omega), Int.toNat_natCast, zwc (by omega)]
    refine ih (k + 1) _ (by omega) (fun a ha => by rw [zup_ro (by omega), xr a (by omega) (by omega) (by omega) (by omega)]; exact hM a ha) (by rw [zup_ro (by omega)]; exact x5) (fun w hw2 => ?_)
    by_cases e1 : w = k
    · subst e1
      exact ⟨by rw [zup_ro (by omega)]; exact x1.1, zup_hit, by rw [zup_ro (by omega)]; exact x3.1, by rw [zup_ro (by omega)]; exact x4.1⟩
    · obtain ⟨q1, q2, q3, q4⟩ := hV w (by omega)
      exact ⟨by rw [zup_ro (by omega), x1.2 w e1]; exact q1, by rw [zup_nk e1, xr _ (by omega) (by omega) (by omega) (by omega)]; exact q2, by rw [zup_ro (by omega), x3.2 w e1]; exact q3, by rw [zup_ro (by omega), x4.2 w e1]; exact q4⟩
