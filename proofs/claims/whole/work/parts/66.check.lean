/-! check, both sides -/
def opM (μ : Mu) (v : Int) : Mu := zup (zup (zup (zup μ 1 2 0) 1 3 v) 1 4 0) 1 1 0
theorem s_open {z : zZ} {d : Nat} {v : Int} {μ : Mu} (hd : 1 ≤ d) (hv : v ≤ 220) : mC z d 19 [(2, 1), (0, v)] μ = some (0, opM μ v) := by
  obtain ⟨e, rfl, he⟩ := pred_of hd
  rw [c_Tape_open, if_neg (by omega)]
  rfl
theorem opM_2 {μ : Mu} {v : Int} : opM μ v 1 2 = 0 := by unfold opM; rw [zup_nk (by omega), zup_nk (by omega), zup_nk (by omega)]; exact zup_hit
theorem opM_3 {μ : Mu} {v : Int} : opM μ v 1 3 = v := by unfold opM; rw [zup_nk (by omega), zup_nk (by omega)]; exact zup_hit
theorem opM_4 {μ : Mu} {v : Int} : opM μ v 1 4 = 0 := by unfold opM; rw [zup_nk (by omega)]; exact zup_hit
theorem opM_1 {μ : Mu} {v : Int} : opM μ v 1 1 = 0 := by unfold opM; exact zup_hit
theorem opM_r {μ : Mu} {v : Int} {a : Nat} (h : a ≠ 1) : opM μ v a = μ a := by unfold opM; rw [zup_ro h, zup_ro h, zup_ro h, zup_ro h]
theorem s_holdsText {z : zZ} {d sz : Nat} {n a b : Int} {μ : Mu} (hd : 1 ≤ d) (h1 : μ 1 1 = (sz : Int)) : mC z d 25 [(2, 1), (0, n), (0, a), (0, b)] μ = some (bi (decide (a ≤ n ∧ n ≤ b ∧ n ≤ sz)), μ) := by
  obtain ⟨e, rfl, he⟩ := pred_of hd
  rw [c_Tape_holdsText, h1]
  by_cases c1 : n < a
  · rw [cT c1, bi_df (by omega), e_Tape_holdsText_22, e_Tape_holdsText_23, g01_0]
  · rw [cF c1]
    by_cases c2 : b < n
    · rw [cT c2, bi_df (by omega), e_Tape_holdsText_22, e_Tape_holdsText_23, g01_0]
    · rw [cF c2]
      by_cases c3 : (sz : Int) < n
      · rw [cT c3, bi_df (by omega), e_Tape_holdsText_22, e_Tape_holdsText_23, g01_0]
      · rw [cF c3, bi_dt (by omega), e_Tape_holdsText_23, g01_1]
def chk (b h : Row) (n : Nat) : Int := fst1 (fun x => decide (nm4 b (4 * n) (4 * x) 4 ≠ h x)) n
theorem s_check {z : zZ} {e n s : Nat} {μ : Mu} (he : 4 ≤ e) (hs : s < 2) (hn : n ≤ 12) (h2 : μ 1 2 = 0) (h3 : μ 1 3 = ((4 * n : Nat) : Int)) : ∃ q : Int, f_W_check_45 z e (s : Int) (n : Int) 0 μ = some (chk (μ 2) (μ (4 + 9 * s + 3)) n, zup μ 1 2 q) := by
  have hv1 : (s : Int) = 0 ∨ (s : Int) = 1 := by omega
  have r3 : ∀ v : Int, zup μ 1 2 v 1 3 = ((4 * n : Nat) : Int) := fun v => by rw [zup_nk (by omega)]; exact h3
  have rr : ∀ (v : Int) (a : Nat), a ≠ 1 → zup μ 1 2 v a = μ a := fun v a h => zup_ro h
  have H := down (n := n) (P := fun k => ∃ q : Int, f_W_check_45 z e (s : Int) (n : Int) (k : Int) (zup μ 1 2 ((4 * k : Nat) : Int)) = some (ffst (fun x => decide (nm4 (μ 2) (4 * n) (4 * x) 4 ≠ μ (4 + 9 * s + 3) x)) (n - k) k, zup μ 1 2 q))
    (by
      refine ⟨((4 * n : Nat) : Int), ?_⟩
      rw [e_W_check_45, cT (by omega), Nat.sub_self]
      rfl)
    (by
      intro k hk ih
      obtain ⟨q, ih⟩ := ih
      have e1 : n - k = (n - (k + 1)) + 1 := by omega
      have hstep : f_W_check_45 z e (s : Int) (n : Int) (k : Int) (zup μ 1 2 ((4 * k : Nat) : Int)) = bif decide (nm4 (μ 2) (4 * n) (4 * k) 4 = μ (4 + 9 * s + 3) k) then f_W_check_45 z e (s : Int) (n : Int) ((k + 1 : Nat) : Int) (zup μ 1 2 ((4 * k + 4 : Nat) : Int)) else some ((k : Int), zup μ 1 2 ((4 * k + 4 : Nat) : Int)) := by
        rw [e_W_check_45, cF (by omega), e_W_check_50 _ _ _ _ _ _ hv1, s_takeNumber (p := 4 * k) (n := 4 * n) (by omega) zup_hit (r3 _) (by omega) (by omega), rr _ 2 (by omega), zup_zup]
        generalize nm4 (μ 2) (4 * n) (4 * k) 4 = N
        simp -implicitDefEqProofs only [ob, Int.toNat_natCast]
        rw [Int.zero_add, zw_id (by omega) (by omega), gI_ok (by omega) (by omega), Int.toNat_natCast, zwc (by omega)]
        have h9 : ∀ v : Int, zup μ 1 2 v (4 + 9 * s + 3) k = μ (4 + 9 * s + 3) k := fun v => by rw [rr v _ (by omega)]
        simp -implicitDefEqProofs only [h9]
      rw [hstep, e1]
      by_cases h : nm4 (μ 2) (4 * n) (4 * k) 4 = μ (4 + 9 * s + 3) k
      · refine ⟨q, ?_⟩
        rw [cT h, show 4 * k + 4 = 4 * (k + 1) by omega, ih]
        simp [ffst, h]
      · refine ⟨((4 * k + 4 : Nat) : Int), ?_⟩
        rw [cF h]
        simp [ffst, h])
  obtain ⟨q, H0⟩ := H 0 (by omega)
  refine ⟨q, ?_⟩
  have e0 : zup μ 1 2 ((4 * 0 : Nat) : Int) = μ := zup_self h2
  rw [e0] at H0
  exact H0
theorem t_check {z : zZ} {e n s : Nat} {b h : Row} {μ : Mu} (he : 2 ≤ e) (hs : s < 2) (hn : n ≤ 12) (hb : tpe μ b) (hh : ∀ k, k < 12 → μ 90 (12 * s + k) = h k) : f_M_check_37 z e (s : Int) (n : Int) 0 μ = some (chk b h n, μ) := by
  have H := down (n := n) (P := fun k => f_M_check_37 z e (s : Int) (n : Int) (k : Int) μ = some (ffst (fun x => decide (nm4 b (4 * n) (4 * x) 4 ≠ h x)) (n - k) k, μ))
    (by
      rw [e_M_check_37, cT (by omega), Nat.sub_self]
      rfl)
    (by
      intro k hk ih
      have e1 : n - k = (n - (k + 1)) + 1 := by omega
      have hstep : f_M_check_37 z e (s : Int) (n : Int) (k : Int) μ = bif decide (nm4 b (4 * n) (4 * k) 4 = h k) then f_M_check_37 z e (s : Int) (n : Int) ((k + 1 : Nat) : Int) μ else some ((k : Int), μ) := by
        rw [e_M_check_37, cF (by omega), t_tapeNumber (n := 4 * n) (by omega) (by omega) (by omega) hb]
        generalize nm4 b (4 * n) (4 * k) 4 = N
        simp -implicitDefEqProofs only [ob]
        rw [zi12 (by omega) (by omega), gI_ok (by omega) (by omega), Int.toNat_natCast]
        have h9 := hh k (by omega)
        simp -implicitDefEqProofs only [h9]
        rw [e_M_check_63, zwc (by omega)]
      rw [hstep, e1]
      by_cases hc : nm4 b (4 * n) (4 * k) 4 = h k
      · rw [cT hc, ih]
        simp [ffst, hc]
      · rw [cF hc]
        simp [ffst, hc])
  exact H 0 (by omega)
