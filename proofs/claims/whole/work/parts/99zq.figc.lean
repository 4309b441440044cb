/-! orders that are learnt: the class's tables -/
def mS (A B : Nat → Nat) : Nat → Nat → Nat
  | 0, _ => 0
  | i + 1, x => if B i = x then mS A B i x ||| 2 ^ A i else mS A B i x
theorem mS_lt {A B : Nat → Nat} {x : Nat} : ∀ i, (∀ k, k < i → A k < 12) → mS A B i x < 4096 := by
  intro i
  induction i with
  | zero => intro _; show 0 < 4096; decide
  | succ i ih =>
    intro h
    have h1 := ih (fun k hk => h k (by omega))
    show (if B i = x then mS A B i x ||| 2 ^ A i else mS A B i x) < 4096
    split
    · exact or_lt h1 (h i (by omega))
    · exact h1
def FGc (p : Row) (A B : Nat → Nat) (n : Nat) : Prop := ∀ i, i < n → A i < 12 ∧ B i < 12 ∧ p i = ((12 * A i + B i : Nat) : Int)
def FGr (a b : Row) (A B : Nat → Nat) (n : Nat) : Prop := ∀ i, i < n → a i = (A i : Int) ∧ b i = (B i : Int)
def CB (ms : Nat → Nat) (μ : Mu) : Prop := (∀ x, x < 12 → μ 61 x = (ms x : Int)) ∧ ∀ s, s < 4096 → μ 62 s = bgn ms 4096 s
def CD (ms : Nat → Nat) (μ : Mu) : Prop := ∀ a b, a < b → b < 12 → μ 64 (12 * a + b) = wy (mwt ms a b) 0
theorem ia61 : iar 61 12 := ⟨⟨by omega, rfl⟩, rfl⟩
theorem ia62 : iar 62 4096 := ⟨⟨by omega, rfl⟩, rfl⟩
theorem ia63 : iar 63 4096 := ⟨⟨by omega, rfl⟩, rfl⟩
theorem s_fillMust {z : zZ} {d n : Nat} {A B : Nat → Nat} {μ : Mu} (hd : 2 ≤ d) (hn : n ≤ 24) (h0 : μ 58 0 = (n : Int)) (hF : FGc (μ 59) A B n) : ∃ M, mC z d 142 [(2, 58)] μ = some (0, M) ∧ (∀ x, x < 12 → M 61 x = (mS A B n x : Int)) ∧ ∀ a, a ≠ 61 → M a = μ a := by
  obtain ⟨e, rfl, he⟩ := pred_of (k := 1) hd
  have hf := s_fill (z := z) (d := e) (a := 61) (n := 12) (v := 0) (μ := μ) he ia61 (by omega)
  simp -implicitDefEqProofs only [Int.cast_ofNat_Int] at hf
  rw [c_Fig_fillMust, hf]
  simp -implicitDefEqProofs only [ob]
  have go : ∀ (j i : Nat) (M : Mu), j + i = n → (∀ x, x < 12 → M 61 x = (mS A B i x : Int)) → (∀ a, a ≠ 61 → M a = μ a) → ∃ M', f_Fig_fillMust_10 z e (i : Int) M = some (0, M') ∧ (∀ x, x < 12 → M' 61 x = (mS A B n x : Int)) ∧ ∀ a, a ≠ 61 → M' a = μ a := by
    intro j
    induction j with
    | zero =>
      intro i M hj h1 h2
      have : i = n := by omega
      subst this
      refine ⟨M, ?_, h1, h2⟩
      rw [e_Fig_fillMust_10, h2 58 (by omega), h0, cT (by omega), e_Fig_fillMust_62]
    | succ j ih =>
      intro i M hj h1 h2
      obtain ⟨f1, f2, f3⟩ := hF i (by omega)
      have hz : Unit → z_div ((12 * A i + B i : Nat) : Int) 12 = (A i : Int) ∧ z_rem ((12 * A i + B i : Nat) : Int) 12 = (B i : Int) := fun _ => by
        have q1 : (12 * A i + B i) / 12 = A i := by omega
        have q2 : (12 * A i + B i) % 12 = B i := by omega
        have h := zd12 (12 * A i + B i) (by omega)
        rw [q1, q2] at h
        exact h
      have hm := mS_lt (A := A) (B := B) (x := B i) i (fun k hk => (hF k (by omega)).1)
      rw [e_Fig_fillMust_10, h2 58 (by omega), h0, cF (by omega), cF (by omega), gI_ok (by omega) (by omega), gI_ok (by omega) (by omega), Int.toNat_natCast, h2 59 (by omega), f3, (hz ()).2, (hz ()).1, gI_ok (by omega) (by omega), gI_ok (by omega) (by omega), Int.toNat_natCast, h1 (B i) f2, s_or1 (by omega) (by omega), zwc (by omega)]
      refine ih (i + 1) _ (by omega) (fun x hx => ?_) (fun a q => by rw [zup_ro q]; exact h2 a q)
      show _ = (((if B i = x then mS A B i x ||| 2 ^ A i else mS A B i x) : Nat) : Int)
      by_cases e1 : B i = x
      · subst e1
        rw [zup_hit, if_pos rfl]
      · rw [zup_nk (by omega), if_neg e1]
        exact h1 x hx
  have := go n 0 (zrow μ 61 (fil (μ 61) 0 12)) (by omega) (fun x hx => by rw [zrow_same]; unfold fil; rw [if_pos hx]; rfl) (fun a q => zrow_ne q)
  exact this
theorem wsh_zero {ms : Nat → Nat} {pb : Row} {s : Nat} (h : pb s = 0) : ∀ x t, wsh ms pb s x t = pb t := by
  intro x
  induction x with
  | zero => intro t; rfl
  | succ x ih =>
    intro t
    show (if ava ms s x = true then rup (wsh ms pb s x) (s ||| 2 ^ x) (wsh ms pb s x (s ||| 2 ^ x) + pb s) else wsh ms pb s x) t = pb t
    split
    · by_cases e : t = s ||| 2 ^ x
      · subst e; rw [rup_same, h, Int.add_zero]; exact ih _
      · rw [rup_ne e]; exact ih t
    · exact ih t
theorem s_fillBegun {z : zZ} {d : Nat} {ms : Nat → Nat} {μ : Mu} (hd : 2 ≤ d) (hms : ∀ x, x < 12 → ms x < 4096) (h61 : ∀ x, x < 12 → μ 61 x = (ms x : Int)) : ∃ M, mC z d 143 [(2, 58)] μ = some (0, M) ∧ (∀ s, s < 4096 → M 62 s = bgn ms 4096 s) ∧ ∀ a, a ≠ 62 → M a = μ a := by
  obtain ⟨e, rfl, he⟩ := pred_of (k := 1) hd
  have hf := s_fill (z := z) (d := e) (a := 62) (n := 4096) (v := 0) (μ := μ) he ia62 (by omega)
  simp -implicitDefEqProofs only [Int.cast_ofNat_Int] at hf
  rw [c_Fig_fillBegun, hf]
  simp -implicitDefEqProofs only [ob]
  have inner : ∀ (k : Nat), k < 4096 → ∀ (j x : Nat) (M : Mu), j + x = 12 → (∀ s, s < 4096 → M 62 s = wsh ms (bgn ms k) k x s) → (∀ a, a ≠ 62 → M a = μ a) → ∃ M', f_Fig_fillBegun_33 z e (k : Int) (bgn ms k k) (x : Int) M = f_Fig_fillBegun_17 z e ((k + 1 : Nat) : Int) M' ∧ (∀ s, s < 4096 → M' 62 s = bgn ms (k + 1) s) ∧ ∀ a, a ≠ 62 → M' a = μ a := by
    intro k hk j
    have h85 : ∀ M : Mu, f_Fig_fillBegun_85 z e (k : Int) M = f_Fig_fillBegun_17 z e ((k + 1 : Nat) : Int) M := fun M => by rw [e_Fig_fillBegun_85, zwc (by omega)]
    induction j with
    | zero =>
      intro x M hj h1 h2
      have : x = 12 := by omega
      subst this
      exact ⟨M, by rw [e_Fig_fillBegun_33, cT (by omega), h85], h1, h2⟩
    | succ j ih =>
      intro x M hj h1 h2
      by_cases hz : bgn ms k k = 0
      · refine ⟨M, by rw [e_Fig_fillBegun_33, cF (by omega), cT hz, h85], fun s hs => ?_, h2⟩
        rw [h1 s hs, wsh_zero hz]
        exact (wsh_zero hz 12 s).symm
      · have hx : x < 12 := by omega
        have hor := or_lt hk hx
        have h79 : ∀ M : Mu, f_Fig_fillBegun_79 z e (k : Int) (bgn ms k k) (x : Int) M = f_Fig_fillBegun_33 z e (k : Int) (bgn ms k k) ((x + 1 : Nat) : Int) M := fun M => by rw [e_Fig_fillBegun_79, zwc (by omega)]
        rw [e_Fig_fillBegun_33, cF (by omega), cF hz, gI_ok (by omega) (by omega), Int.toNat_natCast, h2 61 (by omega), h61 x hx]
        have hav := z_ava (ms := ms) hk hx (hms x hx)
        by_cases ha : ava ms k x = true
        · rw [nT (hav.mpr ha), s_or1 (by omega) (by omega), gI_ok (by omega) (by omega), gI_ok (by omega) (by omega), Int.toNat_natCast, h1 _ hor]
          have hnn := bgn_nn (ms := ms) k k
          have hw : wsh ms (bgn ms k) k (x + 1) (k ||| 2 ^ x) = wsh ms (bgn ms k) k x (k ||| 2 ^ x) + bgn ms k k := by
            show (if ava ms k x = true then rup (wsh ms (bgn ms k) k x) (k ||| 2 ^ x) (wsh ms (bgn ms k) k x (k ||| 2 ^ x) + bgn ms k k) else wsh ms (bgn ms k) k x) (k ||| 2 ^ x) = _
            rw [if_pos ha, rup_same]
          have hle := wsh_mono (ms := ms) (pb := bgn ms k) (s := k) hnn (k ||| 2 ^ x) (x + 1) 12 (by omega)
          have hb := bgn_le (ms := ms) hor (k + 1) (by omega)
          have hb2 : wsh ms (bgn ms k) k 12 (k ||| 2 ^ x) = bgn ms (k + 1) (k ||| 2 ^ x) := rfl
          have h0 := wsh_mono (ms := ms) (pb := bgn ms k) (s := k) hnn (k ||| 2 ^ x) 0 x (by omega)
          have h00 : wsh ms (bgn ms k) k 0 (k ||| 2 ^ x) = bgn ms k (k ||| 2 ^ x) := rfl
          have h000 := bgn_nn (ms := ms) k (k ||| 2 ^ x)
          rw [zw_id (x := wsh ms (bgn ms k) k x (k ||| 2 ^ x) + bgn ms k k) (by omega) (by omega), h79]
          refine ih (x + 1) _ (by omega) (fun s hs => ?_) (fun a q => by rw [zup_ro q]; exact h2 a q)
          by_cases e1 : s = k ||| 2 ^ x
          · subst e1
            rw [zup_hit, hw]
          · rw [zup_nk e1, h1 s hs]
            show _ = (if ava ms k x = true then rup (wsh ms (bgn ms k) k x) (k ||| 2 ^ x) (wsh ms (bgn ms k) k x (k ||| 2 ^ x) + bgn ms k k) else wsh ms (bgn ms k) k x) s
            rw [if_pos ha, rup_ne e1]
        · rw [nF (fun q => ha (hav.mp q)), h79]
          refine ih (x + 1) _ (by omega) (fun s hs => ?_) h2
          rw [h1 s hs]
          show _ = (if ava ms k x = true then rup (wsh ms (bgn ms k) k x) (k ||| 2 ^ x) (wsh ms (bgn ms k) k x (k ||| 2 ^ x) + bgn ms k k) else wsh ms (bgn ms k) k x) s
          rw [if_neg ha]
  have outer : ∀ (j k : Nat) (M : Mu), j + k = 4096 → (∀ s, s < 4096 → M 62 s = bgn ms k s) → (∀ a, a ≠ 62 → M a = μ a) → ∃ M', f_Fig_fillBegun_17 z e (k : Int) M = some (0, M') ∧ (∀ s, s < 4096 → M' 62 s = bgn ms 4096 s) ∧ ∀ a, a ≠ 62 → M' a = μ a := by
    intro j
    induction j with
    | zero =>
      intro k M hj h1 h2
      have : k = 4096 := by omega
      subst this
      exact ⟨M, by rw [e_Fig_fillBegun_17, cT (by omega)], h1, h2⟩
    | succ j ih =>
      intro k M hj h1 h2
      obtain ⟨M1, g1, g2, g3⟩ := inner k (by omega) 12 0 M (by omega) h1 h2
      rw [e_Fig_fillBegun_17, cF (by omega), gI_ok (by omega) (by omega), Int.toNat_natCast, h1 k (by omega)]
      rw [show ((0 : Nat) : Int) = 0 from rfl] at g1
      rw [g1]
      exact ih (k + 1) M1 (by omega) g2 g3
  have := outer 4096 0 (zup (zrow μ 62 (fil (μ 62) 0 4096)) 62 0 1) (by omega) (fun s hs => by
    show _ = rup (fun _ => 0) 0 1 s
    by_cases e1 : s = 0
    · subst e1; rw [zup_hit, rup_same]
    · rw [zup_nk e1, zrow_same, rup_ne e1]; unfold fil; rw [if_pos hs]) (fun a q => by rw [zup_ro q, zrow_ne q])
  exact this
theorem s_countRows {z : zZ} {d n : Nat} {A B : Nat → Nat} {μ : Mu} (hd : 3 ≤ d) (hn : n ≤ 24) (h0 : μ 58 0 = (n : Int)) (hF : FGc (μ 59) A B n) (h8 : μ 58 8 = 0 ∨ (μ 58 8 = 1 ∧ CB (mS A B n) μ)) : ∃ M, mC z d 141 [(2, 58)] μ = some (wy (mS A B n) 0, M) ∧ M 58 8 = 1 ∧ CB (mS A B n) M ∧ (∀ a, a ≠ 58 → a ≠ 61 → a ≠ 62 → M a = μ a) ∧ ∀ k, k ≠ 8 → M 58 k = μ 58 k := by
  obtain ⟨e, rfl, he⟩ := pred_of (k := 2) hd
  rw [c_Fig_countRows]
  rcases h8 with h8 | ⟨h8, hB⟩
  · obtain ⟨M1, m1, m2, m3⟩ := s_fillMust (z := z) (d := e) (by omega) hn h0 hF
    obtain ⟨M2, k1, k2, k3⟩ := s_fillBegun (z := z) (d := e) (ms := mS A B n) (μ := M1) (by omega) (fun x hx => mS_lt n (fun k hk => (hF k hk).1)) m2
    rw [nT h8, m1]
    simp -implicitDefEqProofs only [ob]
    rw [k1]
    simp -implicitDefEqProofs only [ob]
    rw [e_Fig_countRows_20, zup_ro (by omega), k2 4095 (by omega), bgn_all]
    exact ⟨_, rfl, zup_hit, ⟨fun x hx => by rw [zup_ro (by omega), k3 61 (by omega)]; exact m2 x hx, fun s hs => by rw [zup_ro (by omega)]; exact k2 s hs⟩, fun a q1 q2 q3 => by rw [zup_ro q1, k3 a q3, m3 a q2], fun k q => by rw [zup_nk q, k3 58 (by omega), m3 58 (by omega)]⟩
  · rw [nF (by omega), e_Fig_countRows_20, hB.2 4095 (by omega), bgn_all]
    exact ⟨μ, rfl, h8, hB, fun _ _ _ _ => rfl, fun _ _ => rfl⟩
