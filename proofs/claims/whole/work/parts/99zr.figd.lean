/-! orders that are learnt: the class compares letters -/
theorem s_fillEnded {z : zZ} {d : Nat} {ms : Nat → Nat} {μ : Mu} (hd : 2 ≤ d) (hms : ∀ x, x < 12 → ms x < 4096) (hB : CB ms μ) : ∃ M, mC z d 147 [(2, 58)] μ = some (0, M) ∧ (∀ s, s < 4096 → bgn ms 4096 s ≠ 0 → M 63 s = wy ms s) ∧ ∀ a, a ≠ 63 → M a = μ a := by
  obtain ⟨e, rfl, he⟩ := pred_of (k := 1) hd
  have hf := s_fill (z := z) (d := e) (a := 63) (n := 4096) (v := 0) (μ := μ) he ia63 (by omega)
  simp -implicitDefEqProofs only [Int.cast_ofNat_Int] at hf
  rw [c_Fig_fillEnded, hf]
  simp -implicitDefEqProofs only [ob]
  have inner : ∀ (k : Nat), k < 4095 → ∀ (j x : Nat) (M : Mu) (v : Int), j + x = 12 → (∀ s, k < s → s < 4096 → bgn ms 4096 s ≠ 0 → M 63 s = wy ms s) → (∀ a, a ≠ 63 → M a = μ a) → (bgn ms 4096 k ≠ 0 → v = sm (fun y => if ava ms k y = true then wy ms (k ||| 2 ^ y) else 0) x) → ∃ M', f_Fig_fillEnded_29 z e (k : Int) v (x : Int) M = f_Fig_fillEnded_21 z e ((k : Int) - 1) M' ∧ (∀ s, k ≤ s → s < 4096 → bgn ms 4096 s ≠ 0 → M' 63 s = wy ms s) ∧ ∀ a, a ≠ 63 → M' a = μ a := by
    intro k hk j
    have h85 : ∀ (v : Int) (M : Mu), (∀ s, k < s → s < 4096 → bgn ms 4096 s ≠ 0 → M 63 s = wy ms s) → (∀ a, a ≠ 63 → M a = μ a) → (bgn ms 4096 k ≠ 0 → v = wy ms k) → ∃ M', f_Fig_fillEnded_85 z e (k : Int) v M = f_Fig_fillEnded_21 z e ((k : Int) - 1) M' ∧ (∀ s, k ≤ s → s < 4096 → bgn ms 4096 s ≠ 0 → M' 63 s = wy ms s) ∧ ∀ a, a ≠ 63 → M' a = μ a := fun v M q1 q2 q3 => by
      refine ⟨zup M 63 k v, ?_, fun s hs1 hs2 hs3 => ?_, fun a q => by rw [zup_ro q]; exact q2 a q⟩
      · rw [e_Fig_fillEnded_85, gI_ok (by omega) (by omega), Int.toNat_natCast, zw_id (x := (k : Int) + (-1)) (by omega) (by omega)]
        rfl
      · by_cases e1 : s = k
        · subst e1; rw [zup_hit]; exact q3 hs3
        · rw [zup_nk e1]; exact q1 s (by omega) hs2 hs3
    induction j with
    | zero =>
      intro x M v hj h1 h2 h3
      have : x = 12 := by omega
      subst this
      have := h85 v M h1 h2 (fun q => by rw [h3 q, wy_eq (show k < 4096 by omega), if_neg (by omega), Int.zero_add])
      rw [e_Fig_fillEnded_29, cT (by omega)]
      exact this
    | succ j ih =>
      intro x M v hj h1 h2 h3
      rw [e_Fig_fillEnded_29, cF (by omega), gI_ok (by omega) (by omega), Int.toNat_natCast]
      have e62 : M 62 k = bgn ms 4096 k := by rw [h2 62 (by omega)]; exact hB.2 k (by omega)
      by_cases hz : bgn ms 4096 k = 0
      · rw [cT (e62.trans hz)]
        exact h85 v M h1 h2 (fun q => absurd hz q)
      · have hx : x < 12 := by omega
        have hor := or_lt (show k < 4096 by omega) hx
        have h79 : ∀ (v : Int) (M : Mu), f_Fig_fillEnded_79 z e (k : Int) v (x : Int) M = f_Fig_fillEnded_29 z e (k : Int) v ((x + 1 : Nat) : Int) M := fun v M => by rw [e_Fig_fillEnded_79, zwc (by omega)]
        have hav := z_ava (ms := ms) (show k < 4096 by omega) hx (hms x hx)
        have hv := h3 hz
        have hsm : sm (fun y => if ava ms k y = true then wy ms (k ||| 2 ^ y) else 0) (x + 1) = sm (fun y => if ava ms k y = true then wy ms (k ||| 2 ^ y) else 0) x + (if ava ms k x = true then wy ms (k ||| 2 ^ x) else 0) := rfl
        rw [cF (fun q => hz (e62.symm.trans q)), gI_ok (by omega) (by omega), Int.toNat_natCast, h2 61 (by omega), hB.1 x hx]
        by_cases ha : ava ms k x = true
        · have hgt := or_gt (ava_bit ha)
          rw [nT (hav.mpr ha), s_or1 (by omega) (by omega), gI_ok (by omega) (by omega), Int.toNat_natCast, h1 _ hgt hor (bgn_up (by omega) hx ha hz)]
          rw [if_pos ha] at hsm
          have hnn : ∀ y, y < 12 → 0 ≤ (fun y => if ava ms k y = true then wy ms (k ||| 2 ^ y) else 0) y := fun y hy => by
            show 0 ≤ if ava ms k y = true then wy ms (k ||| 2 ^ y) else 0
            split
            · exact wy_nn _ (or_lt (by omega) hy)
            · exact Int.le_refl _
          have b1 := sm_nn (g := fun y => if ava ms k y = true then wy ms (k ||| 2 ^ y) else 0) (n := x) (fun y hy => hnn y (by omega))
          have b2 := sm_part (g := fun y => if ava ms k y = true then wy ms (k ||| 2 ^ y) else 0) (n := x + 1) (m := 12) hnn (by omega)
          have b3 := (wy_rg (ms := ms) (show k < 4096 by omega)).2
          have b4 := (wy_rg (ms := ms) hor).1
          rw [wy_eq (show k < 4096 by omega), if_neg (by omega), Int.zero_add] at b3
          have hvv : zw (v + wy ms (k ||| 2 ^ x)) = v + wy ms (k ||| 2 ^ x) := zw_id (by omega) (by omega)
          have hsum : v + wy ms (k ||| 2 ^ x) = sm (fun y => if ava ms k y = true then wy ms (k ||| 2 ^ y) else 0) (x + 1) := by rw [hsm, hv]
          rw [hvv, h79]
          clear hvv
          exact ih (x + 1) M _ (by omega) h1 h2 (fun _ => hsum)
        · rw [nF (fun q => ha (hav.mp q)), h79]
          refine ih (x + 1) M v (by omega) h1 h2 (fun _ => ?_)
          rw [hsm, if_neg ha, Int.add_zero]
          exact hv
  have outer : ∀ (j : Nat) (M : Mu), j ≤ 4095 → (∀ s, j ≤ s → s < 4096 → bgn ms 4096 s ≠ 0 → M 63 s = wy ms s) → (∀ a, a ≠ 63 → M a = μ a) → ∃ M', f_Fig_fillEnded_21 z e ((j : Int) - 1) M = some (0, M') ∧ (∀ s, s < 4096 → bgn ms 4096 s ≠ 0 → M' 63 s = wy ms s) ∧ ∀ a, a ≠ 63 → M' a = μ a := by
    intro j
    induction j with
    | zero =>
      intro M _ h1 h2
      exact ⟨M, by rw [e_Fig_fillEnded_21, cT (by omega)], fun s hs => h1 s (by omega) hs, h2⟩
    | succ j ih =>
      intro M hj h1 h2
      obtain ⟨M1, g1, g2, g3⟩ := inner j (by omega) 12 0 M 0 (by omega) (fun s q1 q2 => h1 s (by omega) q2) h2 (fun _ => rfl)
      obtain ⟨M2, k1, k2, k3⟩ := ih M1 (by omega) g2 g3
      have e1 : ((j + 1 : Nat) : Int) - 1 = (j : Int) := by omega
      rw [show ((0 : Nat) : Int) = 0 from rfl] at g1
      rw [e1, e_Fig_fillEnded_21, cF (by omega), g1]
      exact ⟨M2, k1, k2, k3⟩
  have := outer 4095 (zup (zrow μ 63 (fil (μ 63) 0 4096)) 63 4095 1) (by omega) (fun s h1 h2 _ => by
    have e1 : s = 4095 := by omega
    subst e1
    rw [zup_hit, wy_full]) (fun a q => by rw [zup_ro q, zrow_ne q])
  exact this
theorem gJ_ok {a i : Int} {A : mR} (h0 : 0 ≤ a) (h13 : (zat (zLAY, fun _ _ => 0) a).1 = 13) (h1 : 0 ≤ i) (h3 : i < ((zat (zLAY, fun _ _ => 0) a).2.1 : Int)) : gJ a i A = A := by
  unfold gJ z_ix
  simp [h0, h13, h1, h3]
theorem k64 : (zat (zLAY, fun _ _ => 0) 64).1 = 13 := rfl
theorem l64 : (zat (zLAY, fun _ _ => 0) 64).2.1 = 144 := rfl
theorem s_fill64 {z : zZ} {d : Nat} {μ : Mu} (hd : 1 ≤ d) : mC z d 149 [(2, 64), (1, 0)] μ = some (0, zrow μ 64 (fil (μ 64) 0 144)) := by
  obtain ⟨e, rfl, he⟩ := pred_of hd
  have hl : zlen 64 = ((144 : Nat) : Int) := by unfold zlen; rw [l64]
  have hk : ∀ A : mR, gK 64 A = A := fun A => by unfold gK; simp [k64]
  rw [c_Arr_fill_AJJV, hk, hl]
  have H := down (n := 144) (P := fun k => f_Arr_fill_AJJV_6 z e 64 0 (k : Int) ((144 : Nat) : Int) (zrow μ 64 (fil (μ 64) 0 k)) = some (0, zrow μ 64 (fil (μ 64) 0 144)))
    (by rw [e_Arr_fill_AJJV_6, cT (by omega)])
    (by
      intro k hk ih
      rw [e_Arr_fill_AJJV_6, cF (by omega), gJ_ok (by omega) k64 (by omega) (by rw [l64]; omega), zwc (by omega), Int.toNat_natCast, show (64 : Int).toNat = 64 from rfl, zupr, zrow_same, zrow_zrow, fil_step]
      exact ih)
  have H0 := H 0 (by omega)
  rw [fil_0, zrow_id] at H0
  exact H0
theorem zy12 {i j : Nat} (hi : i < 20) (hj : j < 20) : zw (zw ((i : Int) * 12) + (j : Int)) = ((12 * i + j : Nat) : Int) := by
  rw [zw_id (x := (i : Int) * 12) (by omega) (by omega), zw_id (by omega) (by omega)]
  omega
theorem s_addRows {z : zZ} {d s a : Nat} {v : Int} {μ : Mu} (hd : 1 ≤ d) (hs : s < 4096) (ha : a < 12) (hv : ∀ b, a < b → b < 12 → s.testBit b = false → -1000000000 ≤ μ 64 (12 * a + b) + v ∧ μ 64 (12 * a + b) + v ≤ 1000000000) : ∃ M, mC z d 150 [(2, 58), (0, (s : Int)), (0, (a : Int)), (1, v)] μ = some (0, M) ∧ (∀ b, a < b → b < 12 → M 64 (12 * a + b) = μ 64 (12 * a + b) + (if s.testBit b = true then 0 else v)) ∧ (∀ j, (∀ b, a < b → b < 12 → j ≠ 12 * a + b) → M 64 j = μ 64 j) ∧ ∀ c, c ≠ 64 → M c = μ c := by
  obtain ⟨e, rfl, he⟩ := pred_of hd
  have go : ∀ (j b0 : Nat) (M : Mu), j + b0 = 12 → a < b0 → (∀ b, a < b → b < 12 → M 64 (12 * a + b) = μ 64 (12 * a + b) + (if s.testBit b = true ∨ b0 ≤ b then 0 else v)) → (∀ j, (∀ b, a < b → b < 12 → j ≠ 12 * a + b) → M 64 j = μ 64 j) → (∀ c, c ≠ 64 → M c = μ c) → ∃ M', f_Fig_addRows_5 z e (s : Int) (a : Int) v (b0 : Int) M = some (0, M') ∧ (∀ b, a < b → b < 12 → M' 64 (12 * a + b) = μ 64 (12 * a + b) + (if s.testBit b = true then 0 else v)) ∧ (∀ j, (∀ b, a < b → b < 12 → j ≠ 12 * a + b) → M' 64 j = μ 64 j) ∧ ∀ c, c ≠ 64 → M' c = μ c := by
    intro j
    induction j with
    | zero =>
      intro b0 M hj hab h1 h2 h3
      refine ⟨M, by rw [e_Fig_addRows_5, cT (by omega)], fun b q1 q2 => ?_, h2, h3⟩
      rw [h1 b q1 q2]
      by_cases hb : s.testBit b = true
      · rw [if_pos (Or.inl hb), if_pos hb]
      · rw [if_neg (by rintro (q | q); exact hb q; omega), if_neg hb]
    | succ j ih =>
      intro b0 M hj hab h1 h2 h3
      have h37 : ∀ M : Mu, f_Fig_addRows_37 z e (s : Int) (a : Int) v (b0 : Int) M = f_Fig_addRows_5 z e (s : Int) (a : Int) v ((b0 + 1 : Nat) : Int) M := fun M => by rw [e_Fig_addRows_37, zwc (by omega)]
      rw [e_Fig_addRows_5, cF (by omega), z_bit (by omega) (by omega)]
      by_cases hb : s.testBit b0 = true
      · rw [if_pos hb, nF (by decide), h37]
        refine ih (b0 + 1) M (by omega) (by omega) (fun b q1 q2 => ?_) h2 h3
        rw [h1 b q1 q2]
        by_cases e1 : b = b0
        · subst e1
          rw [if_pos (Or.inl hb), if_pos (Or.inl hb)]
        · by_cases e2 : s.testBit b = true ∨ b0 ≤ b
          · rw [if_pos e2, if_pos (e2.elim Or.inl (fun q => Or.inr (by omega)))]
          · rw [if_neg e2, if_neg (fun q => e2 (q.elim Or.inl (fun q => Or.inr (by omega))))]
      · have hb0 : s.testBit b0 = false := by cases h : s.testBit b0 with
          | false => rfl
          | true => exact absurd h hb
        have hvv := hv b0 hab (by omega) hb0
        have e0 := h1 b0 hab (by omega)
        rw [if_pos (Or.inr (Nat.le_refl _)), Int.add_zero] at e0
        rw [if_neg hb, nT rfl, zy12 (by omega) (by omega), gI_ok (by omega) (by omega), gI_ok (by omega) (by omega), Int.toNat_natCast, e0, zwl_id (by omega) (by omega), h37]
        refine ih (b0 + 1) _ (by omega) (by omega) (fun b q1 q2 => ?_) (fun j hj2 => by rw [zup_nk (hj2 b0 hab (by omega))]; exact h2 j hj2) (fun c q => by rw [zup_ro q]; exact h3 c q)
        by_cases e1 : b = b0
        · subst e1
          rw [zup_hit, if_neg (by rintro (q | q); exact hb q; omega)]
        · rw [zup_nk (by omega), h1 b q1 q2]
          by_cases e2 : s.testBit b = true ∨ b0 ≤ b
          · rw [if_pos e2, if_pos (e2.elim Or.inl (fun q => Or.inr (by omega)))]
          · rw [if_neg e2, if_neg (fun q => e2 (q.elim Or.inl (fun q => Or.inr (by omega))))]
  rw [c_Fig_addRows, zwc (by omega)]
  exact go (11 - a) (a + 1) μ (by omega) (by omega) (fun b q1 q2 => by rw [if_pos (Or.inr (by omega)), Int.add_zero]) (fun _ _ => rfl) (fun _ _ => rfl)
def rwt (ms : Nat → Nat) (k a b : Nat) : Int := if (ava ms k a && !k.testBit b) = true then bgn ms 4096 k * wy ms (k ||| 2 ^ a) else 0
theorem rwS_succ {ms : Nat → Nat} {a b k : Nat} : rwS ms a b (k + 1) = rwS ms a b k + rwt ms k a b := rfl
theorem rwt_0 {ms : Nat → Nat} {a b k : Nat} (h : ava ms k a = false) : rwt ms k a b = 0 := by unfold rwt; rw [h]; rfl
theorem s_fillRows {z : zZ} {d : Nat} {ms : Nat → Nat} {μ : Mu} (hd : 2 ≤ d) (hms : ∀ x, x < 12 → ms x < 4096) (hB : CB ms μ) (h63 : ∀ s, s < 4096 → bgn ms 4096 s ≠ 0 → μ 63 s = wy ms s) : ∃ M, mC z d 148 [(2, 58)] μ = some (0, M) ∧ CD ms M ∧ ∀ a, a ≠ 64 → M a = μ a := by
  obtain ⟨e, rfl, he⟩ := pred_of (k := 1) hd
  rw [c_Fig_fillRows, s_fill64 he]
  simp -implicitDefEqProofs only [ob]
  have inner : ∀ (k : Nat), k < 4096 → ∀ (j x : Nat) (M : Mu), j + x = 12 → (∀ a b, a < b → b < 12 → M 64 (12 * a + b) = rwS ms a b k + (if a < x then rwt ms k a b else 0)) → (∀ a, a ≠ 64 → M a = μ a) → ∃ M', f_Fig_fillRows_26 z e (k : Int) (bgn ms 4096 k) (x : Int) M = f_Fig_fillRows_10 z e ((k + 1 : Nat) : Int) M' ∧ (∀ a b, a < b → b < 12 → M' 64 (12 * a + b) = rwS ms a b (k + 1)) ∧ ∀ a, a ≠ 64 → M' a = μ a := by
    intro k hk j
    have h84 : ∀ M : Mu, f_Fig_fillRows_84 z e (k : Int) M = f_Fig_fillRows_10 z e ((k + 1 : Nat) : Int) M := fun M => by rw [e_Fig_fillRows_84, zwc (by omega)]
    induction j with
    | zero =>
      intro x M hj h1 h2
      refine ⟨M, by rw [e_Fig_fillRows_26, cT (by omega), h84], fun a b q1 q2 => ?_, h2⟩
      rw [h1 a b q1 q2, if_pos (by omega), rwS_succ]
    | succ j ih =>
      intro x M hj h1 h2
      by_cases hz : bgn ms 4096 k = 0
      · refine ⟨M, by rw [e_Fig_fillRows_26, cF (by omega), cT hz, h84], fun a b q1 q2 => ?_, h2⟩
        have hr : rwt ms k a b = 0 := by unfold rwt; rw [hz, Int.zero_mul]; split <;> rfl
        rw [h1 a b q1 q2, rwS_succ, hr]
        split <;> rfl
      · have hx : x < 12 := by omega
        have hor := or_lt hk hx
        have h78 : ∀ M : Mu, f_Fig_fillRows_78 z e (k : Int) (bgn ms 4096 k) (x : Int) M = f_Fig_fillRows_26 z e (k : Int) (bgn ms 4096 k) ((x + 1 : Nat) : Int) M := fun M => by rw [e_Fig_fillRows_78, zwc (by omega)]
        have hav := z_ava (ms := ms) hk hx (hms x hx)
        rw [e_Fig_fillRows_26, cF (by omega), cF hz, gI_ok (by omega) (by omega), Int.toNat_natCast, h2 61 (by omega), hB.1 x hx]
        by_cases ha : ava ms k x = true
        · have hgt := or_gt (ava_bit ha)
          have p1 := bgn_nn (ms := ms) 4096 k
          have p2 := bgn_le (ms := ms) hk 4096 (Nat.le_refl _)
          have p3 := wy_rg (ms := ms) hor
          have p4 : bgn ms 4096 k * wy ms (k ||| 2 ^ x) ≤ 479001600 * 479001600 := Int.mul_le_mul p2 p3.2 p3.1 (by decide)
          have p5 : 0 ≤ bgn ms 4096 k * wy ms (k ||| 2 ^ x) := Int.mul_nonneg p1 p3.1
          rw [nT (hav.mpr ha), s_or1 (by omega) (by omega), gI_ok (by omega) (by omega), Int.toNat_natCast, h2 63 (by omega), h63 _ hor (bgn_up hk hx ha hz), zwl_id (x := bgn ms 4096 k * wy ms (k ||| 2 ^ x)) (by omega) (by omega)]
          have hrw : ∀ b, x < b → b < 12 → k.testBit b = false → rwt ms k x b = bgn ms 4096 k * wy ms (k ||| 2 ^ x) := fun b q1 q2 q3 => by unfold rwt; rw [ha, q3]; rfl
          obtain ⟨M1, g1, g2, g3, g4⟩ := s_addRows (z := z) (d := e) (s := k) (a := x) (v := bgn ms 4096 k * wy ms (k ||| 2 ^ x)) (μ := M) he hk hx (fun b q1 q2 q3 => by
            have r1 := rwS_rg (ms := ms) (a := x) (b := b) (k := k + 1) hx q2 (by omega) (by omega)
            rw [h1 x b q1 q2, if_neg (by omega), Int.add_zero, ← hrw b q1 q2 q3, ← rwS_succ]
            omega)
          rw [g1]
          simp -implicitDefEqProofs only [ob]
          rw [h78]
          refine ih (x + 1) M1 (by omega) (fun a b q1 q2 => ?_) (fun a q => by rw [g4 a q]; exact h2 a q)
          by_cases e1 : a = x
          · subst e1
            rw [g2 b q1 q2, h1 a b q1 q2, if_neg (Nat.lt_irrefl a), Int.add_zero, if_pos (Nat.lt_succ_self a)]
            by_cases hb : k.testBit b = true
            · have hr : rwt ms k a b = 0 := by unfold rwt; rw [hb]; simp
              rw [if_pos hb, hr]
            · have hb0 : k.testBit b = false := by cases h : k.testBit b with
                | false => rfl
                | true => exact absurd h hb
              rw [if_neg hb, hrw b q1 q2 hb0]
          · rw [g3 _ (fun b' r1 r2 => by omega), h1 a b q1 q2]
            by_cases e2 : a < x
            · rw [if_pos e2, if_pos (by omega)]
            · rw [if_neg e2, if_neg (by omega)]
        · have ha0 : ava ms k x = false := by cases h : ava ms k x with
            | false => rfl
            | true => exact absurd h ha
          rw [nF (fun q => ha (hav.mp q)), h78]
          refine ih (x + 1) M (by omega) (fun a b q1 q2 => ?_) h2
          rw [h1 a b q1 q2]
          by_cases e1 : a = x
          · subst e1
            rw [if_neg (by omega), if_pos (by omega), rwt_0 ha0]
          · by_cases e2 : a < x
            · rw [if_pos e2, if_pos (by omega)]
            · rw [if_neg e2, if_neg (by omega)]
  have outer : ∀ (j k : Nat) (M : Mu), j + k = 4096 → (∀ a b, a < b → b < 12 → M 64 (12 * a + b) = rwS ms a b k) → (∀ a, a ≠ 64 → M a = μ a) → ∃ M', f_Fig_fillRows_10 z e (k : Int) M = some (0, M') ∧ CD ms M' ∧ ∀ a, a ≠ 64 → M' a = μ a := by
    intro j
    induction j with
    | zero =>
      intro k M hj h1 h2
      have : k = 4096 := by omega
      subst this
      exact ⟨M, by rw [e_Fig_fillRows_10, cT (by omega)], fun a b q1 q2 => by rw [h1 a b q1 q2]; exact rwS_all (by omega) q2 (by omega), h2⟩
    | succ j ih =>
      intro k M hj h1 h2
      obtain ⟨M1, g1, g2, g3⟩ := inner k (by omega) 12 0 M (by omega) (fun a b q1 q2 => by rw [h1 a b q1 q2, if_neg (by omega), Int.add_zero]) h2
      rw [show ((0 : Nat) : Int) = 0 from rfl] at g1
      rw [e_Fig_fillRows_10, cF (by omega), gI_ok (by omega) (by omega), Int.toNat_natCast, h2 62 (by omega), hB.2 k (by omega), g1]
      exact ih (k + 1) M1 (by omega) g2 g3
  have := outer 4096 0 (zrow μ 64 (fil (μ 64) 0 144)) (by omega) (fun a b q1 q2 => by rw [zrow_same]; unfold fil; rw [if_pos (by omega)]; rfl) (fun a q => zrow_ne q)
  exact this
/-- the class's part of the fights -/
def FIc (A B : Nat → Nat) (n : Nat) (μ : Mu) : Prop := n ≤ 24 ∧ μ 58 0 = (n : Int) ∧ FGc (μ 59) A B n ∧ (μ 58 8 = 0 ∨ (μ 58 8 = 1 ∧ CB (mS A B n) μ)) ∧ (μ 58 9 = 0 ∨ (μ 58 9 = 1 ∧ CD (mS A B n) μ))
/-- what learning may change -/
def LC (μ M : Mu) : Prop := (∀ a, a ≠ 58 → (a < 61 ∨ 64 < a) → M a = μ a) ∧ ∀ k, k ≠ 8 → k ≠ 9 → M 58 k = μ 58 k
theorem LC_refl (μ : Mu) : LC μ μ := ⟨fun _ _ _ => rfl, fun _ _ _ => rfl⟩
theorem LC_trans {A B C : Mu} (h1 : LC A B) (h2 : LC B C) : LC A C := ⟨fun a q1 q2 => by rw [h2.1 a q1 q2, h1.1 a q1 q2], fun k q1 q2 => by rw [h2.2 k q1 q2, h1.2 k q1 q2]⟩
theorem s_count {z : zZ} {d n : Nat} {A B : Nat → Nat} {μ : Mu} (hd : 3 ≤ d) (hF : FIc A B n μ) : ∃ M, mC z d 141 [(2, 58)] μ = some (wy (mS A B n) 0, M) ∧ M 58 8 = 1 ∧ CB (mS A B n) M ∧ FIc A B n M ∧ LC μ M ∧ M 58 9 = μ 58 9 := by
  obtain ⟨f1, f2, f3, f4, f5⟩ := hF
  obtain ⟨M, m1, m2, m3, m4, m5⟩ := s_countRows (z := z) (d := d) hd f1 f2 f3 f4
  refine ⟨M, m1, m2, m3, ⟨f1, by rw [m5 0 (by omega)]; exact f2, by rw [m4 59 (by omega) (by omega) (by omega)]; exact f3, Or.inr ⟨m2, m3⟩, ?_⟩, ⟨fun a q1 q2 => m4 a q1 (by omega) (by omega), fun k q1 _ => m5 k q1⟩, m5 9 (by omega)⟩
  rw [m5 9 (by omega)]
  rcases f5 with f5 | ⟨f5, f6⟩
  · exact Or.inl f5
  · exact Or.inr ⟨f5, fun a b q1 q2 => by rw [m4 64 (by omega) (by omega) (by omega)]; exact f6 a b q1 q2⟩
theorem s_rowsWith {z : zZ} {d n a b : Nat} {A B : Nat → Nat} {μ : Mu} (hd : 4 ≤ d) (ha : a < 12) (hb : b < 12) (hab : a ≠ b) (hF : FIc A B n μ) : ∃ M, mC z d 146 [(2, 58), (0, (a : Int)), (0, (b : Int))] μ = some (wy (mwt (mS A B n) a b) 0, M) ∧ FIc A B n M ∧ LC μ M := by
  obtain ⟨e, rfl, he⟩ := pred_of (k := 3) hd
  have hms : ∀ x, x < 12 → mS A B n x < 4096 := fun x hx => mS_lt n (fun k hk => (hF.2.2.1 k hk).1)
  obtain ⟨M, m1, m2, m3, m4, m5, m6⟩ := s_count (z := z) (d := e) he hF
  have fin : ∀ R : Mu, CD (mS A B n) R → f_Fig_rowsWith_25 z e (a : Int) (b : Int) (wy (mS A B n) 0) R = some (wy (mwt (mS A B n) a b) 0, R) := fun R hD => by
    rw [e_Fig_rowsWith_25]
    by_cases h : b ≤ a
    · have h1 := hD b a (by omega) ha
      have h2 := wy_both (ms := mS A B n) ha hb hab 0 (by omega) (Nat.zero_testBit _) (Nat.zero_testBit _)
      have h3 := wy_rg (ms := mwt (mS A B n) a b) (s := 0) (by omega)
      rw [cT (by omega), zy12 (by omega) (by omega), gI_ok (by omega) (by omega), Int.toNat_natCast, h1, zwl_id (by omega) (by omega), e_Fig_rowsWith_57, h2]
      have e1 : wy (mwt (mS A B n) a b) 0 + wy (mwt (mS A B n) b a) 0 - wy (mwt (mS A B n) b a) 0 = wy (mwt (mS A B n) a b) 0 := by omega
      rw [e1]
    · have h1 := hD a b (by omega) hb
      rw [cF (by omega), zy12 (by omega) (by omega), gI_ok (by omega) (by omega), Int.toNat_natCast, h1, e_Fig_rowsWith_57]
  rw [c_Fig_rowsWith, m1]
  simp -implicitDefEqProofs only [ob]
  have f5 := m4.2.2.2.2
  rcases f5 with f5 | ⟨f5, f6⟩
  · obtain ⟨M1, k1, k2, k3⟩ := s_fillEnded (z := z) (d := e) (ms := mS A B n) (μ := M) (by omega) hms m3
    have hB1 : CB (mS A B n) M1 := ⟨fun x hx => by rw [k3 61 (by omega)]; exact m3.1 x hx, fun s hs => by rw [k3 62 (by omega)]; exact m3.2 s hs⟩
    obtain ⟨M2, l1, l2, l3⟩ := s_fillRows (z := z) (d := e) (ms := mS A B n) (μ := M1) (by omega) hms hB1 k2
    rw [nT f5, k1]
    simp -implicitDefEqProofs only [ob]
    rw [l1]
    simp -implicitDefEqProofs only [ob]
    have r1 : ∀ c, c ≠ 58 → c ≠ 63 → c ≠ 64 → zup M2 58 9 1 c = M c := fun c q1 q2 q3 => by rw [zup_ro q1, l3 c q3, k3 c q2]
    have r2 : ∀ k, k ≠ 9 → zup M2 58 9 1 58 k = M 58 k := fun k q => by rw [zup_nk q, l3 58 (by omega), k3 58 (by omega)]
    have hD : CD (mS A B n) (zup M2 58 9 1) := fun x y q1 q2 => by rw [zup_ro (by omega)]; exact l2 x y q1 q2
    rw [fin _ hD]
    refine ⟨_, rfl, ⟨m4.1, by rw [r2 0 (by omega)]; exact m4.2.1, by rw [r1 59 (by omega) (by omega) (by omega)]; exact m4.2.2.1, Or.inr ⟨by rw [r2 8 (by omega)]; exact m2, fun x hx => by rw [r1 61 (by omega) (by omega) (by omega)]; exact m3.1 x hx, fun s hs => by rw [r1 62 (by omega) (by omega) (by omega)]; exact m3.2 s hs⟩, Or.inr ⟨zup_hit, hD⟩⟩, LC_trans m5 ⟨fun c q1 q2 => r1 c q1 (by omega) (by omega), fun k _ q => r2 k q⟩⟩
  · rw [nF (by omega), fin M f6]
    exact ⟨M, rfl, m4, m5⟩
