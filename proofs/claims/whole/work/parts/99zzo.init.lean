/-! what holds at the beginning -/
theorem zmm_all {a : Nat} {Q : Int → Prop} (h0 : Q 0) : ∀ l : zW, (∀ w ∈ l, w.1 = a → Q w.2.2) → ∀ j, Q (zmm l a j)
  | [], _, _ => h0
  | w :: l, h, j => by
    show Q (if a = w.1 ∧ j = w.2.1 then w.2.2 else zmm l a j)
    by_cases q : a = w.1 ∧ j = w.2.1
    · rw [if_pos q]; exact h w List.mem_cons_self q.1.symm
    · rw [if_neg q]; exact zmm_all h0 l (fun w hw => h w (List.mem_cons_of_mem _ hw)) j
theorem i_hr : ∀ a ∈ [7, 16, 90, 91, 92], ∀ w ∈ zw2, w.1 = a → 0 ≤ w.2.2 ∧ w.2.2 ≤ 999 := by decide +kernel
theorem i_rk : ∀ a ∈ [5, 6, 14, 15], ∀ w ∈ zw2, w.1 = a → 0 ≤ w.2.2 ∧ w.2.2 < 12 := by decide +kernel
theorem i_99 : ∀ w ∈ zw2, w.1 = 35 → 0 ≤ w.2.2 ∧ w.2.2 ≤ 99 := by decide +kernel
theorem i_by : ∀ w ∈ zw2, w.1 = 2 → 0 ≤ w.2.2 ∧ w.2.2 ≤ 255 := by decide +kernel
theorem i_cell : zmm zw2 0 6 = 42 ∧ zmm zw2 0 7 = 48 ∧ zmm zw2 0 15 = 0 ∧ zmm zw2 0 18 = 0 ∧ zmm zw2 0 19 = 1 ∧ zmm zw2 86 0 = 1 ∧ zmm zw2 86 1 = 0 ∧ zmm zw2 86 9 = 0 ∧ zmm zw2 1 1 = 0 ∧ zmm zw2 58 0 = 0 ∧ zmm zw2 58 8 = 0 ∧ zmm zw2 58 9 = 0 ∧ zmm zw2 86 67 = 0 ∧ zmm zw2 86 76 = 0 ∧ zmm zw2 41 3 = 0 ∧ zmm zw2 41 5 = 0 ∧ zmm zw2 86 27 = 0 := by decide +kernel
theorem i_side : ∀ s, s < 2 → zmm zw2 (4 + 9 * s) 6 = 0 ∧ zmm zw2 (4 + 9 * s) 7 = 0 ∧ zmm zw2 86 (16 + s) = 0 ∧ zmm zw2 86 (14 + s) = 0 := by decide +kernel
theorem i_inv : ∀ s, s < 2 → ∀ j, j < 12 → zmm zw2 (4 + 9 * s + 2) (zmm zw2 (4 + 9 * s + 1) j).toNat = (j : Int) ∧ zmm zw2 (4 + 9 * s + 1) (zmm zw2 (4 + 9 * s + 2) j).toNat = (j : Int) := by decide +kernel
theorem i_pt : ∀ s, s < 2 → ∀ k, k < 12 → zmm zw2 90 (12 * s + k) = zmm zw2 (4 + 9 * s + 3) (0 + k) ∧ zmm zw2 91 (12 * s + k) = zmm zw2 (4 + 9 * s + 3) (12 + k) ∧ zmm zw2 92 (12 * s + k) = zmm zw2 (4 + 9 * s + 3) (24 + k) ∧ zmm zw2 88 (12 * s + k) = zmm zw2 (4 + 9 * s + 1) (0 + k) ∧ zmm zw2 89 (12 * s + k) = zmm zw2 (4 + 9 * s + 2) (0 + k) := by decide +kernel
theorem i_str : ∀ k, k < 12 → zmm zw2 87 k = zmm zw2 35 k := by decide +kernel
theorem i_tape : ∀ k, k < 220 → zmm zw2 93 k = if zmm zw2 2 k < 128 then zmm zw2 2 k else zmm zw2 2 k - 256 := by decide +kernel
theorem i_sol : ∀ i, i < 24 → zmm zw2 67 (4 * i + 3) = 0 ∧ zmm zw2 132 i = -1 := by decide +kernel
theorem iv_hr {a : Nat} (ha : a ∈ [7, 16, 90, 91, 92]) : hr (zmm zw2 a) := fun j => zmm_all (Q := fun x => 0 ≤ x ∧ x ≤ 999) (by omega) zw2 (i_hr a ha) j
theorem iv_rk {a : Nat} (ha : a ∈ [5, 6, 14, 15]) : rkr (zmm zw2 a) := fun j => zmm_all (Q := fun x => 0 ≤ x ∧ x < 12) (by omega) zw2 (i_rk a ha) j
theorem i_cnt : cnt (0 : Nat).testBit 12 ≤ 6 := by decide +kernel
theorem IV_0 : IV (zmm zw2) (zmm zw2) := by
  obtain ⟨c1, c2, c3, c4, c5, c6, c7, c8, c9, c10, c11, c12, c13, c14, c15, c16, c17⟩ := i_cell
  refine ⟨⟨fun _ => 0, fun _ => 0, fun _ _ => 0, 41, ⟨fun s hs => ?_, fun s hs => ?_, ⟨by rw [c4, c7], by rw [c5, c6], by rw [c5]; omega, by rw [c5]; omega⟩, ⟨fun j => zmm_all (Q := fun x => 0 ≤ x ∧ x ≤ 99) (by omega) zw2 i_99 j, i_str⟩, ⟨iv_hr (by decide), iv_hr (by decide), iv_hr (by decide)⟩, Or.inl rfl, by rw [c1]; rfl, ?_⟩, 47, Or.inr rfl, by omega, by rw [c2]; rfl⟩, ⟨0, by omega, c9, c8, fun j => zmm_all (Q := fun x => 0 ≤ x ∧ x ≤ 255) (by omega) zw2 i_by j, i_tape⟩, ⟨fun _ => 0, fun _ => 0, 0, ⟨by omega, c10, fun i hi => absurd hi (by omega), Or.inl c11, Or.inl c12⟩, ⟨by omega, c13, fun i hi => absurd hi (by omega), fun i hi => absurd hi (by omega)⟩⟩, fun i hi => Or.inl (i_sol i hi), Or.inl ⟨c3, c14⟩⟩
  · obtain ⟨s1, s2, s3, s4⟩ := i_side s hs
    have hh : hr (zmm zw2 (4 + 9 * s + 3)) := by
      have : s = 0 ∨ s = 1 := by omega
      rcases this with rfl | rfl
      · exact iv_hr (by decide)
      · exact iv_hr (by decide)
    have h1 : rkr (zmm zw2 (4 + 9 * s + 1)) ∧ rkr (zmm zw2 (4 + 9 * s + 2)) := by
      have : s = 0 ∨ s = 1 := by omega
      rcases this with rfl | rfl
      · exact ⟨iv_rk (by decide), iv_rk (by decide)⟩
      · exact ⟨iv_rk (by decide), iv_rk (by decide)⟩
    exact ⟨s1, Nat.zero_le 12, s2, Nat.one_pos, i_cnt, hh, h1.1, h1.2, fun w hw => absurd hw (Nat.not_lt_zero w), fun v w hv => absurd hv (Nat.not_lt_zero v), fun j hj => (i_inv s hs j hj).1, fun x hx => (i_inv s hs x hx).2⟩
  · obtain ⟨s1, s2, s3, s4⟩ := i_side s hs
    exact ⟨s3, ⟨s4, Nat.zero_le 12, fun w hw => absurd hw (Nat.not_lt_zero w)⟩, fun k hk => (i_pt s hs k hk).1, fun k hk => (i_pt s hs k hk).2.1, fun k hk => (i_pt s hs k hk).2.2.1, fun k hk => (i_pt s hs k hk).2.2.2.1, fun k hk => (i_pt s hs k hk).2.2.2.2⟩
  · exact ⟨0, fun _ => 0, fun _ _ => none, fun _ _ => none, ⟨c15, by omega, 0, by omega, c16, fun q hq => absurd hq (by omega)⟩, ⟨c17, by omega, fun q hq => absurd hq (by omega)⟩, fun q tl tl' _ => rfl, fun q tl tl' _ => rfl⟩
