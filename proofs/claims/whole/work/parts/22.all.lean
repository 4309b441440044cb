/-! every row of every method, by the kernel: printed by wip/whole/gen/mkcode.py -/
theorem zch_all : ∀ n, n < 310 → zchk n = true := by
  intro n hn
  by_cases h0 : n < 28
  · have := zch_0 (n - 0) (by omega)
    rwa [show 0 + (n - 0) = n by omega] at this
  by_cases h1 : n < 53
  · have := zch_1 (n - 28) (by omega)
    rwa [show 28 + (n - 28) = n by omega] at this
  by_cases h2 : n < 72
  · have := zch_2 (n - 53) (by omega)
    rwa [show 53 + (n - 53) = n by omega] at this
  by_cases h3 : n < 92
  · have := zch_3 (n - 72) (by omega)
    rwa [show 72 + (n - 72) = n by omega] at this
  by_cases h4 : n < 109
  · have := zch_4 (n - 92) (by omega)
    rwa [show 92 + (n - 92) = n by omega] at this
  by_cases h5 : n < 122
  · have := zch_5 (n - 109) (by omega)
    rwa [show 109 + (n - 109) = n by omega] at this
  by_cases h6 : n < 134
  · have := zch_6 (n - 122) (by omega)
    rwa [show 122 + (n - 122) = n by omega] at this
  by_cases h7 : n < 151
  · have := zch_7 (n - 134) (by omega)
    rwa [show 134 + (n - 134) = n by omega] at this
  by_cases h8 : n < 168
  · have := zch_8 (n - 151) (by omega)
    rwa [show 151 + (n - 151) = n by omega] at this
  by_cases h9 : n < 181
  · have := zch_9 (n - 168) (by omega)
    rwa [show 168 + (n - 168) = n by omega] at this
  by_cases h10 : n < 206
  · have := zch_10 (n - 181) (by omega)
    rwa [show 181 + (n - 181) = n by omega] at this
  by_cases h11 : n < 222
  · have := zch_11 (n - 206) (by omega)
    rwa [show 206 + (n - 206) = n by omega] at this
  by_cases h12 : n < 234
  · have := zch_12 (n - 222) (by omega)
    rwa [show 222 + (n - 222) = n by omega] at this
  by_cases h13 : n < 248
  · have := zch_13 (n - 234) (by omega)
    rwa [show 234 + (n - 234) = n by omega] at this
  by_cases h14 : n < 263
  · have := zch_14 (n - 248) (by omega)
    rwa [show 248 + (n - 248) = n by omega] at this
  by_cases h15 : n < 274
  · have := zch_15 (n - 263) (by omega)
    rwa [show 263 + (n - 263) = n by omega] at this
  by_cases h16 : n < 283
  · have := zch_16 (n - 274) (by omega)
    rwa [show 274 + (n - 274) = n by omega] at this
  by_cases h17 : n < 298
  · have := zch_17 (n - 283) (by omega)
    rwa [show 283 + (n - 283) = n by omega] at this
  by_cases h18 : n < 310
  · have := zch_18 (n - 298) (by omega)
    rwa [show 298 + (n - 298) = n by omega] at this
  omega
theorem zAll : ∀ j, j < znM → zMok znM zP zY zB zO j := fun j hj => zchk_ok hj (zch_all j hj)
def zchain : zc → Bool
  | e :: e2 :: cs => e2.1 == e.1 + e.2.2.2.1 && zchain (e2 :: cs)
  | _ => true
theorem zrows_of {B : ByteArray} {own : String} {ro : Option FieldType} : ∀ (K : zc), zchain K = true → K.all (zrowb B own ro) = true → zrowsb B own ro K = true
  | [], _, _ => rfl
  | [e], _, h => by
    simp only [List.all_cons, List.all_nil, Bool.and_true] at h
    simp [zrowsb, h]
  | e :: e2 :: cs, hc, h => by
    simp only [zchain, Bool.and_eq_true] at hc
    rw [List.all_cons, Bool.and_eq_true] at h
    have ih := zrows_of (e2 :: cs) hc.2 h.2
    unfold zrowsb
    rw [h.1, ih]
    simp [hc.1]
theorem zall_of {f : ze → Bool} (C : Nat) (hC : 0 < C) : ∀ (n : Nat) (K : zc), K.length ≤ n * C → (∀ i, i < n → ((K.drop (i * C)).take C).all f = true) → K.all f = true
  | 0, K, hl, _ => by
    have : K = [] := List.length_eq_zero_iff.mp (by omega)
    rw [this]; rfl
  | n + 1, K, hl, h => by
    have h0 := h 0 (by omega)
    rw [Nat.zero_mul, List.drop_zero] at h0
    have ih := zall_of C hC n (K.drop C) (by rw [List.length_drop, Nat.add_mul] at *; omega) (fun i hi => by
      have := h (i + 1) (by omega)
      rw [List.drop_drop, show C + i * C = (i + 1) * C by rw [Nat.add_mul]; omega]
      exact this)
    rw [← List.take_append_drop C K, List.all_append, h0, ih]
    rfl
set_option maxRecDepth 100000 in
theorem zlr_all : q_L_law.2.2.2.all (zrowb code "WordWarLaw" (some .boolean)) = true := by
  refine zall_of 40 (by decide) 23 _ (by decide) ?_
  intro i hi
  match i, hi with
  | 0, _ => exact zlr_0
  | 1, _ => exact zlr_1
  | 2, _ => exact zlr_2
  | 3, _ => exact zlr_3
  | 4, _ => exact zlr_4
  | 5, _ => exact zlr_5
  | 6, _ => exact zlr_6
  | 7, _ => exact zlr_7
  | 8, _ => exact zlr_8
  | 9, _ => exact zlr_9
  | 10, _ => exact zlr_10
  | 11, _ => exact zlr_11
  | 12, _ => exact zlr_12
  | 13, _ => exact zlr_13
  | 14, _ => exact zlr_14
  | 15, _ => exact zlr_15
  | 16, _ => exact zlr_16
  | 17, _ => exact zlr_17
  | 18, _ => exact zlr_18
  | 19, _ => exact zlr_19
  | 20, _ => exact zlr_20
  | 21, _ => exact zlr_21
  | 22, _ => exact zlr_22
  | n + 23, h => exact absurd h (by omega)
set_option maxRecDepth 100000 in
theorem zlr_ch : zchain q_L_law.2.2.2 = true := by decide +kernel
theorem zLawRow : zRow znM zP zY zB zO znM := by
  refine zchk_row ?_
  show (zrowsb code "WordWarLaw" (some .boolean) q_L_law.2.2.2 && _) = true
  rw [zrows_of _ zlr_ch zlr_all]
  rfl
