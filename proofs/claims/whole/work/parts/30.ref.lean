/-! the reference's small methods -/
theorem t_isSide {z : zZ} {d : Nat} {l : Int} {μ : Mu} (hd : 1 ≤ d) : mC z d 185 [(0, l)] μ = some (bi (decide (l = 0 ∨ l = 1)), μ) := by
  obtain ⟨e, rfl, he⟩ := pred_of hd
  rw [c_M_isSide]
  by_cases h : l = 0
  · rw [cT h, e_M_isSide_9, e_M_isSide_14, g01_1, bi_dt (Or.inl h)]
  · by_cases h1 : l = 1
    · rw [cF h, nT h1, e_M_isSide_9, e_M_isSide_14, g01_1, bi_dt (Or.inr h1)]
    · rw [cF h, nF h1, e_M_isSide_14, g01_0, bi_df (by omega)]
theorem t_isLetter {z : zZ} {d : Nat} {l : Int} {μ : Mu} (hd : 1 ≤ d) : mC z d 182 [(0, l)] μ = some (bi (decide (0 ≤ l ∧ l < 12)), μ) := by
  obtain ⟨e, rfl, he⟩ := pred_of hd
  rw [c_M_isLetter]
  by_cases h : 0 ≤ l ∧ l < 12
  · rw [cF (by omega), cF (by omega), e_M_isLetter_15, g01_1, bi_dt h]
  · rw [bi_df h]
    by_cases h1 : l < 0
    · rw [cT h1, e_M_isLetter_14, e_M_isLetter_15, g01_0]
    · rw [cF h1, cT (by omega), e_M_isLetter_14, e_M_isLetter_15, g01_0]
theorem t_in {z : zZ} {d : Nat} {l a b : Int} {μ : Mu} (hd : 1 ≤ d) : mC z d 183 [(0, l), (0, a), (0, b)] μ = some (bi (decide (a ≤ l ∧ l ≤ b)), μ) := by
  obtain ⟨e, rfl, he⟩ := pred_of hd
  rw [c_M_in]
  by_cases h : a ≤ l ∧ l ≤ b
  · rw [cF (by omega), cF (by omega), e_M_in_15, g01_1, bi_dt h]
  · rw [bi_df h]
    by_cases h1 : l < a
    · rw [cT h1, e_M_in_14, e_M_in_15, g01_0]
    · rw [cF h1, cT (by omega), e_M_in_14, e_M_in_15, g01_0]
theorem t_has {z : zZ} {d x k : Nat} {μ : Mu} (hd : 1 ≤ d) (hx : x < 2147483648) (hk : k < 32) : mC z d 189 [(0, (x : Int)), (0, (k : Int))] μ = some (bi (x.testBit k), μ) := by
  obtain ⟨e, rfl, he⟩ := pred_of hd
  rw [c_M_has, z_bit hx hk]
  cases h : x.testBit k
  · rw [if_neg (by decide), nF (by decide), e_M_has_14, g01_0, bi_f]
  · rw [if_pos rfl, nT rfl, e_M_has_14, g01_1, bi_t]
theorem t_bits {z : zZ} {d x : Nat} {μ : Mu} (hd : 1 ≤ d) (hx : x < 2147483648) : mC z d 236 [(0, (x : Int))] μ = some (((cnt x.testBit 12 : Nat) : Int), μ) := by
  obtain ⟨e, rfl, he⟩ := pred_of hd
  rw [c_M_bits]
  have H := down (n := 12) (P := fun k => f_M_bits_4 z e (x : Int) ((cnt x.testBit k : Nat) : Int) (k : Int) μ = some (((cnt x.testBit 12 : Nat) : Int), μ))
    (by rw [e_M_bits_4, cT (by omega)])
    (by
      intro k hk ih
      have hc := cnt_le x.testBit k
      rw [e_M_bits_4, cF (by omega), z_bit hx (by omega), zwc (k := k) (by omega)]
      cases h : x.testBit k
      · rw [if_neg (by decide), Int.add_zero, zw_id (by omega) (by omega)]
        simpa [cnt, h] using ih
      · rw [if_pos rfl, zwc (by omega)]
        simpa [cnt, h] using ih)
  exact H 0 (by omega)
theorem t_min {z : zZ} {d : Nat} {a b : Int} {μ : Mu} (hd : 1 ≤ d) : mC z d 205 [(0, a), (0, b)] μ = some (if a < b then a else b, μ) := by
  obtain ⟨e, rfl, he⟩ := pred_of hd
  rw [c_M_min]
  by_cases h : a < b
  · rw [cF (by omega), e_M_min_10, if_pos h]
  · rw [cT (by omega), e_M_min_10, if_neg h]
theorem t_max {z : zZ} {d : Nat} {a b : Int} {μ : Mu} (hd : 1 ≤ d) : mC z d 299 [(0, a), (0, b)] μ = some (if b < a then a else b, μ) := by
  obtain ⟨e, rfl, he⟩ := pred_of hd
  rw [c_M_max]
  by_cases h : b < a
  · rw [cF (by omega), e_M_max_10, if_pos h]
  · rw [cT (by omega), e_M_max_10, if_neg h]
theorem t_manyOf {z : zZ} {d s : Nat} {μ : Mu} (hd : 1 ≤ d) (hs : s < 2) : mC z d 198 [(2, 86), (0, (s : Int))] μ = some (μ 86 (14 + s), μ) := by
  obtain ⟨e, rfl, he⟩ := pred_of hd
  rw [c_M_manyOf]
  by_cases h : s = 0
  · subst h; rw [nT (by omega), e_M_manyOf_15]
  · have : s = 1 := by omega
    subst this; rw [nF (by omega), e_M_manyOf_15]
theorem t_fieldOf {z : zZ} {d s : Nat} {μ : Mu} (hd : 1 ≤ d) (hs : s < 2) : mC z d 199 [(2, 86), (0, (s : Int))] μ = some (μ 86 (16 + s), μ) := by
  obtain ⟨e, rfl, he⟩ := pred_of hd
  rw [c_M_fieldOf]
  by_cases h : s = 0
  · subst h; rw [nT (by omega), e_M_fieldOf_15]
  · have : s = 1 := by omega
    subst this; rw [nF (by omega), e_M_fieldOf_15]
theorem t_setField {z : zZ} {d s : Nat} {v : Int} {μ : Mu} (hd : 1 ≤ d) (hs : s < 2) : mC z d 207 [(2, 86), (0, (s : Int)), (0, v)] μ = some (0, zup μ 86 (16 + s) v) := by
  obtain ⟨e, rfl, he⟩ := pred_of hd
  rw [c_M_setField]
  by_cases h : s = 0
  · subst h; rw [nT (by omega), e_M_setField_17]
  · have : s = 1 := by omega
    subst this; rw [nF (by omega), e_M_setField_17]
theorem t_beginOf {z : zZ} {d s w : Nat} {μ : Mu} (hd : 1 ≤ d) (hs : s < 2) (hw : w < 100) : mC z d 201 [(0, (s : Int)), (0, (w : Int))] μ = some (((8 * (12 * s + w) : Nat) : Int), μ) := by
  obtain ⟨e, rfl, he⟩ := pred_of hd
  rw [c_M_beginOf, zw_id (x := 12 * (s : Int)) (by omega) (by omega), zw_id (x := 12 * (s : Int) + w) (by omega) (by omega), zw_id (by omega) (by omega)]
  congr 2
theorem t_longOf {z : zZ} {d s w : Nat} {μ : Mu} (hd : 1 ≤ d) (hs : s < 2) (hw : w < 12) : mC z d 202 [(2, 86), (0, (s : Int)), (0, (w : Int))] μ = some (μ 95 (12 * s + w), μ) := by
  obtain ⟨e, rfl, he⟩ := pred_of hd
  have e1 : zw (zw (12 * (s : Int)) + (w : Int)) = ((12 * s + w : Nat) : Int) := by
    rw [zw_id (x := 12 * (s : Int)) (by omega) (by omega), zw_id (by omega) (by omega)]; omega
  rw [c_M_longOf, e1, gI_ok (by omega) (by omega), Int.toNat_natCast]
theorem t_isWord {z : zZ} {d s : Nat} {w : Int} {μ : Mu} (hd : 2 ≤ d) (hs : s < 2) : mC z d 257 [(2, 86), (0, (s : Int)), (0, w)] μ = some (bi (decide (0 ≤ w ∧ w < μ 86 (14 + s))), μ) := by
  obtain ⟨e, rfl, he⟩ := pred_of hd
  have h1 : (s : Int) = 0 ∨ (s : Int) = 1 := by omega
  rw [c_M_isWord, t_isSide he]
  simp only [ob, cB, h1, decide_true, cond_true]
  by_cases h2 : w < 0
  · rw [cT h2, bi_df (by omega)]
    simp only [e_M_isWord_24, e_M_isWord_25, g01_0]
  · rw [cF h2, t_manyOf he hs]
    simp only [ob]
    by_cases h3 : μ 86 (14 + s) ≤ w
    · rw [cT h3, bi_df (by omega)]
      simp only [e_M_isWord_24, e_M_isWord_25, g01_0]
    · rw [cF h3, bi_dt (by omega)]
      simp only [e_M_isWord_25, g01_1]
theorem t_isWord_no {z : zZ} {d : Nat} {s w : Int} {μ : Mu} (hd : 2 ≤ d) (hs : ¬ (s = 0 ∨ s = 1)) : mC z d 257 [(2, 86), (0, s), (0, w)] μ = some (0, μ) := by
  obtain ⟨e, rfl, he⟩ := pred_of hd
  rw [c_M_isWord, t_isSide he]
  simp only [ob, cB, hs, decide_false, cond_false, e_M_isWord_24, e_M_isWord_25, g01_0]
/-- an int array of the machine -/
def iar (a n : Nat) : Prop := zint (a : Int) ∧ zlen (a : Int) = (n : Int)
theorem gAi {a n i : Nat} {A : mR} (ha : iar a n) (hi : i < n) : gA (a : Int) (i : Int) A = A := gA_ok ha.1 (by omega) (by rw [ha.2]; omega)
theorem ia89 : iar 89 24 := ⟨⟨by omega, rfl⟩, rfl⟩
theorem ia90 : iar 90 24 := ⟨⟨by omega, rfl⟩, rfl⟩
theorem ia91 : iar 91 24 := ⟨⟨by omega, rfl⟩, rfl⟩
theorem ia92 : iar 92 24 := ⟨⟨by omega, rfl⟩, rfl⟩
theorem ia94 : iar 94 192 := ⟨⟨by omega, rfl⟩, rfl⟩
theorem ia96 : iar 96 96 := ⟨⟨by omega, rfl⟩, rfl⟩
theorem ia112 : iar 112 96 := ⟨⟨by omega, rfl⟩, rfl⟩
theorem ia114 : iar 114 96 := ⟨⟨by omega, rfl⟩, rfl⟩
theorem ia118 : iar 118 8 := ⟨⟨by omega, rfl⟩, rfl⟩
theorem ia144 : iar 144 96 := ⟨⟨by omega, rfl⟩, rfl⟩
theorem t_adds {z : zZ} {d a i : Nat} {n : Int} {μ : Mu} (hd : 2 ≤ d) (ha : iar a 24) (hi : i < 24) (hh : hr (μ a)) (h0 : 0 ≤ n) (h1 : n ≤ 999) : mC z d 204 [(2, (a : Int)), (0, (i : Int)), (0, n)] μ = some (0, zrow μ a (addN (μ a) i n)) := by
  obtain ⟨e, rfl, he⟩ := pred_of hd
  have h2 := hh i
  rw [c_M_adds, gAi ha hi, Int.toNat_natCast, Int.toNat_natCast, t_min he]
  simp only [ob]
  rw [gAi ha hi, zw_id (by omega) (by omega), zupr]
  unfold addN
  by_cases h3 : 999 < μ a i + n
  · rw [if_pos h3, if_neg (by omega)]
  · rw [if_neg h3]
    by_cases h4 : μ a i + n < 999
    · rw [if_pos h4]
    · rw [if_neg h4]
      have : μ a i + n = 999 := by omega
      rw [this]
/-- a row of letters is a word -/
def rwd (μ : Mu) (a i n : Nat) (c : Int) : Prop := isW c n ∧ ∀ k, k < n → μ a (i + k) = (nib c k : Int) - 1
theorem isW_eq {c e : Int} {n : Nat} (h1 : isW c n) (h2 : isW e n) (h : ∀ k, k < n → nib c k = nib e k) : c = e := by
  apply nib_ext h1.1 h2.1
  intro k hk
  by_cases hn : k < n
  · exact h k hn
  · rw [h1.2.2.2 k (by omega), h2.2.2.2 k (by omega)]
theorem zwa {i k : Nat} (h : i + k < 2147483648) : zw ((i : Int) + (k : Int)) = ((i + k : Nat) : Int) := by rw [zw_id (by omega) (by omega)]; omega
theorem t_areAlike {z : zZ} {d a la i n b lb j m : Nat} {c e : Int} {μ : Mu} (hd : 1 ≤ d) (ha : iar a la) (hb : iar b lb) (hi : i + n ≤ la) (hj : j + m ≤ lb) (hla : la ≤ 1000) (hlb : lb ≤ 1000) (h1 : rwd μ a i n c) (h2 : rwd μ b j m e) : mC z d 196 [(2, (a : Int)), (0, (i : Int)), (0, (n : Int)), (2, (b : Int)), (0, (j : Int)), (0, (m : Int))] μ = some (bi (decide (c = e)), μ) := by
  obtain ⟨e', rfl, he⟩ := pred_of hd
  rw [c_M_areAlike]
  by_cases hnm : n = m
  · subst hnm
    rw [cT rfl]
    have H := down (n := n) (P := fun k => (∀ q, q < k → nib c q = nib e q) → f_M_areAlike_11 z e' (a : Int) (i : Int) (n : Int) (b : Int) (j : Int) (k : Int) μ = some (bi (decide (c = e)), μ))
      (by
        intro h
        rw [e_M_areAlike_11, cT (by omega), bi_dt (isW_eq h1.1 h2.1 h)])
      (by
        intro k hk ih h
        rw [e_M_areAlike_11, cF (by omega), zwa (by omega), zwa (by omega), gAi ha (by omega), gAi hb (by omega)]
        simp only [Int.toNat_natCast]
        simp only [h1.2 k hk, h2.2 k hk]
        by_cases hq : nib c k = nib e k
        · rw [cT (by omega), e_M_areAlike_35, zwc (by omega)]
          apply ih
          intro q hq'
          by_cases hqk : q = k
          · subst hqk; exact hq
          · exact h q (by omega)
        · rw [cF (by omega), bi_df (by intro hce; subst hce; exact hq rfl)])
    exact H 0 (by omega) (fun q hq => by omega)
  · rw [cF (by omega), bi_df]
    intro hce
    subst hce
    exact hnm (isW_len h1.1 h2.1)
/-- the reference's lexicon of a side: N words W w of L w letters -/
def lexR (μ : Mu) (s N : Nat) (W : Row) (L : Nat → Nat) : Prop := μ 86 (14 + s) = (N : Int) ∧ N ≤ 12 ∧ ∀ w, w < N → 1 ≤ L w ∧ μ 95 (12 * s + w) = (L w : Int) ∧ rwd μ 94 (8 * (12 * s + w)) (L w) (W w)
theorem t_wordIn {z : zZ} {d s N b lb j m : Nat} {W : Row} {L : Nat → Nat} {e : Int} {μ : Mu} (hd : 2 ≤ d) (hs : s < 2) (hx : lexR μ s N W L) (hb : iar b lb) (hj : j + m ≤ lb) (hlb : lb ≤ 1000) (h2 : rwd μ b j m e) : mC z d 206 [(2, 86), (0, (s : Int)), (2, (b : Int)), (0, (j : Int)), (0, (m : Int))] μ = some (fst1 (fun w => decide (W w = e)) N, μ) := by
  obtain ⟨e', rfl, he⟩ := pred_of hd
  have h12 := hx.2.1
  rw [c_M_wordIn]
  have H := down (n := N) (P := fun k => f_M_wordIn_3 z e' (s : Int) (b : Int) (j : Int) (m : Int) (k : Int) μ = some (ffst (fun w => decide (W w = e)) (N - k) k, μ))
    (by
      rw [e_M_wordIn_3, t_manyOf he hs, hx.1]
      simp only [ob]
      rw [cT (by omega), Nat.sub_self]
      rfl)
    (by
      intro k hk ih
      obtain ⟨g1, g2, g3⟩ := hx.2.2 k hk
      have g4 := g3.1.2.1
      rw [e_M_wordIn_3, t_manyOf he hs, hx.1]
      simp only [ob]
      rw [cF (by omega), t_beginOf he hs (by omega)]
      simp only [ob]
      rw [t_longOf he hs (by omega), g2]
      simp only [ob]
      have ha := t_areAlike (z := z) (d := e') (a := 94) (la := 192) he ia94 hb (by omega) hj (by omega) hlb g3 h2
      simp only [Int.cast_ofNat_Int] at ha
      rw [ha]
      simp only [ob, cB]
      have e1 : N - k = (N - (k + 1)) + 1 := by omega
      rw [e1]
      by_cases h : W k = e
      · simp only [h, decide_true, cond_true]; simp [ffst, h]
      · simp only [h, decide_false, cond_false]; rw [e_M_wordIn_43, zwc (by omega), ih]; simp [ffst, h])
  exact H 0 (by omega)
theorem cnt_ext {p : Nat → Bool} {n N : Nat} (h : n ≤ N) (hp : ∀ k, n ≤ k → p k = false) : cnt p N = cnt p n := by
  induction N with
  | zero => have : n = 0 := by omega
            subst this; rfl
  | succ N ih =>
    by_cases e : n = N + 1
    · rw [e]
    · show cnt p N + (if p N then 1 else 0) = _
      rw [hp N (by omega), ih (by omega)]
      simp
theorem allb_ext {p : Nat → Bool} {n N : Nat} (h : n ≤ N) (hp : ∀ k, n ≤ k → p k = true) : allb p N = allb p n := by
  induction N with
  | zero => have : n = 0 := by omega
            subst this; rfl
  | succ N ih =>
    by_cases e : n = N + 1
    · rw [e]
    · rw [← ih (by omega)]
      conv => lhs; unfold allb
      rw [hp N (by omega), Bool.and_true]
theorem homeB_ext {h : Row} {b n : Nat} {c : Int} (hc : isW c n) : homeB h b c 8 = homeB h b c n := by
  have : ∀ N, n ≤ N → homeB h b c N = homeB h b c n := by
    intro N
    induction N with
    | zero => intro hn; have : n = 0 := by omega
              subst this; rfl
    | succ N ih =>
      intro hn
      by_cases e : n = N + 1
      · rw [e]
      · rw [← ih (by omega)]
        conv => lhs; unfold homeB
        rw [if_neg]
        have := hc.2.2.2 N (by omega)
        omega
  exact this 8 hc.2.1
/-- clearing a bit -/
def fclr (f w : Nat) : Nat := bset (fun j => f.testBit j && !decide (j = w)) 12
theorem fclr_lt (f w : Nat) : fclr f w < 4096 := bset_lt _ 12
theorem fclr_bit (f w k : Nat) (hf : f < 4096) : (fclr f w).testBit k = (f.testBit k && !decide (k = w)) := by
  unfold fclr
  rw [bset_bit]
  by_cases h : k < 12
  · simp [h]
  · have : f.testBit k = false := Nat.testBit_lt_two_pow (Nat.lt_of_lt_of_le hf (by
      have : 2 ^ 12 ≤ 2 ^ k := Nat.pow_le_pow_right (by omega) (by omega)
      omega))
    simp [this]
theorem bv_nat (n : Nat) : bv (n : Int) = BitVec.ofNat 32 n := by unfold bv; rw [BitVec.ofInt_natCast]
theorem s_clr {f w : Nat} (hf : f < 4096) (hw : w < 12) : z_and (f : Int) (z_xor (z_shl 1 (w : Int)) (-1)) = ((fclr f w : Nat) : Int) := by
  have hlt := fclr_lt f w
  apply bv_inj (by rw [z_and_bv]; exact rg_to _) (by unfold rg; omega)
  rw [z_and_bv, bv_to, z_xor_bv, bv_to, z_shl_bv (by omega), bv_to, bv_nat, bv_nat]
  apply BitVec.eq_of_getLsbD_eq
  intro i hi
  have hm1 : bv (-1) = BitVec.allOnes 32 := by decide
  have h1 : bv 1 = 1#32 := by decide
  rw [BitVec.getLsbD_and, BitVec.getLsbD_xor, hm1, BitVec.getLsbD_allOnes, BitVec.getLsbD_shiftLeft, h1, BitVec.getLsbD_one, BitVec.getLsbD_ofNat, BitVec.getLsbD_ofNat, fclr_bit f w i hf]
  by_cases h2 : i = w
  · subst h2
    simp [hi]
  · by_cases h3 : i < w
    · simp [hi, h2, h3]
    · have h4 : ¬ (i - w = 0) := by omega
      simp [hi, h2, h3, h4]
theorem or_lt {f w : Nat} (hf : f < 4096) (hw : w < 12) : f ||| 2 ^ w < 4096 := by
  have h : 2 ^ w < 2 ^ 12 := Nat.pow_lt_pow_right (by omega) hw
  exact Nat.or_lt_two_pow (n := 12) hf h
theorem t_stands1 {z : zZ} {d s w f : Nat} {μ : Mu} (hd : 2 ≤ d) (hs : s < 2) (hw : w < 12) (hf : μ 86 (16 + s) = (f : Int)) (h4 : f < 4096) : mC z d 238 [(2, 86), (0, (s : Int)), (0, (w : Int)), (0, 1)] μ = some (0, zup μ 86 (16 + s) ((f ||| 2 ^ w : Nat) : Int)) := by
  obtain ⟨e, rfl, he⟩ := pred_of hd
  rw [c_M_stands, cF (by decide), t_fieldOf he hs, hf]
  simp only [ob]
  rw [s_or1 (by omega) (by omega), e_M_stands_29, t_setField he hs]
  rfl
theorem t_stands0 {z : zZ} {d s w f : Nat} {μ : Mu} (hd : 2 ≤ d) (hs : s < 2) (hw : w < 12) (hf : μ 86 (16 + s) = (f : Int)) (h4 : f < 4096) : mC z d 238 [(2, 86), (0, (s : Int)), (0, (w : Int)), (0, 0)] μ = some (0, zup μ 86 (16 + s) ((fclr f w : Nat) : Int)) := by
  obtain ⟨e, rfl, he⟩ := pred_of hd
  rw [c_M_stands, cT rfl, t_fieldOf he hs, hf]
  simp only [ob]
  rw [s_clr h4 hw, e_M_stands_29, t_setField he hs]
  rfl
