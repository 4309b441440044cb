/-! a letter finds a soldier: the class -/
def dff4 (a s : Nat) : Nat := bset (fun k => a.testBit k && !s.testBit k) 24
theorem dff4_lt (a s : Nat) : dff4 a s < 16777216 := bset_lt _ 24
theorem z_dff4 {a s : Nat} (ha : a < 16777216) (hs : s < 16777216) : z_and (a : Int) (z_xor (s : Int) (-1)) = ((dff4 a s : Nat) : Int) := by
  have hlt := dff4_lt a s
  apply bv_inj (by rw [z_and_bv]; exact rg_to _) (by unfold rg; omega)
  rw [z_and_bv, bv_to, z_xor_bv, bv_to, bv_nat, bv_nat, bv_nat]
  apply BitVec.eq_of_getLsbD_eq
  intro i hi
  have hm1 : bv (-1) = BitVec.allOnes 32 := by decide
  rw [BitVec.getLsbD_and, BitVec.getLsbD_xor, hm1, BitVec.getLsbD_allOnes, BitVec.getLsbD_ofNat, BitVec.getLsbD_ofNat, BitVec.getLsbD_ofNat]
  unfold dff4
  rw [bset_bit]
  by_cases h : i < 24
  · simp [hi, h]
  · have h2 : a.testBit i = false := Nat.testBit_lt_two_pow (Nat.lt_of_lt_of_le ha (by have := Nat.pow_le_pow_right (show 0 < 2 by decide) (show 24 ≤ i by omega); exact this))
    simp [hi, h, h2]
theorem dff4_bit {a s i : Nat} (hi : i < 24) : (dff4 a s).testBit i = (a.testBit i && !s.testBit i) := by
  unfold dff4
  rw [bset_bit, decide_eq_true hi, Bool.true_and]
theorem or_lt4 {f w : Nat} (hf : f < 16777216) (hw : w < 24) : f ||| 2 ^ w < 16777216 := by
  have h : 2 ^ w < 2 ^ 24 := Nat.pow_lt_pow_right (by omega) hw
  exact Nat.or_lt_two_pow (n := 24) hf h
/-- what settling may change -/
def SF (μ M : Mu) : Prop := (∀ a, a ≠ 65 → a ≠ 71 → M a = μ a) ∧ (∀ k, k ≠ 7 → M 65 k = μ 65 k)
theorem SF_refl (μ : Mu) : SF μ μ := ⟨fun _ _ _ => rfl, fun _ _ => rfl⟩
theorem SF_trans {A B C : Mu} (h1 : SF A B) (h2 : SF B C) : SF A C := ⟨fun a p q => by rw [h2.1 a p q, h1.1 a p q], fun k p => by rw [h2.2 k p, h1.2 k p]⟩
def bsy (T : Row) (S : Nat) : Nat := cnt (fun i => S.testBit i && decide (T i ≠ -1)) 24
def tvl (n : Nat) (T : Row) : Prop := ∀ i, i < 24 → T i = -1 ∨ ∃ x : Nat, x < n ∧ T i = (x : Int)
theorem bsy_mono {T : Row} {S S' : Nat} (h : ∀ i, S.testBit i = true → S'.testBit i = true) : bsy T S ≤ bsy T S' := by
  have key : ∀ n, cnt (fun i => S.testBit i && decide (T i ≠ -1)) n ≤ cnt (fun i => S'.testBit i && decide (T i ≠ -1)) n := by
    intro n
    induction n with
    | zero => exact Nat.le_refl _
    | succ n ih =>
      rw [cnt_succ, cnt_succ]
      by_cases q : S.testBit n = true
      · rw [q, h n q]
        split <;> omega
      · have : S.testBit n = false := by cases hh : S.testBit n with
          | false => rfl
          | true => exact absurd hh q
        rw [this, Bool.false_and, if_neg (by decide)]
        split <;> omega
  exact key 24
theorem bsy_le {T : Row} {S : Nat} : bsy T S ≤ cnt (fun i => decide (T i ≠ -1)) 24 := by
  have key : ∀ n, cnt (fun i => S.testBit i && decide (T i ≠ -1)) n ≤ cnt (fun i => decide (T i ≠ -1)) n := by
    intro n
    induction n with
    | zero => exact Nat.le_refl _
    | succ n ih =>
      rw [cnt_succ, cnt_succ]
      cases S.testBit n
      · rw [Bool.false_and, if_neg (by decide)]; split <;> omega
      · rw [Bool.true_and]; split <;> omega
  exact key 24
theorem bsy_or {T : Row} {S i : Nat} (hi : i < 24) (hS : S.testBit i = false) (hT : T i ≠ -1) : bsy T (S ||| 2 ^ i) = bsy T S + 1 := by
  unfold bsy
  exact cnt_point (w := i) (by rw [bit_or]; simp [hT]) (by rw [hS]; rfl) (fun k hk => by rw [bit_or]; simp [hk]) 24 hi
/-- what settling comes to -/
def STL (n : Nat) (R : Nat → Nat) (k : Nat) (T : Row) (S : Nat) (b : Bool) (T' : Row) (S' : Nat) : Prop := S' < 16777216 ∧ (∀ i, S.testBit i = true → S'.testBit i = true) ∧ tvl n T' ∧ (b = true → (∀ x, x < 8 → ctx T' x = ctx T x + (if x = k then 1 else 0)) ∧ ∀ i, i < 24 → T' i ≠ T i → S.testBit i = false ∧ ∃ x : Nat, x < n ∧ T' i = (x : Int) ∧ (R x).testBit i = true) ∧ (b = false → (∀ i, i < 24 → T' i = T i) ∧ (∀ i, i < 24 → (R k).testBit i = true → S'.testBit i = true) ∧ ∀ i, i < 24 → S'.testBit i = true → S.testBit i = false → T i ≠ -1 ∧ ∀ x : Nat, T i = (x : Int) → ∀ i', i' < 24 → (R x).testBit i' = true → S'.testBit i' = true)
theorem ctx_congr {T T' : Row} (h : ∀ i, i < 24 → T' i = T i) (x : Nat) : ctx T' x = ctx T x := cnt_congr (fun i hi => by rw [h i hi])
theorem s_settle {z : zZ} {n : Nat} {R : Nat → Nat} {μ : Mu} (hn : n ≤ 8) (hR : ∀ k, k < n → μ 70 k = (R k : Int) ∧ R k < 16777216) : ∀ (fuel dep d k : Nat) (M : Mu) (T : Row) (S : Nat), dep + fuel = 8 → fuel + 2 ≤ d → k < n → SF μ M → (∀ i, i < 24 → M 71 i = T i) → M 65 7 = (S : Int) → S < 16777216 → tvl n T → dep ≤ bsy T S → cnt (fun i => decide (T i ≠ -1)) 24 ≤ 7 → ∃ (b : Bool) (M' : Mu) (T' : Row) (S' : Nat), mC z d 162 [(2, 65), (0, (k : Int)), (0, (dep : Int))] M = some (bi b, M') ∧ SF μ M' ∧ (∀ i, i < 24 → M' 71 i = T' i) ∧ M' 65 7 = (S' : Int) ∧ STL n R k T S b T' S' := by
  intro fuel
  induction fuel with
  | zero =>
    intro dep d k M T S hf hd hk hM hT hS hS4 htv hb h7
    have := bsy_le (T := T) (S := S)
    omega
  | succ fuel ih =>
    intro dep d k M T S hf hd hk hM hT hS hS4 htv hb h7
    obtain ⟨e, rfl, he⟩ := pred_of (k := fuel + 2) (by omega : fuel + 2 + 1 ≤ d)
    have hb7 := bsy_le (T := T) (S := S)
    rw [c_Sol_settle, cF (by omega), cF (by omega), cT (by omega)]
    have go : ∀ (j i : Nat) (M1 : Mu) (S1 : Nat), j + i = 24 → SF μ M1 → (∀ i, i < 24 → M1 71 i = T i) → M1 65 7 = (S1 : Int) → S1 < 16777216 → (∀ i, S.testBit i = true → S1.testBit i = true) → (∀ i', i' < i → (R k).testBit i' = true → S1.testBit i' = true) → (∀ i, i < 24 → S1.testBit i = true → S.testBit i = false → T i ≠ -1 ∧ ∀ x : Nat, T i = (x : Int) → ∀ i', i' < 24 → (R x).testBit i' = true → S1.testBit i' = true) → ∃ (b : Bool) (M' : Mu) (T' : Row) (S' : Nat), f_Sol_settle_20 z e (k : Int) (dep : Int) (i : Int) M1 = some (bi b, M') ∧ SF μ M' ∧ (∀ i, i < 24 → M' 71 i = T' i) ∧ M' 65 7 = (S' : Int) ∧ STL n R k T S b T' S' := by
      intro j
      induction j with
      | zero =>
        intro i M1 S1 hj h1 h2 h3 h4 h5 h6 h7'
        have hi : i = 24 := by omega
        subst hi
        refine ⟨false, M1, T, S1, ?_, h1, h2, h3, h4, h5, htv, fun q => absurd q (by decide), fun _ => ⟨fun _ _ => rfl, h6, h7'⟩⟩
        rw [e_Sol_settle_20, cT (by omega), bi_f]
      | succ j ih2 =>
        intro i M1 S1 hj h1 h2 h3 h4 h5 h6 h7'
        have hi : i < 24 := by omega
        obtain ⟨r1, r2⟩ := hR k hk
        have h70 : M1 70 k = (R k : Int) := by rw [h1.1 70 (by omega) (by omega)]; exact r1
        have h93 : ∀ M2 : Mu, f_Sol_settle_93 z e (k : Int) (dep : Int) (i : Int) M2 = f_Sol_settle_20 z e (k : Int) (dep : Int) ((i + 1 : Nat) : Int) M2 := fun M2 => by rw [e_Sol_settle_93, zwc (by omega)]
        have hd4 := dff4_lt (R k) S1
        rw [e_Sol_settle_20, cF (by omega), gI_ok (by omega) (by omega), Int.toNat_natCast, h70, h3, z_dff4 r2 h4, s_has (by omega) (by omega) (by omega), dff4_bit hi]
        simp -implicitDefEqProofs only [ob]
        rw [cB]
        by_cases hE : ((R k).testBit i && !S1.testBit i) = true
        · rw [hE, cond_true, gI_ok (by omega) (by omega), Int.toNat_natCast]
          rw [Bool.and_eq_true, Bool.not_eq_true'] at hE
          obtain ⟨hE1, hE2⟩ := hE
          have hS0 : S.testBit i = false := by
            cases q : S.testBit i with
            | false => rfl
            | true => rw [h5 i q] at hE2; exact absurd hE2 (by decide)
          have hor := or_lt4 h4 hi
          rw [h3, s_or1 (by omega) (by omega)]
          have z71 : ∀ i', i' < 24 → zup M1 65 7 ((S1 ||| 2 ^ i : Nat) : Int) 71 i' = T i' := fun i' hi' => by rw [zup_ro (by omega)]; exact h2 i' hi'
          have zSF : SF μ (zup M1 65 7 ((S1 ||| 2 ^ i : Nat) : Int)) := SF_trans h1 ⟨fun a q1 q2 => zup_ro q1, fun k q => zup_nk q⟩
          have hsub : ∀ i', S1.testBit i' = true → (S1 ||| 2 ^ i).testBit i' = true := fun i' q => by rw [bit_or, q]; rfl
          rcases Classical.em (T i = -1) with hTi | hTi
          · rw [cT (show M1 71 i = -1 by rw [h2 i hi]; exact hTi), e_Sol_settle_84, gI_ok (by omega) (by omega), Int.toNat_natCast]
            refine ⟨true, _, rup T i (k : Int), S1 ||| 2 ^ i, by rw [bi_t], SF_trans zSF ⟨fun a q1 q2 => zup_ro q2, fun k q => by rw [zup_ro (by omega)]⟩, fun i' hi' => ?_, by rw [zup_ro (by omega)]; exact zup_hit, hor, fun i' q => hsub i' (h5 i' q), fun i' hi' => ?_, fun _ => ⟨fun x hx => ?_, fun i' hi' hne => ?_⟩, fun q => absurd q (by decide)⟩
            · by_cases q : i' = i
              · subst q; rw [zup_hit, rup_same]
              · rw [zup_nk q, rup_ne q]; exact z71 i' hi'
            · by_cases q : i' = i
              · subst q; right; exact ⟨k, hk, rup_same⟩
              · rw [rup_ne q]; exact htv i' hi'
            · have := ctx_rup (T := T) (k := k) (x := x) hi hTi (by omega)
              rw [if_neg (show ¬ (x : Int) = -1 by omega)] at this
              split
              · rename_i q; rw [if_pos q] at this; omega
              · rename_i q; rw [if_neg q] at this; omega
            · by_cases q : i' = i
              · subst q; exact ⟨hS0, k, hk, rup_same, hE1⟩
              · rw [rup_ne q] at hne; exact absurd rfl hne
          · obtain ⟨x, hx, hTx⟩ : ∃ x : Nat, x < n ∧ T i = (x : Int) := by
              rcases htv i hi with q | q
              · exact absurd q hTi
              · exact q
            have hby := bsy_or (T := T) hi hE2 hTi
            have hbm := bsy_mono (T := T) h5
            obtain ⟨b, M2, T2, S2, g1, g2, g3, g4, g5, g6, g7, g8, g9⟩ := ih (dep + 1) e x (zup M1 65 7 ((S1 ||| 2 ^ i : Nat) : Int)) T (S1 ||| 2 ^ i) (by omega) (by omega) hx zSF z71 zup_hit hor htv (by omega) h7
            rw [cF (show ¬ M1 71 i = -1 by rw [h2 i hi]; exact hTi), gI_ok (by omega) (by omega), h2 i hi, hTx, zwc (by omega), g1]
            simp -implicitDefEqProofs only [ob]
            rw [cB]
            cases b with
            | true =>
              obtain ⟨k1, k2⟩ := g8 rfl
              have hT2i : T2 i = (x : Int) := by
                rcases Classical.em (T2 i = T i) with q | q
                · rw [q]; exact hTx
                · have := (k2 i hi q).1
                  rw [bit_or] at this
                  simp at this
              rw [cond_true, e_Sol_settle_84, gI_ok (by omega) (by omega), Int.toNat_natCast]
              rcases Classical.em (x = k) with hxk | hxk
              · subst hxk
                refine ⟨true, _, T2, S2, by rw [bi_t], SF_trans g2 ⟨fun a q1 q2 => zup_ro q2, fun k q => by rw [zup_ro (by omega)]⟩, fun i' hi' => ?_, by rw [zup_ro (by omega)]; exact g4, g5, fun i' q => g6 i' (hsub i' (h5 i' q)), g7, fun _ => ⟨k1, fun i' hi' hne => ?_⟩, fun q => absurd q (by decide)⟩
                · by_cases q : i' = i
                  · subst q; rw [zup_hit, hT2i]
                  · rw [zup_nk q]; exact g3 i' hi'
                · obtain ⟨l1, l2⟩ := k2 i' hi' hne
                  refine ⟨?_, l2⟩
                  cases q : S.testBit i' with
                  | false => rfl
                  | true => rw [hsub i' (h5 i' q)] at l1; exact absurd l1 (by decide)
              · refine ⟨true, _, rup T2 i (k : Int), S2, by rw [bi_t], SF_trans g2 ⟨fun a q1 q2 => zup_ro q2, fun k q => by rw [zup_ro (by omega)]⟩, fun i' hi' => ?_, by rw [zup_ro (by omega)]; exact g4, g5, fun i' q => g6 i' (hsub i' (h5 i' q)), fun i' hi' => ?_, fun _ => ⟨fun y hy => ?_, fun i' hi' hne => ?_⟩, fun q => absurd q (by decide)⟩
                · by_cases q : i' = i
                  · subst q; rw [zup_hit, rup_same]
                  · rw [zup_nk q, rup_ne q]; exact g3 i' hi'
                · by_cases q : i' = i
                  · subst q; right; exact ⟨k, hk, rup_same⟩
                  · rw [rup_ne q]; exact g7 i' hi'
                · have l1 := ctx_rup (T := T2) (k := k) (x := y) hi hT2i (by omega)
                  have l2 := k1 y hy
                  by_cases q1 : y = k
                  · rw [if_pos q1] at l1 ⊢
                    rw [if_neg (show ¬ (y : Int) = (x : Int) by omega)] at l1
                    rw [if_neg (show ¬ y = x by omega)] at l2
                    omega
                  · rw [if_neg q1] at l1 ⊢
                    by_cases q2 : y = x
                    · rw [if_pos (show (y : Int) = (x : Int) by omega)] at l1
                      rw [if_pos q2] at l2
                      omega
                    · rw [if_neg (show ¬ (y : Int) = (x : Int) by omega)] at l1
                      rw [if_neg q2] at l2
                      omega
                · by_cases q : i' = i
                  · subst q; exact ⟨hS0, k, hk, rup_same, hE1⟩
                  · rw [rup_ne q] at hne ⊢
                    obtain ⟨l1, l2⟩ := k2 i' hi' hne
                    refine ⟨?_, l2⟩
                    cases q : S.testBit i' with
                    | false => rfl
                    | true => rw [hsub i' (h5 i' q)] at l1; exact absurd l1 (by decide)
            | false =>
              obtain ⟨k1, k2, k3⟩ := g9 rfl
              rw [cond_false, h93]
              refine ih2 (i + 1) M2 S2 (by omega) g2 (fun i' hi' => by rw [g3 i' hi']; exact k1 i' hi') g4 g5 (fun i' q => g6 i' (hsub i' (h5 i' q))) (fun i' hi' hRi => ?_) (fun i' hi' hS2 hS0' => ?_)
              · by_cases q : i' = i
                · subst q; exact g6 i' (by rw [bit_or]; simp)
                · exact g6 i' (hsub i' (h6 i' (by omega) hRi))
              · by_cases q : i' = i
                · subst q
                  refine ⟨hTi, fun y hy i2 hi2 hRy => ?_⟩
                  have : y = x := by rw [hTx] at hy; omega
                  subst this
                  exact k2 i2 hi2 hRy
                · by_cases q2 : S1.testBit i' = true
                  · obtain ⟨l1, l2⟩ := h7' i' hi' q2 hS0'
                    exact ⟨l1, fun y hy i2 hi2 hRy => g6 i2 (hsub i2 (l2 y hy i2 hi2 hRy))⟩
                  · have q3 : (S1 ||| 2 ^ i).testBit i' = false := by
                      rw [bit_or]
                      have : S1.testBit i' = false := by cases hh : S1.testBit i' with
                        | false => rfl
                        | true => exact absurd hh q2
                      rw [this]
                      simp [q]
                    exact k3 i' hi' hS2 q3
        · have hE0 : ((R k).testBit i && !S1.testBit i) = false := by cases q : ((R k).testBit i && !S1.testBit i) with
            | false => rfl
            | true => exact absurd q hE
          rw [hE0, cond_false, h93]
          refine ih2 (i + 1) M1 S1 (by omega) h1 h2 h3 h4 h5 (fun i' hi' hRi => ?_) h7'
          by_cases q : i' = i
          · subst q
            rw [hRi, Bool.true_and, Bool.not_eq_false'] at hE0
            exact hE0
          · exact h6 i' (by omega) hRi
    have := go 24 0 M S (by omega) hM hT hS hS4 (fun _ q => q) (fun i' q => absurd q (by omega)) (fun i hi q1 q2 => by rw [q1] at q2; exact absurd q2 (by decide))
    exact this
