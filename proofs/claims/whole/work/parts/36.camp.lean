/-! what is kept of a side -/
def cpy (h g : Row) (n : Nat) : Row := fun j => if j < n then h j else g j
theorem zcpy0 (μ : Mu) (a b n : Nat) : zcpy μ a 0 b 0 n = zrow μ b (cpy (μ a) (μ b) n) := by
  rw [zcpy_row]
  congr 1
  funext j
  unfold cpy
  by_cases h : j < n
  · rw [if_pos (by omega), if_pos h]
    congr 1
    omega
  · rw [if_neg (by omega), if_neg h]
def stB (st : Row) (f : Nat) (W : Row) : Nat → Row
  | 0 => st
  | w + 1 => if f.testBit w = true then rup (stB st f W w) (cnt f.testBit w) (W w) else stB st f W w
def isC (c : Nat) : Prop := c = 10 ∨ c = 19 ∨ c = 73 ∨ c = 76 ∨ c = 80 ∨ c = 83
theorem cnt_mono (p : Nat → Bool) {n m : Nat} (h : n ≤ m) : cnt p n ≤ cnt p m := by
  induction m with
  | zero => have : n = 0 := by omega
            subst this; exact Nat.le_refl _
  | succ m ih =>
    by_cases e : n = m + 1
    · subst e; exact Nat.le_refl _
    · have := ih (by omega)
      show cnt p n ≤ cnt p m + (if p m then 1 else 0)
      omega
theorem cnt_succ (p : Nat → Bool) (n : Nat) : cnt p (n + 1) = cnt p n + (if p n then 1 else 0) := rfl
theorem s_saveTo {z : zZ} {d o c N f : Nat} {μ : Mu} (hd : 3 ≤ d) (ho : o = 4 ∨ o = 13) (hc : isC c) (hn : μ o 6 = (N : Int)) (h12 : N ≤ 12) (hf : μ o 7 = (f : Int)) (h4 : f < 4096) (h6 : cnt f.testBit 12 ≤ 6) : mC z d 35 [(2, (o : Int)), (2, (c : Int))] μ = some (0, zrow (zrow (zrow μ (c + 1) (cpy (μ (o + 3)) (μ (c + 1)) 36)) (c + 2) (stB (μ (c + 2)) f (μ (o + 4)) N)) c (rup (μ c) 2 ((cnt f.testBit N : Nat) : Int))) := by
  obtain ⟨e, rfl, he⟩ := pred_of hd
  have d1 : o ≠ c ∧ o ≠ c + 1 ∧ o ≠ c + 2 ∧ o + 4 ≠ c ∧ o + 4 ≠ c + 1 ∧ o + 4 ≠ c + 2 := by unfold isC at hc; omega
  rw [c_Army_saveTo _ _ _ _ _ ho hc, zcpy0]
  generalize hA : cpy (μ (o + 3)) (μ (c + 1)) 36 = A
  have H := down (n := N) (P := fun w => f_Army_saveTo_25 z e o c (w : Int) (zrow (zrow (zrow μ (c + 1) A) (c + 2) (stB (μ (c + 2)) f (μ (o + 4)) w)) c (rup (μ c) 2 ((cnt f.testBit w : Nat) : Int))) = some (0, zrow (zrow (zrow μ (c + 1) A) (c + 2) (stB (μ (c + 2)) f (μ (o + 4)) N)) c (rup (μ c) 2 ((cnt f.testBit N : Nat) : Int))))
    (by
      rw [e_Army_saveTo_25 _ _ _ _ _ _ ho hc, cT]
      rw [zrow_ne d1.1, zrow_ne d1.2.2.1, zrow_ne d1.2.1, hn]
      omega)
    (by
      intro w hw ih
      have ro : ∀ (S R : Row), zrow (zrow (zrow μ (c + 1) A) (c + 2) S) c R o = μ o := fun S R => by rw [zrow_ne d1.1, zrow_ne d1.2.2.1, zrow_ne d1.2.1]
      have r4 : ∀ (S R : Row), zrow (zrow (zrow μ (c + 1) A) (c + 2) S) c R (o + 4) = μ (o + 4) := fun S R => by rw [zrow_ne d1.2.2.2.1, zrow_ne d1.2.2.2.2.2, zrow_ne d1.2.2.2.2.1]
      have hw0 : (0 : Int) ≤ (w : Int) ∧ (w : Int) < (N : Int) := by omega
      rw [e_Army_saveTo_25 _ _ _ _ _ _ ho hc, cF (by rw [ro, hn]; omega), s_stands (by omega) ho (by rw [ro]; exact hn) h12 (by rw [ro]; exact hf) h4]
      simp -implicitDefEqProofs only [ob, cB, hw0, and_self, decide_true, Bool.true_and, Int.toNat_natCast, zrow_same, r4]
      cases hb : f.testBit w
      · simp -implicitDefEqProofs only [cond_false]
        rw [e_Army_saveTo_75 _ _ _ _ _ _ ho hc, zwc (by omega)]
        have e1 : cnt f.testBit (w + 1) = cnt f.testBit w := by rw [cnt_succ, hb]; rfl
        have e2 : stB (μ (c + 2)) f (μ (o + 4)) (w + 1) = stB (μ (c + 2)) f (μ (o + 4)) w := by
          show (if f.testBit w = true then _ else _) = _
          rw [hb]; rfl
        rw [e1, e2] at ih
        exact ih
      · simp -implicitDefEqProofs only [cond_true]
        have e1 : cnt f.testBit (w + 1) = cnt f.testBit w + 1 := by rw [cnt_succ, hb]; rfl
        have e2 : stB (μ (c + 2)) f (μ (o + 4)) (w + 1) = rup (stB (μ (c + 2)) f (μ (o + 4)) w) (cnt f.testBit w) (μ (o + 4) w) := by
          show (if f.testBit w = true then _ else _) = _
          rw [hb]; rfl
        have hm := cnt_mono f.testBit (n := w + 1) (m := 12) (by omega)
        rw [rup_same, cF (by omega), gI_ok (by omega) (by omega), gI_ok (by omega) (by omega), e_Army_saveTo_75 _ _ _ _ _ _ ho hc, zwc (by omega), zwc (by omega), Int.toNat_natCast]
        rw [e1, e2] at ih
        rw [zupr (a := c + 2), zrow_ne (a := c) (b := c + 2) (by omega), zrow_same, zrow_comm (a := c) (b := c + 2) (by omega), zrow_zrow, zupr, zrow_same, zrow_zrow, rup_rup]
        exact ih)
  have H0 := H 0 (by omega)
  have e3 : zup (zrow μ (c + 1) A) c 2 0 = zrow (zrow (zrow μ (c + 1) A) (c + 2) (stB (μ (c + 2)) f (μ (o + 4)) 0)) c (rup (μ c) 2 ((cnt f.testBit 0 : Nat) : Int)) := by
    have e4 : stB (μ (c + 2)) f (μ (o + 4)) 0 = zrow μ (c + 1) A (c + 2) := by rw [zrow_ne (by omega)]; rfl
    rw [e4, zrow_id, zupr, zrow_ne (a := c + 1) (b := c) (by omega)]
    rfl
  rw [e3]
  exact H0
def ldF (W st : Row) (N : Nat) : Nat → Nat
  | 0 => 0
  | i + 1 => if fst1 (fun w => decide (W w = st i)) N = -1 then ldF W st N i else ldF W st N i ||| 2 ^ (fst1 (fun w => decide (W w = st i)) N).toNat
def ldH (h W st : Row) (N b : Nat) : Nat → Row
  | 0 => h
  | i + 1 => if fst1 (fun w => decide (W w = st i)) N = -1 then homeB (ldH h W st N b i) b (st i) 8 else ldH h W st N b i
theorem ldF_lt {W st : Row} {N : Nat} (h12 : N ≤ 12) (i : Nat) : ldF W st N i < 4096 := by
  induction i with
  | zero => unfold ldF; omega
  | succ i ih =>
    unfold ldF
    split
    · exact ih
    · rename_i h
      rcases fst1_sp (fun w => decide (W w = st i)) N with ⟨g1, _⟩ | ⟨u, g1, g2, _, _⟩
      · exact absurd g1 h
      · rw [g1, Int.toNat_natCast]
        exact or_lt ih (by omega)
theorem hr_ldH {h W st : Row} {N b : Nat} (hh : hr h) (i : Nat) : hr (ldH h W st N b i) := by
  induction i with
  | zero => exact hh
  | succ i ih =>
    unfold ldH
    split
    · exact hr_homeB ih 8
    · exact ih
theorem s_loadFrom {z : zZ} {d o c N m : Nat} {μ : Mu} (hd : 4 ≤ d) (ho : o = 4 ∨ o = 13) (hc : isC c) (hn : μ o 6 = (N : Int)) (h12 : N ≤ 12) (hm : μ c 2 = (m : Int)) (hm6 : m ≤ 6) (hh : hr (cpy (μ (c + 1)) (μ (o + 3)) 36)) : mC z d 38 [(2, (o : Int)), (2, (c : Int))] μ = some (0, zrow (zrow μ (o + 3) (ldH (cpy (μ (c + 1)) (μ (o + 3)) 36) (μ (o + 4)) (μ (c + 2)) N 0 m)) o (rup (μ o) 7 ((ldF (μ (o + 4)) (μ (c + 2)) N m : Nat) : Int))) := by
  obtain ⟨e, rfl, he⟩ := pred_of hd
  have d1 : c ≠ o ∧ c ≠ o + 3 ∧ c + 2 ≠ o ∧ c + 2 ≠ o + 3 := by unfold isC at hc; omega
  rw [c_Army_loadFrom _ _ _ _ _ ho hc, zcpy0]
  generalize hA : cpy (μ (c + 1)) (μ (o + 3)) 36 = A at hh
  have H := down (n := m) (P := fun i => f_Army_loadFrom_25 z e o c (i : Int) (zrow (zrow μ (o + 3) (ldH A (μ (o + 4)) (μ (c + 2)) N 0 i)) o (rup (μ o) 7 ((ldF (μ (o + 4)) (μ (c + 2)) N i : Nat) : Int))) = some (0, zrow (zrow μ (o + 3) (ldH A (μ (o + 4)) (μ (c + 2)) N 0 m)) o (rup (μ o) 7 ((ldF (μ (o + 4)) (μ (c + 2)) N m : Nat) : Int))))
    (by
      rw [e_Army_loadFrom_25 _ _ _ _ _ _ ho hc, cT, e_Army_loadFrom_86]
      rw [zrow_ne d1.1, zrow_ne d1.2.1, hm]
      omega)
    (by
      intro i hi ih
      have rc : ∀ (S R : Row), zrow (zrow μ (o + 3) S) o R c = μ c := fun S R => by rw [zrow_ne d1.1, zrow_ne d1.2.1]
      have rc2 : ∀ (S R : Row), zrow (zrow μ (o + 3) S) o R (c + 2) = μ (c + 2) := fun S R => by rw [zrow_ne d1.2.2.1, zrow_ne d1.2.2.2]
      have r4 : ∀ (S R : Row), zrow (zrow μ (o + 3) S) o R (o + 4) = μ (o + 4) := fun S R => by rw [zrow_ne (by omega), zrow_ne (by omega)]
      have r3 : ∀ (S R : Row), zrow (zrow μ (o + 3) S) o R (o + 3) = S := fun S R => by rw [zrow_ne (by omega), zrow_same]
      have hlt := ldF_lt (W := μ (o + 4)) (st := μ (c + 2)) h12 i
      rw [e_Army_loadFrom_25 _ _ _ _ _ _ ho hc, cF (by rw [rc, hm]; omega), cF (by omega), gI_ok (by omega) (by omega), s_find (by omega) ho (by rw [zrow_same, rup_ne (by omega)]; exact hn) h12]
      simp -implicitDefEqProofs only [ob, Int.toNat_natCast, rc2, r4]
      rcases fst1_sp (fun w => decide (μ (o + 4) w = μ (c + 2) i)) N with ⟨g1, g2⟩ | ⟨u, g1, g2, g3, g4⟩
      · have e1 : ldF (μ (o + 4)) (μ (c + 2)) N (i + 1) = ldF (μ (o + 4)) (μ (c + 2)) N i := by
          show (if _ then _ else _) = _
          rw [if_pos g1]
        have e2 : ldH A (μ (o + 4)) (μ (c + 2)) N 0 (i + 1) = homeB (ldH A (μ (o + 4)) (μ (c + 2)) N 0 i) 0 (μ (c + 2) i) 8 := by
          show (if _ then _ else _) = _
          rw [if_pos g1]
        rw [g1, nT rfl, gI_ok (by omega) (by omega), s_sendHome (by omega) ho (by rw [r3]; exact hr_ldH hh i)]
        simp -implicitDefEqProofs only [ob, r3]
        rw [e_Army_loadFrom_80 _ _ _ _ _ _ ho hc, zwc (by omega), zrow_comm (a := o) (b := o + 3) (by omega), zrow_zrow]
        rw [e1, e2] at ih
        exact ih
      · have e1 : ldF (μ (o + 4)) (μ (c + 2)) N (i + 1) = ldF (μ (o + 4)) (μ (c + 2)) N i ||| 2 ^ u := by
          show (if _ then _ else _) = _
          rw [if_neg (by rw [g1]; omega), g1, Int.toNat_natCast]
        have e2 : ldH A (μ (o + 4)) (μ (c + 2)) N 0 (i + 1) = ldH A (μ (o + 4)) (μ (c + 2)) N 0 i := by
          show (if _ then _ else _) = _
          rw [if_neg (by rw [g1]; omega)]
        rw [g1, nF (by omega), e_Army_loadFrom_68 _ _ _ _ _ _ _ ho hc, zrow_same, rup_same, s_or1 (by omega) (by omega), e_Army_loadFrom_80 _ _ _ _ _ _ ho hc, zwc (by omega), zupr, zrow_same, zrow_zrow, rup_rup]
        rw [e1, e2] at ih
        exact ih)
  have H0 := H 0 (by omega)
  have e3 : zup (zrow μ (o + 3) A) o 7 0 = zrow (zrow μ (o + 3) (ldH A (μ (o + 4)) (μ (c + 2)) N 0 0)) o (rup (μ o) 7 ((ldF (μ (o + 4)) (μ (c + 2)) N 0 : Nat) : Int)) := by
    rw [zupr, zrow_ne (a := o + 3) (b := o) (by omega)]
    rfl
  rw [e3]
  exact H0
theorem t_copies {z : zZ} {d a la b lb n : Nat} {μ : Mu} (hd : 1 ≤ d) (ha : iar a la) (hb : iar b lb) (hab : a ≠ b) (hla : n ≤ la) (hlb : n ≤ lb) (hn : n ≤ 1000) : mC z d 253 [(2, (a : Int)), (2, (b : Int)), (0, (n : Int))] μ = some (0, zrow μ b (cpy (μ a) (μ b) n)) := by
  obtain ⟨e, rfl, he⟩ := pred_of hd
  rw [c_M_copies]
  have H := down (n := n) (P := fun k => f_M_copies_2 z e (a : Int) (b : Int) (n : Int) (k : Int) (zrow μ b (cpy (μ a) (μ b) k)) = some (0, zrow μ b (cpy (μ a) (μ b) n)))
    (by rw [e_M_copies_2, cT (by omega)])
    (by
      intro k hk ih
      rw [e_M_copies_2, cF (by omega), gAi ha (by omega), gAi hb (by omega)]
      simp -implicitDefEqProofs only [Int.toNat_natCast]
      rw [zwc (by omega), zupr, zrow_same, zrow_zrow, zrow_ne hab]
      have e1 : rup (cpy (μ a) (μ b) k) k (μ a k) = cpy (μ a) (μ b) (k + 1) := by
        funext j
        unfold rup cpy
        by_cases h1 : j = k
        · rw [if_pos h1, if_pos (by omega), h1]
        · rw [if_neg h1]
          by_cases h2 : j < k
          · rw [if_pos h2, if_pos (by omega)]
          · rw [if_neg h2, if_neg (by omega)]
      rw [e1]
      exact ih)
  have H0 := H 0 (by omega)
  have e2 : cpy (μ a) (μ b) 0 = μ b := by
    funext j
    unfold cpy
    rw [if_neg (by omega)]
  rw [e2, zrow_id] at H0
  exact H0
