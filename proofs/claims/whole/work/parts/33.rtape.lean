/-! the reference's tape -/
def tpe (μ : Mu) (b : Row) : Prop := byt b ∧ ∀ k, k < 220 → μ 93 k = if b k < 128 then b k else b k - 256
theorem z_255 (x : Int) : z_and x 255 = x % 256 := by
  have := z_and_mask (a := x) (n := 8) (by omega)
  rwa [show ((2 ^ 8 - 1 : Nat) : Int) = 255 from rfl, show (2 : Int) ^ 8 = 256 from rfl] at this
theorem t_here {z : zZ} {d p n : Nat} {b : Row} {μ : Mu} (hd : 1 ≤ d) (h2 : μ 86 10 = (p : Int)) (h3 : μ 86 11 = (n : Int)) (hn : n ≤ 220) (hb : tpe μ b) : mC z d 193 [(2, 86)] μ = some (tx b n p, μ) := by
  obtain ⟨e, rfl, he⟩ := pred_of hd
  rw [c_M_here, h2, h3]
  by_cases h : p < n
  · rw [cF (by omega), gI_ok (by omega) (by omega), e_M_here_28, tx_in h, Int.toNat_natCast, z_255, hb.2 p (by omega)]
    have := hb.1 p
    congr 2
    split <;> omega
  · rw [cT (by omega), e_M_here_28, tx_out (by omega)]
theorem t_isLetterHere {z : zZ} {d p n : Nat} {b : Row} {μ : Mu} (hd : 2 ≤ d) (h2 : μ 86 10 = (p : Int)) (h3 : μ 86 11 = (n : Int)) (hn : n ≤ 220) (hb : tpe μ b) : mC z d 192 [(2, 86)] μ = some (bi (isl b n p), μ) := by
  obtain ⟨e, rfl, he⟩ := pred_of hd
  rw [c_M_isLetterHere, t_here he h2 h3 hn hb]
  simp only [ob]
  rw [t_in he]
  simp only [ob]
  rw [g01b]
  rfl
theorem t_isDigit {z : zZ} {d p n : Nat} {b : Row} {μ : Mu} (hd : 2 ≤ d) (h2 : μ 86 10 = (p : Int)) (h3 : μ 86 11 = (n : Int)) (hn : n ≤ 220) (hb : tpe μ b) : mC z d 214 [(2, 86)] μ = some (bi (isg b n p), μ) := by
  obtain ⟨e, rfl, he⟩ := pred_of hd
  rw [c_M_isDigit, t_here he h2 h3 hn hb]
  simp only [ob]
  unfold isg
  by_cases h : tx b n p < 48
  · rw [cT h, e_M_isDigit_22, e_M_isDigit_23, g01_0, bi_df (by omega)]
  · rw [cF h, t_here he h2 h3 hn hb]
    simp only [ob]
    by_cases h1 : 57 < tx b n p
    · rw [cT h1, e_M_isDigit_22, e_M_isDigit_23, g01_0, bi_df (by omega)]
    · rw [cF h1, e_M_isDigit_23, g01_1, bi_dt (by omega)]
theorem t_wrongAt {z : zZ} {d : Nat} {k w : Int} {μ : Mu} (hd : 1 ≤ d) (hk : 0 ≤ k ∧ k ≤ 9) (hw : 0 ≤ w ∧ w ≤ 1000) : mC z d 194 [(2, 86), (0, k), (0, w)] μ = some (0, zup μ 86 12 (-1000 * k - w)) := by
  obtain ⟨e, rfl, he⟩ := pred_of hd
  rw [c_M_wrongAt, zw_id (x := -1000 * k) (by omega) (by omega), zw_id (by omega) (by omega)]
theorem t_takes {z : zZ} {d p n : Nat} {c : Int} {b : Row} {μ : Mu} (hd : 2 ≤ d) (h2 : μ 86 10 = (p : Int)) (h3 : μ 86 11 = (n : Int)) (hn : n ≤ 220) (hp : p ≤ 1000) (hb : tpe μ b) : mC z d 197 [(2, 86), (0, c)] μ = some (if tx b n p = c then (1, zup μ 86 10 ((p + 1 : Nat) : Int)) else (0, zup μ 86 12 (-1000 - (p : Int)))) := by
  obtain ⟨e, rfl, he⟩ := pred_of hd
  rw [c_M_takes, t_here he h2 h3 hn hb]
  simp only [ob]
  by_cases h : tx b n p = c
  · rw [cT h, if_pos h, h2, zwc (by omega)]
  · rw [cF h, if_neg h, h2, t_wrongAt he (by omega) (by omega)]
    simp only [ob]
    rw [g01_0]
    rfl
/-- k letters read into a row -/
def rdr (h : Row) (i : Nat) (b : Row) (p k : Nat) : Row := fun j => if i ≤ j ∧ j < i + k then b (p + (j - i)) - 97 else h j
theorem rdr_step (h : Row) (i : Nat) (b : Row) (p k : Nat) : rup (rdr h i b p k) (i + k) (b (p + k) - 97) = rdr h i b p (k + 1) := by
  funext j
  unfold rup rdr
  by_cases h1 : j = i + k
  · rw [if_pos h1, if_pos (by omega)]
    have : p + (j - i) = p + k := by omega
    rw [this]
  · rw [if_neg h1]
    by_cases h2 : i ≤ j ∧ j < i + k
    · rw [if_pos h2, if_pos (by omega)]
    · rw [if_neg h2, if_neg (by omega)]
theorem rdr_0 (h : Row) (i : Nat) (b : Row) (p : Nat) : rdr h i b p 0 = h := by
  funext j
  unfold rdr
  rw [if_neg (by omega)]
def rdw (μ : Mu) (a i : Nat) (b : Row) (p k : Nat) : Mu := zrow (zrow μ a (rdr (μ a) i b p k)) 86 (rup (rup (μ 86) 13 (k : Int)) 10 ((p + k : Nat) : Int))
theorem rup_comm {h : Row} {i j : Nat} {v w : Int} (hij : i ≠ j) : rup (rup h i v) j w = rup (rup h j w) i v := by
  funext q
  unfold rup
  by_cases h1 : q = i
  · by_cases h2 : q = j
    · omega
    · simp [h1, h2, hij]
  · by_cases h2 : q = j <;> simp [h1, h2, Ne.symm hij]
theorem rdw_step {μ : Mu} {a i p k : Nat} {b : Row} (ha : a ≠ 86) : zup (zup (zup (rdw μ a i b p k) a (i + k) (b (p + k) - 97)) 86 13 ((k + 1 : Nat) : Int)) 86 10 ((p + (k + 1) : Nat) : Int) = rdw μ a i b p (k + 1) := by
  unfold rdw
  simp only [zupr, zrow_same, zrow_zrow]
  rw [zrow_ne ha, zrow_same, rdr_step, zrow_comm (a := 86) (b := a) (by omega)]
  simp only [zrow_same, zrow_zrow]
  rw [rup_comm (i := 10) (j := 13) (by omega), rup_rup, rup_rup]
theorem rdw_0 {μ : Mu} {a i p : Nat} {b : Row} (h2 : μ 86 10 = (p : Int)) : rdw μ a i b p 0 = zup μ 86 13 0 := by
  unfold rdw
  rw [rdr_0, zrow_id, zupr, Nat.add_zero, ← h2]
  congr 1
  funext j
  unfold rup
  by_cases h : j = 10
  · subst h; simp
  · simp [h]
theorem rdw_10 {μ : Mu} {a i p k : Nat} {b : Row} : rdw μ a i b p k 86 10 = ((p + k : Nat) : Int) := by
  unfold rdw; rw [zrow_same, rup_same]
theorem rdw_13 {μ : Mu} {a i p k : Nat} {b : Row} : rdw μ a i b p k 86 13 = (k : Int) := by
  unfold rdw; rw [zrow_same, rup_ne (by omega), rup_same]
theorem rdw_86 {μ : Mu} {a i p k j : Nat} {b : Row} (h1 : j ≠ 10) (h2 : j ≠ 13) : rdw μ a i b p k 86 j = μ 86 j := by
  unfold rdw; rw [zrow_same, rup_ne h1, rup_ne h2]
theorem rdw_ne {μ : Mu} {a i p k c : Nat} {b : Row} (h1 : c ≠ 86) (h2 : c ≠ a) : rdw μ a i b p k c = μ c := by
  unfold rdw; rw [zrow_ne h1, zrow_ne h2]
theorem rdw_a {μ : Mu} {a i p k : Nat} {b : Row} (h1 : a ≠ 86) : rdw μ a i b p k a = rdr (μ a) i b p k := by
  unfold rdw; rw [zrow_ne h1, zrow_same]
theorem tpe_rdw {μ : Mu} {a i p k : Nat} {b b' : Row} (ha : a ≠ 93) (h : tpe μ b') : tpe (rdw μ a i b p k) b' := by
  refine ⟨h.1, fun j hj => ?_⟩
  rw [rdw_ne (by omega) (by omega)]
  exact h.2 j hj
theorem t_readsWord {z : zZ} {d p n a la i : Nat} {b : Row} {μ : Mu} (hd : 3 ≤ d) (h2 : μ 86 10 = (p : Int)) (h3 : μ 86 11 = (n : Int)) (hn : n ≤ 220) (hp : p ≤ n) (hb : tpe μ b) (ha : iar a la) (hi : i + 8 ≤ la) (hla : la ≤ 1000) (ha6 : a ≠ 86) (ha3 : a ≠ 93) : mC z d 195 [(2, 86), (2, (a : Int)), (0, (i : Int))] μ = some (if wln b n p = 0 then (0, zup (zup μ 86 13 0) 86 12 (-1000 - (p : Int))) else if wln b n p ≤ 8 then (1, rdw μ a i b p (wln b n p)) else (0, zup (rdw μ a i b p 8) 86 12 (-3000 - ((p + 8 : Nat) : Int)))) := by
  obtain ⟨e, rfl, he⟩ := pred_of hd
  have hall := wl9_all (isl b n) 9 p
  have hend := wl9_end (isl b n) 9 p
  have hle := wl9_le (isl b n) 9 p
  have hw : wl9 (isl b n) 9 p = wln b n p := rfl
  rw [hw] at hall hend hle
  have m2 : zup μ 86 13 0 86 10 = (p : Int) := by rw [zup_nk (by omega)]; exact h2
  have m3 : zup μ 86 13 0 86 11 = (n : Int) := by rw [zup_nk (by omega)]; exact h3
  have mb : tpe (zup μ 86 13 0) b := ⟨hb.1, fun k hk => by rw [zup_na (by omega)]; exact hb.2 k hk⟩
  rw [c_M_readsWord, t_isLetterHere he m2 m3 hn mb]
  simp only [ob, nB]
  by_cases h0 : wln b n p = 0
  · rw [if_pos h0]
    have hno : isl b n p = false := by have := hend (by omega); rwa [h0, Nat.add_zero] at this
    simp only [hno, cond_false]
    rw [m2, t_wrongAt (by omega) (by omega) (by omega)]
    simp only [ob]
    rw [g01_0]
    rfl
  · rw [if_neg h0]
    have hl0 := hall 0 (by omega)
    rw [Nat.add_zero] at hl0
    simp only [hl0, cond_true]
    rw [← rdw_0 (a := a) (i := i) (b := b) h2]
    have D := down (n := if wln b n p ≤ 8 then wln b n p else 8) (P := fun k => f_M_readsWord_22 z e (a : Int) (i : Int) (rdw μ a i b p k) = some (if wln b n p ≤ 8 then (1, rdw μ a i b p (wln b n p)) else (0, zup (rdw μ a i b p 8) 86 12 (-3000 - ((p + 8 : Nat) : Int)))))
      (by
        by_cases h8 : wln b n p ≤ 8
        · simp only [if_pos h8]
          have hno := hend (by omega)
          rw [e_M_readsWord_22, t_isLetterHere he rdw_10 (by rw [rdw_86 (by omega) (by omega)]; exact h3) hn (tpe_rdw ha3 hb), hno]
          simp only [ob, cB, cond_false]
        · simp only [if_neg h8]
          have hyes := hall 8 (by omega)
          rw [e_M_readsWord_22, t_isLetterHere he rdw_10 (by rw [rdw_86 (by omega) (by omega)]; exact h3) hn (tpe_rdw ha3 hb), hyes]
          simp only [ob, cB, cond_true]
          simp only [rdw_13, rdw_10]
          rw [nT (by omega), t_wrongAt (by omega) (by omega) (by omega)]
          simp only [ob]
          rw [g01_0]
          rfl)
      (by
        intro k hk ih
        have hk8 : k < 8 := by split at hk <;> omega
        have hkw : k < wln b n p := by split at hk <;> omega
        have hyes := hall k hkw
        have hbk := isl_b hyes
        have hlt := isl_lt hyes
        rw [e_M_readsWord_22, t_isLetterHere he rdw_10 (by rw [rdw_86 (by omega) (by omega)]; exact h3) hn (tpe_rdw ha3 hb), hyes]
        simp only [ob, cB, cond_true]
        simp only [rdw_13]
        rw [nF (by omega), t_here (by omega) rdw_10 (by rw [rdw_86 (by omega) (by omega)]; exact h3) hn (tpe_rdw ha3 hb), tx_in hlt]
        simp only [ob]
        rw [zwa (by omega), gAi ha (by omega)]
        simp only [Int.toNat_natCast]
        rw [zw_id (x := b (p + k) - 97) (by omega) (by omega), zup_na (a := a) (b := 86) (by omega), zup_na (a := a) (b := 86) (by omega), rdw_13, rdw_10, zwc (by omega), zwc (by omega), show p + k + 1 = p + (k + 1) by omega, rdw_step ha6]
        exact ih)
    exact D 0 (by omega)
