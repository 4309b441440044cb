/-! peace: the reference's row, and both -/
theorem pc_at {a b : Nat → Int} {r : Row} {m n i j : Nat} (h : i < m ∨ j < n) : (if i < m ∧ a i = pcL a b r m n i j then i + 1 else i) = pcI a b r m n i j ∧ (if j < n ∧ b j = pcL a b r m n i j then j + 1 else j) = pcJ a b r m n i j ∧ pcI a b r m n i j + pcJ a b r m n i j ≠ i + j := by
  unfold pcI pcJ pcL
  cases hE : pcE a b m n i j with
  | true =>
    unfold pcE at hE
    simp only [Bool.and_eq_true, decide_eq_true_eq] at hE
    obtain ⟨h1, h2, h3⟩ := hE
    rw [Bool.true_or, Bool.true_or, if_pos rfl, if_pos rfl, if_pos rfl, if_pos ⟨h1, rfl⟩, if_pos ⟨h2, h3.symm⟩]
    exact ⟨rfl, rfl, by omega⟩
  | false =>
    rw [Bool.false_or, Bool.false_or]
    cases hF : pcF a b r m n i j with
    | true =>
      have h1 : i < m := by
        unfold pcF at hF
        rw [Bool.and_eq_true, decide_eq_true_eq] at hF
        exact hF.1
      have h2 : ¬ (j < n ∧ b j = a i) := by
        intro q
        have : pcE a b m n i j = true := by unfold pcE; simp [h1, q.1, q.2]
        rw [hE] at this
        exact absurd this (by decide)
      rw [if_pos rfl, if_neg (by decide), if_pos rfl, if_pos ⟨h1, rfl⟩, if_neg h2]
      exact ⟨rfl, rfl, by omega⟩
    | false =>
      have h2 : j < n := by
        by_cases h1 : i < m
        · by_cases h3 : n ≤ j
          · have : pcF a b r m n i j = true := by unfold pcF; simp [h1, h3]
            rw [hF] at this
            exact absurd this (by decide)
          · omega
        · omega
      have h1 : ¬ (i < m ∧ a i = b j) := by
        intro q
        have : pcE a b m n i j = true := by unfold pcE; simp [q.1, q.2, h2]
        rw [hE] at this
        exact absurd this (by decide)
      rw [if_neg (by decide), if_pos (by rfl), if_neg (by decide), if_neg h1, if_pos ⟨h2, rfl⟩]
      exact ⟨rfl, rfl, by omega⟩
theorem pc_not {a b : Nat → Int} {r : Row} {m n i j : Nat} {x : Int} (hx : r x.toNat < r (pcL a b r m n i j).toNat) : (if i < m ∧ a i = x then i + 1 else i) + (if j < n ∧ b j = x then j + 1 else j) = i + j ∨ scs a b m n (m - (if i < m ∧ a i = x then i + 1 else i)) (n - (if j < n ∧ b j = x then j + 1 else j)) ≠ scs a b m n (m - i) (n - j) - 1 := by
  have hne : ∀ y, y = pcL a b r m n i j → x ≠ y := fun y hy q => by
    rw [← hy, ← q] at hx
    omega
  unfold pcL at hx hne
  by_cases h1 : i < m ∧ a i = x
  · by_cases h2 : j < n ∧ b j = x
    · exfalso
      have hE : pcE a b m n i j = true := by unfold pcE; simp [h1.1, h2.1, h1.2, h2.2]
      rw [hE, Bool.true_or, if_pos rfl] at hne
      exact hne _ rfl h1.2.symm
    · rw [if_pos h1, if_neg h2]
      right
      by_cases h3 : j < n
      · have hab : ¬ a i = b j := fun q => h2 ⟨h3, by rw [← q]; exact h1.2⟩
        have hE : pcE a b m n i j = false := by unfold pcE; simp [hab]
        rw [hE, Bool.false_or] at hne hx
        cases hF : pcF a b r m n i j with
        | true => rw [hF, if_pos rfl] at hne; exact absurd h1.2.symm (hne _ rfl)
        | false =>
          rw [hF, if_neg (by decide)] at hx
          unfold pcF at hF
          have hn : decide (n ≤ j) = false := decide_eq_false (by omega)
          rw [decide_eq_true h1.1, hn, Bool.true_and, Bool.false_or, Bool.or_eq_false_iff, decide_eq_false_iff_not] at hF
          rw [scs_step h1.1 h3, if_neg hab]
          by_cases c1 : scs a b m n (m - (i + 1)) (n - j) = scs a b m n (m - i) (n - (j + 1))
          · have hF2 := hF.2
            rw [decide_eq_true c1, Bool.true_and, decide_eq_false_iff_not, h1.2] at hF2
            exact absurd hx hF2
          · rw [if_pos (by omega)]
            omega
      · exfalso
        have hF : pcF a b r m n i j = true := by unfold pcF; simp [h1.1]; left; omega
        rw [hF, Bool.or_true, if_pos rfl] at hne
        exact hne _ rfl h1.2.symm
  · rw [if_neg h1]
    by_cases h2 : j < n ∧ b j = x
    · rw [if_pos h2]
      right
      by_cases h3 : i < m
      · have hab : ¬ a i = b j := fun q => h1 ⟨h3, by rw [q]; exact h2.2⟩
        have hE : pcE a b m n i j = false := by unfold pcE; simp [hab]
        rw [hE, Bool.false_or] at hne hx
        cases hF : pcF a b r m n i j with
        | false => rw [hF, if_neg (by decide)] at hne; exact absurd h2.2.symm (hne _ rfl)
        | true =>
          rw [hF, if_pos rfl] at hx
          unfold pcF at hF
          have hn : decide (n ≤ j) = false := decide_eq_false (by omega)
          rw [decide_eq_true h3, hn, Bool.true_and, Bool.false_or, Bool.or_eq_true, decide_eq_true_eq, Bool.and_eq_true, decide_eq_true_eq, decide_eq_true_eq] at hF
          rw [scs_step h3 h2.1, if_neg hab]
          rcases hF with hF | hF
          · rw [if_neg (by omega)]
            omega
          · rw [h2.2] at hF
            omega
      · exfalso
        have hE : pcE a b m n i j = false := by unfold pcE; simp [h3]
        have hF : pcF a b r m n i j = false := by unfold pcF; simp [h3]
        rw [hE, hF, Bool.or_false, if_neg (by decide)] at hne
        exact hne _ rfl h2.2.symm
    · rw [if_neg h2]
      left
      rfl
theorem zs9 {i j : Nat} (hi : i < 20) (hj : j < 20) : zw (zw (9 * (i : Int)) + (j : Int)) = ((9 * i + j : Nat) : Int) := zy9 hi hj
/-- one letter is tried: the reference -/
theorem t_pq {z : zZ} {e w v i j k q N0 N1 : Nat} {many : Int} {W0 W1 : Row} {L0 L1 : Nat → Nat} {P : Mu} (he : 1 ≤ e) (hx : lexR P 0 N0 W0 L0) (hx' : lexR P 1 N1 W1 L1) (hw : w < N0) (hv : v < N1) (hi : i ≤ L0 w) (hj : j ≤ L1 v) (hq : q < 12) (hk : k < 16) (hm0 : 0 ≤ many) (hm1 : many ≤ 16) (i' j' : Nat) (hi' : i' = if i < L0 w ∧ letc (W0 w) (i : Int) = P 88 q then i + 1 else i) (hj' : j' = if j < L1 v ∧ letc (W1 v) (j : Int) = P 88 q then j + 1 else j) : f_M_laysPeace_48 z e (w : Int) (v : Int) (L0 w : Int) (L1 v : Int) (i : Int) (j : Int) many (k : Int) (q : Int) P = if i' + j' = i + j ∨ P 126 (9 * i' + j') ≠ many - (k : Int) - 1 then f_M_laysPeace_48 z e (w : Int) (v : Int) (L0 w : Int) (L1 v : Int) (i : Int) (j : Int) many (k : Int) ((q + 1 : Nat) : Int) P else f_M_laysPeace_38 z e (w : Int) (v : Int) (L0 w : Int) (L1 v : Int) (i' : Int) (j' : Int) many ((k + 1 : Nat) : Int) (zup P 127 k (P 88 q)) := by
  obtain ⟨x1, x2, x3⟩ := hx.2.2 w hw
  obtain ⟨y1, y2, y3⟩ := hx'.2.2 v hv
  have m8 := x3.1.2.1
  have n8 := y3.1.2.1
  have N0b := hx.2.1
  have N1b := hx'.2.1
  have h130 : ∀ (b : Nat) (i1 : Nat), b ≤ 1 → i1 ≤ L0 w → j + b ≤ L1 v → f_M_laysPeace_130 z e (w : Int) (v : Int) (L0 w : Int) (L1 v : Int) (i : Int) (j : Int) many (k : Int) (q : Int) (P 88 q) (i1 : Int) (j : Int) (b : Int) P = if i1 + (j + b) = i + j ∨ P 126 (9 * i1 + (j + b)) ≠ many - (k : Int) - 1 then f_M_laysPeace_48 z e (w : Int) (v : Int) (L0 w : Int) (L1 v : Int) (i : Int) (j : Int) many (k : Int) ((q + 1 : Nat) : Int) P else f_M_laysPeace_38 z e (w : Int) (v : Int) (L0 w : Int) (L1 v : Int) (i1 : Int) ((j + b : Nat) : Int) many ((k + 1 : Nat) : Int) (zup P 127 k (P 88 q)) := by
    intro b i1 hb hi1 hjb
    have hsum : zw ((j : Int) + (b : Int)) = ((j + b : Nat) : Int) := zwa (by omega)
    have h192 : f_M_laysPeace_192 z e (w : Int) (v : Int) (L0 w : Int) (L1 v : Int) (i : Int) (j : Int) many (k : Int) (q : Int) P = f_M_laysPeace_48 z e (w : Int) (v : Int) (L0 w : Int) (L1 v : Int) (i : Int) (j : Int) many (k : Int) ((q + 1 : Nat) : Int) P := by rw [e_M_laysPeace_192, zwc (by omega)]
    rw [e_M_laysPeace_130, hsum, zwa (i := i1) (k := j + b) (by omega), zwa (i := i) (k := j) (by omega)]
    by_cases c1 : i1 + (j + b) = i + j
    · rw [cT (by omega), if_pos (Or.inl c1), h192]
    · rw [cF (by omega), zs9 (by omega) (by omega), gI_ok (by omega) (by omega), Int.toNat_natCast, zw_id (x := many - (k : Int)) (by omega) (by omega), zw_id (x := many - (k : Int) - 1) (by omega) (by omega)]
      by_cases c2 : P 126 (9 * i1 + (j + b)) = many - (k : Int) - 1
      · rw [cT c2, if_neg (fun q => q.elim c1 (fun q => q c2)), e_M_laysPeace_172, gI_ok (by omega) (by omega), Int.toNat_natCast, e_M_laysPeace_198, zwc (by omega)]
      · rw [cF c2, if_pos (Or.inr c2), h192]
  have h95 : ∀ (a1 : Nat), a1 ≤ 1 → i + a1 ≤ L0 w → f_M_laysPeace_95 z e (w : Int) (v : Int) (L0 w : Int) (L1 v : Int) (i : Int) (j : Int) many (k : Int) (q : Int) (P 88 q) (i : Int) (a1 : Int) P = if (i + a1) + j' = i + j ∨ P 126 (9 * (i + a1) + j') ≠ many - (k : Int) - 1 then f_M_laysPeace_48 z e (w : Int) (v : Int) (L0 w : Int) (L1 v : Int) (i : Int) (j : Int) many (k : Int) ((q + 1 : Nat) : Int) P else f_M_laysPeace_38 z e (w : Int) (v : Int) (L0 w : Int) (L1 v : Int) ((i + a1 : Nat) : Int) (j' : Int) many ((k + 1 : Nat) : Int) (zup P 127 k (P 88 q)) := by
    intro a1 ha1 hia
    have hsum : zw ((i : Int) + (a1 : Int)) = ((i + a1 : Nat) : Int) := zwa (by omega)
    rw [e_M_laysPeace_95, hsum]
    by_cases c1 : j < L1 v
    · have hb := t_beginOf (z := z) (d := e) (s := 1) (w := v) (μ := P) he (by omega) (by omega)
      have hrd := y3.2 j c1
      have hl : letc (W1 v) (j : Int) = (nib (W1 v) j : Int) - 1 := letc_nat (by omega)
      rw [show ((1 : Nat) : Int) = 1 from rfl] at hb
      rw [cF (by omega), hb]
      simp -implicitDefEqProofs only [ob]
      rw [zwa (by omega), gI_ok (by omega) (by omega), Int.toNat_natCast, hrd, ← hl]
      by_cases c2 : letc (W1 v) (j : Int) = P 88 q
      · rw [if_pos ⟨c1, c2⟩] at hj'
        have := h130 1 (i + a1) (by omega) hia (by omega)
        rw [show ((1 : Nat) : Int) = 1 from rfl] at this
        rw [nT c2, this, hj']
      · rw [if_neg (fun q => c2 q.2)] at hj'
        have := h130 0 (i + a1) (by omega) hia (by omega)
        rw [show ((0 : Nat) : Int) = 0 from rfl, Nat.add_zero] at this
        rw [nF c2, e_M_laysPeace_129, this, hj']
    · rw [if_neg (fun q => c1 q.1)] at hj'
      have := h130 0 (i + a1) (by omega) hia (by omega)
      rw [show ((0 : Nat) : Int) = 0 from rfl, Nat.add_zero] at this
      rw [cT (by omega), e_M_laysPeace_129, this, hj']
  rw [e_M_laysPeace_48, cF (by omega), gI_ok (by omega) (by omega), Int.toNat_natCast]
  by_cases c1 : i < L0 w
  · have hb := t_beginOf (z := z) (d := e) (s := 0) (w := w) (μ := P) he (by omega) (by omega)
    have hrd := x3.2 i c1
    have hl : letc (W0 w) (i : Int) = (nib (W0 w) i : Int) - 1 := letc_nat (by omega)
    rw [show ((0 : Nat) : Int) = 0 from rfl] at hb
    rw [cF (by omega), hb]
    simp -implicitDefEqProofs only [ob]
    rw [zwa (by omega), gI_ok (by omega) (by omega), Int.toNat_natCast, hrd, ← hl]
    by_cases c2 : letc (W0 w) (i : Int) = P 88 q
    · rw [if_pos ⟨c1, c2⟩] at hi'
      have := h95 1 (by omega) (by omega)
      rw [show ((1 : Nat) : Int) = 1 from rfl] at this
      rw [nT c2, this, hi']
    · rw [if_neg (fun q => c2 q.2)] at hi'
      have := h95 0 (by omega) (by omega)
      rw [show ((0 : Nat) : Int) = 0 from rfl, Nat.add_zero] at this
      rw [nF c2, e_M_laysPeace_94, this, hi']
  · rw [if_neg (fun q => c1 q.1)] at hi'
    have := h95 0 (by omega) (by omega)
    rw [show ((0 : Nat) : Int) = 0 from rfl, Nat.add_zero] at this
    rw [cT (by omega), e_M_laysPeace_94, this, hi']
/-- one letter more: the reference -/
theorem t_mkstep {z : zZ} {e w v i j k N0 N1 : Nat} {many : Int} {W0 W1 r1 r2 : Row} {L0 L1 : Nat → Nat} {P : Mu} (he : 1 ≤ e) (hx : lexR P 0 N0 W0 L0) (hx' : lexR P 1 N1 W1 L1) (hw : w < N0) (hv : v < N1) (hi : i ≤ L0 w) (hj : j ≤ L1 v) (h : i < L0 w ∨ j < L1 v) (hk : k < 16) (hm1 : many ≤ 16) (hT : TBL (fun k => letc (W0 w) (k : Int)) (fun k => letc (W1 v) (k : Int)) (L0 w) (L1 v) (P 126)) (hmany : many = (k : Int) + scs (fun k => letc (W0 w) (k : Int)) (fun k => letc (W1 v) (k : Int)) (L0 w) (L1 v) (L0 w - i) (L1 v - j)) (h88 : ∀ q, q < 12 → P 88 q = r1 q) (hr1 : rkr r1) (hr2 : rkr r2) (h12 : ∀ q, q < 12 → r2 (r1 q).toNat = (q : Int)) (h21 : ∀ x, x < 12 → r1 (r2 x).toNat = (x : Int)) : f_M_laysPeace_38 z e (w : Int) (v : Int) (L0 w : Int) (L1 v : Int) (i : Int) (j : Int) many (k : Int) P = f_M_laysPeace_38 z e (w : Int) (v : Int) (L0 w : Int) (L1 v : Int) ((pcI (fun k => letc (W0 w) (k : Int)) (fun k => letc (W1 v) (k : Int)) r2 (L0 w) (L1 v) i j : Nat) : Int) ((pcJ (fun k => letc (W0 w) (k : Int)) (fun k => letc (W1 v) (k : Int)) r2 (L0 w) (L1 v) i j : Nat) : Int) many ((k + 1 : Nat) : Int) (zup P 127 k (pcL (fun k => letc (W0 w) (k : Int)) (fun k => letc (W1 v) (k : Int)) r2 (L0 w) (L1 v) i j)) := by
  obtain ⟨x1, x2, x3⟩ := hx.2.2 w hw
  obtain ⟨y1, y2, y3⟩ := hx'.2.2 v hv
  have m8 := x3.1.2.1
  have n8 := y3.1.2.1
  have lr : ∀ {x : Int} {t : Nat}, isW x t → ∀ q, q < t → 0 ≤ letc x (q : Int) ∧ letc x (q : Int) < 12 := fun {x t} hx q hq => by
    have h1 := hx.2.2.1 q hq
    have h2 := hx.2.1
    rw [letc_nat (by omega)]
    omega
  have hp1 := pc_le (a := fun k => letc (W0 w) (k : Int)) (b := fun k => letc (W1 v) (k : Int)) (r := r2) hi hj h
  have hp2 := pc_at (a := fun k => letc (W0 w) (k : Int)) (b := fun k => letc (W1 v) (k : Int)) (r := r2) h
  have hp3 := fun x => pc_not (a := fun k => letc (W0 w) (k : Int)) (b := fun k => letc (W1 v) (k : Int)) (r := r2) (m := L0 w) (n := L1 v) (i := i) (j := j) (x := x)
  have hl : 0 ≤ pcL (fun k => letc (W0 w) (k : Int)) (fun k => letc (W1 v) (k : Int)) r2 (L0 w) (L1 v) i j ∧ pcL (fun k => letc (W0 w) (k : Int)) (fun k => letc (W1 v) (k : Int)) r2 (L0 w) (L1 v) i j < 12 := by
    have hp := hp2
    unfold pcL
    split
    · rename_i hc
      refine lr x3.1 i ?_
      cases hE : pcE (fun k => letc (W0 w) (k : Int)) (fun k => letc (W1 v) (k : Int)) (L0 w) (L1 v) i j with
      | true =>
        unfold pcE at hE
        rw [Bool.and_eq_true, decide_eq_true_eq] at hE
        exact hE.1
      | false =>
        rw [hE, Bool.false_or] at hc
        unfold pcF at hc
        rw [Bool.and_eq_true, decide_eq_true_eq] at hc
        exact hc.1
    · rename_i hc
      refine lr y3.1 j ?_
      by_cases h2 : j < L1 v
      · exact h2
      · exfalso
        apply hc
        have h1 : i < L0 w := by omega
        have : pcF (fun k => letc (W0 w) (k : Int)) (fun k => letc (W1 v) (k : Int)) r2 (L0 w) (L1 v) i j = true := by
          unfold pcF
          have h3 : decide (L1 v ≤ j) = true := decide_eq_true (by omega)
          rw [decide_eq_true h1, h3, Bool.true_or]; rfl
        rw [this, Bool.or_true]
  have hs0 := (scs_rg (fun k => letc (W0 w) (k : Int)) (fun k => letc (W1 v) (k : Int)) (L0 w) (L1 v) (L0 w - i) (L1 v - j)).1
  have hS := hp1.2.2
  generalize hI : pcI (fun k => letc (W0 w) (k : Int)) (fun k => letc (W1 v) (k : Int)) r2 (L0 w) (L1 v) i j = I at *
  generalize hJ : pcJ (fun k => letc (W0 w) (k : Int)) (fun k => letc (W1 v) (k : Int)) r2 (L0 w) (L1 v) i j = J at *
  generalize hLl : pcL (fun k => letc (W0 w) (k : Int)) (fun k => letc (W1 v) (k : Int)) r2 (L0 w) (L1 v) i j = Lt at *
  have hs1 := (scs_rg (fun k => letc (W0 w) (k : Int)) (fun k => letc (W1 v) (k : Int)) (L0 w) (L1 v) (L0 w - I) (L1 v - J)).1
  have hq0 := hr2 Lt.toNat
  have hq1 := h21 Lt.toNat (by omega)
  rw [e_M_laysPeace_38, cF (by omega)]
  have key := down (n := (r2 Lt.toNat).toNat) (P := fun q => f_M_laysPeace_48 z e (w : Int) (v : Int) (L0 w : Int) (L1 v : Int) (i : Int) (j : Int) many (k : Int) (q : Int) P = f_M_laysPeace_38 z e (w : Int) (v : Int) (L0 w : Int) (L1 v : Int) (I : Int) (J : Int) many ((k + 1 : Nat) : Int) (zup P 127 k Lt))
    (by
      have e1 : P 88 (r2 Lt.toNat).toNat = Lt := by rw [h88 _ (by omega), hq1]; omega
      rw [t_pq (q := (r2 Lt.toNat).toNat) he hx hx' hw hv hi hj (by omega) hk (by omega) hm1 I J (by rw [e1]; exact hp2.1.symm) (by rw [e1]; exact hp2.2.1.symm), e1, if_neg]
      rintro (q | q)
      · exact hp2.2.2 q
      · apply q
        rw [hT I J hp1.1 hp1.2.1, hmany, hS]
        omega)
    (by
      intro q hq ih
      have hr := hr1 q
      have hlt : r2 (P 88 q).toNat < r2 Lt.toNat := by
        rw [h88 q (by omega), h12 q (by omega)]
        omega
      have hn := hp3 (P 88 q) hlt
      rw [t_pq (q := q) he hx hx' hw hv hi hj (by omega) hk (by omega) hm1 _ _ rfl rfl, if_pos]
      · exact ih
      · rcases hn with hn | hn
        · left; exact hn
        · right
          intro q2
          apply hn
          rw [hT _ _ (by split <;> omega) (by split <;> omega)] at q2
          rw [hmany] at q2
          omega)
  exact key 0 (by omega)
