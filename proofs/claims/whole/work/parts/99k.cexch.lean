/-! exchanges: the class's count of them -/
def tlX (t s a b : Int) : Row := fun i => if i = 0 then t else if i = 1 then s else if i = 7 then a else if i = 9 then b else 0
theorem tlX_eq {h : Row} {t s a b : Int} : ∀ i, i < 10 → rup (rup (tel h t s) 7 a) 9 b i = tlX t s a b i := by
  intro i hi
  have : i = 0 ∨ i = 1 ∨ i = 2 ∨ i = 3 ∨ i = 4 ∨ i = 5 ∨ i = 6 ∨ i = 7 ∨ i = 8 ∨ i = 9 := by omega
  rcases this with h | h | h | h | h | h | h | h | h | h <;> subst h <;> rfl
theorem zd12 : ∀ i, i < 144 → z_div ((i : Nat) : Int) 12 = ((i / 12 : Nat) : Int) ∧ z_rem ((i : Nat) : Int) 12 = ((i % 12 : Nat) : Int) := by decide +kernel
noncomputable def bsv (μ : Mu) (N F : Nat → Nat) (val : Nat → Nat → Int) (t : Nat) (come gone : Int) : Int := (bsT (N t) (F t) (val t) (μ (4 + 9 * t + 4)) (6 - cnt (F t).testBit 12) (stq (μ (4 + 9 * t + 3)) come gone) (-1)).1
noncomputable def exG (μ : Mu) (N F : Nat → Nat) (val : Nat → Nat → Int) (cost : Int) (s a b : Nat) : Int := if (a ≠ b ∧ 0 < μ (4 + 9 * s + 3) a ∧ 0 < μ (4 + 9 * (1 - s) + 3) b) ∧ cost < bsv μ N F val s b a - bsv μ N F val s (-1) (-1) ∧ 0 < bsv μ N F val (1 - s) a b - bsv μ N F val (1 - s) (-1) (-1) then bsv μ N F val s b a - bsv μ N F val s (-1) (-1) + (bsv μ N F val (1 - s) a b - bsv μ N F val (1 - s) (-1) (-1)) else 0
theorem SDc_q {μ M : Mu} {s N f : Nat} {L : Nat → Nat} (h : QC μ M) (hs : s < 2) (hS : SDc μ s N f L) : SDc M s N f L := by
  have r : ∀ i, i ≤ 4 → M (4 + 9 * s + i) = μ (4 + 9 * s + i) := fun i hi => QC_lo h (Or.inl (by omega))
  have r0 : M (4 + 9 * s) = μ (4 + 9 * s) := QC_lo h (Or.inl (by omega))
  unfold SDc
  rw [r0, r 1 (by omega), r 2 (by omega), r 3 (by omega), r 4 (by omega)]
  exact hS
theorem XC_lfa {μ M M' : Mu} {N F : Nat → Nat} {val : Nat → Nat → Int} {wl : Nat} (hw : isLw wl) (hX : XC μ N F val M) (hf : lfa wl M M') : XC μ N F val M' := by
  refine ⟨QC_trans hX.1 (QC_lfa hw hf), fun t ht => CHP_congr (hX.2 t ht) ?_ (fun i h1 h2 => ?_)⟩
  · rw [hf.1 _ (by omega) (by rcases hw with h | h <;> omega) (by rcases hw with h | h <;> omega)]
  · exact hf.1 _ (by omega) (by rcases hw with h | h <;> omega) (by rcases hw with h | h <;> omega)
theorem lawC_q {μ M : Mu} {wl Nn : Nat} {lt : Nat → Int} {Dv Dc : Nat → Row → Option Int} (hw : isLw wl) (h : QC μ M) (hL : lawC wl μ Nn lt Dv Dc) : lawC wl M Nn lt Dv Dc := by
  have mw : ∀ k, k ≠ 7 → k ≠ 8 → M wl k = μ wl k := fun k h1 h2 => by
    rcases hw with e | e
    · subst e; exact (h.2 k h1 h2).1
    · subst e; exact (h.2 k h1 h2).2
  have ml : ∀ i, 1 ≤ i → i ≤ 4 → M (wl + i) = μ (wl + i) := fun i h1 h2 => h.1 _ (by rcases hw with e | e <;> omega) (by rcases hw with e | e <;> omega) (by rcases hw with e | e <;> omega) (by rcases hw with e | e <;> omega) (by rcases hw with e | e <;> omega) (Or.inr (by rcases hw with e | e <;> omega)) (Or.inl (by rcases hw with e | e <;> omega))
  exact lawC_congr hL (mw 3 (by omega) (by omega)) (mw 5 (by omega) (by omega)) (ml 1 (by omega) (by omega)) (ml 2 (by omega) (by omega)) (ml 3 (by omega) (by omega)) (ml 4 (by omega) (by omega))
theorem s_gain {z : zZ} {d wl s a b Nn : Nat} {lt : Nat → Int} {Dv Dc : Nat → Row → Option Int} {μ M : Mu} {N F : Nat → Nat} {val : Nat → Nat → Int} {L : Nat → Nat → Nat} (hd : 18 ≤ d) (hs : s < 2) (ha : a < 12) (hb : b < 12) (hw : isLw wl) (h6 : μ 0 6 = (wl : Int) + 1) (hL : lawC wl μ Nn lt Dv Dc) (hdv : dep10 Dv) (hdc : dep10 Dc) (hS : ∀ t, t < 2 → SDc μ t (N t) (F t) (L t)) (hv : ∀ t w, 0 ≤ val t w ∧ val t w ≤ 9999) (hX : XC μ N F val M) : ∃ M', mC z d 123 [(2, 0), (0, (s : Int)), (0, (a : Int)), (0, (b : Int)), (0, bsv μ N F val s (-1) (-1)), (0, bsv μ N F val (1 - s) (-1) (-1))] M = some (exG μ N F val (evl Nn lt Dv Dc (tlX (μ 0 18) (s : Int) (a : Int) (b : Int)) 119 999 Nn 0) s a b, M') ∧ XC μ N F val M' := by
  obtain ⟨e, rfl, he⟩ := pred_of (k := 17) hd
  have hs' : 1 - s < 2 := by omega
  have r3 : ∀ t, t < 2 → M (4 + 9 * t + 3) = μ (4 + 9 * t + 3) := fun t ht => QC_lo hX.1 (Or.inl (by omega))
  have hSM : ∀ t, t < 2 → SDc M t (N t) (F t) (L t) := fun t ht => SDc_q hX.1 ht (hS t ht)
  have hcost := evl_rg (N := Nn) (lt := lt) (Dv := Dv) (Dc := Dc) (tl := tlX (μ 0 18) (s : Int) (a : Int) (b : Int)) (c := 119) (hi := 999) (by omega) Nn 0
  have hg : ∀ t come gone, -1 ≤ bsv μ N F val t come gone ∧ bsv μ N F val t come gone ≤ 119988 := fun t come gone => bsT_rg (hv t)
  have hg1 := hg s (-1) (-1)
  have hg2 := hg (1 - s) (-1) (-1)
  have hg3 := hg s b a
  have hg4 := hg (1 - s) a b
  have hfl : ∀ t come gone fl, -1 ≤ fl → (bsT (N t) (F t) (val t) (μ (4 + 9 * t + 4)) (6 - cnt (F t).testBit 12) (stq (μ (4 + 9 * t + 3)) come gone) fl).1 = if bsv μ N F val t come gone < fl then fl else bsv μ N F val t come gone := fun t come gone fl h => bsT_fl h
  have hneed : ∀ t x y, t < 2 → y < 12 → x ≠ y → ned (F t) (μ (4 + 9 * t + 4)) y (N t) ≤ μ (4 + 9 * t + 3) y → bsv μ N F val t (y : Int) (x : Int) ≤ bsv μ N F val t (-1) (-1) := fun t x y ht hy hxy hn => bsT_need (hS t ht).2.2.2.2.2.1 (hS t ht).2.1 hy hxy hn
  generalize hcs : evl Nn lt Dv Dc (tlX (μ 0 18) (s : Int) (a : Int) (b : Int)) 119 999 Nn 0 = cost at hcost ⊢
  have hsw : ∀ t l : Nat, t < 2 → l < 12 → mC z e 125 [(2, 0), (0, (t : Int)), (0, (l : Int))] M = some (bi (decide (μ (4 + 9 * t + 3) l < ned (F t) (μ (4 + 9 * t + 4)) l (N t))), M) := fun t l ht hl => by
    have := s_wants (z := z) (d := e) (by omega) ht hl (hSM t ht)
    rw [r3 t ht, show M (4 + 9 * t + 4) = μ (4 + 9 * t + 4) from QC_lo hX.1 (Or.inl (by omega))] at this
    exact this
  rw [c_W_gainTogether, s_canExchange (by omega) hs ha hb, r3 s hs, r3 (1 - s) hs']
  simp -implicitDefEqProofs only [ob]
  rw [nB]
  by_cases hc : a ≠ b ∧ 0 < μ (4 + 9 * s + 3) a ∧ 0 < μ (4 + 9 * (1 - s) + 3) b
  · rw [decide_eq_true hc, cond_true, hsw s b hs hb]
    simp -implicitDefEqProofs only [ob]
    rw [cB]
    by_cases hw1 : μ (4 + 9 * s + 3) b < ned (F s) (μ (4 + 9 * s + 4)) b (N s)
    · rw [decide_eq_true hw1, cond_true, z1s hs, hsw (1 - s) a hs' ha]
      simp -implicitDefEqProofs only [ob]
      rw [nB]
      by_cases hw2 : μ (4 + 9 * (1 - s) + 3) a < ned (F (1 - s)) (μ (4 + 9 * (1 - s) + 4)) a (N (1 - s))
      · rw [decide_eq_true hw2, cond_true, e_W_gainTogether_34, s_tell (by omega)]
        simp -implicitDefEqProofs only [ob]
        have hwl : wl ≠ 53 ∧ 53 ≠ wl ∧ 53 ≠ wl + 5 := by rcases hw with h | h <;> omega
        have m0 : M 0 = μ 0 := QC_lo hX.1 (Or.inl (by omega))
        rw [e_W_gainTogether_39 _ _ _ _ _ _ _ _ wl hw (by rw [zrow_ne (by omega), m0]; exact h6), zupr, zupr, zrow_same, zrow_same, zrow_zrow, zrow_zrow, m0]
        have hT := tlX_eq (h := M 53) (t := μ 0 18) (s := (s : Int)) (a := (a : Int)) (b := (b : Int))
        generalize rup (rup (tel (M 53) (μ 0 18) (s : Int)) 7 (a : Int)) 9 (b : Int) = T at hT ⊢
        have hf0 : lfa wl M (zrow M 53 T) := ⟨fun x q1 _ _ => zrow_ne q1, fun k _ _ => by rw [zrow_ne hwl.1]⟩
        have hX0 := XC_lfa hw hX hf0
        obtain ⟨M1, r1, f1⟩ := s_ask (z := z) (d := e) (c := 119) (by omega) hw (lawC_q hw hX0.1 hL)
        have hX1 : XC μ N F val M1 := XC_lfa hw hX0 ⟨fun x _ q2 q3 => f1.1 x q2 q3, f1.2⟩
        rw [zrow_same, evl_congr hdv hdc hT, show moC 119 = 999 from rfl, hcs] at r1
        obtain ⟨M2, n1, hX2⟩ := XC_search (z := z) (d := e) (t := s) (come := (b : Int)) (gone := (a : Int)) (fl := bsv μ N F val s (-1) (-1) + cost) (by omega) hs (hS s hs) (hv s) hX1
        obtain ⟨M3, n3, hX3⟩ := XC_search (z := z) (d := e) (t := 1 - s) (come := (a : Int)) (gone := (b : Int)) (fl := bsv μ N F val (1 - s) (-1) (-1)) (by omega) hs' (hS (1 - s) hs') (hv (1 - s)) hX2
        rw [hfl _ _ _ _ (by omega)] at n1 n3
        rw [r1]
        simp -implicitDefEqProofs only [ob]
        rw [zw_id (x := bsv μ N F val s (-1) (-1) + cost) (by omega) (by omega), n1]
        simp -implicitDefEqProofs only [ob]
        unfold exG
        generalize bsv μ N F val s (-1) (-1) = b1 at *
        generalize bsv μ N F val (1 - s) (-1) (-1) = b2 at *
        generalize bsv μ N F val s b a = b3 at *
        generalize bsv μ N F val (1 - s) a b = b4 at *
        by_cases k1 : b1 + cost < b3
        · rw [if_neg (show ¬ b3 < b1 + cost by omega), cT k1, e_W_gainTogether_93, z1s hs, n3]
          simp -implicitDefEqProofs only [ob]
          by_cases k2 : b2 < b4
          · rw [if_neg (show ¬ b4 < b2 by omega), cT k2, if_pos ⟨hc, by omega, by omega⟩, zw_id (x := b3 - b1) (by omega) (by omega), zw_id (x := b3 - b1 + b4) (by omega) (by omega), zw_id (by omega) (by omega)]
            exact ⟨M3, by rw [show b3 - b1 + b4 - b2 = b3 - b1 + (b4 - b2) by omega], hX3⟩
          · rw [cF (by split <;> omega), if_neg (by omega)]
            exact ⟨M3, rfl, hX3⟩
        · rw [cF (by split <;> omega), if_neg (by omega)]
          exact ⟨M2, rfl, hX2⟩
      · have := hneed (1 - s) b a hs' ha (fun h => hc.1 h.symm) (by omega)
        rw [decide_eq_false hw2, cond_false, e_W_gainTogether_32]
        refine ⟨M, ?_, hX⟩
        unfold exG
        rw [if_neg (by omega)]
    · have := hneed s a b hs hb hc.1 (by omega)
      rw [decide_eq_false hw1, cond_false, e_W_gainTogether_32]
      refine ⟨M, ?_, hX⟩
      unfold exG
      rw [if_neg (by omega)]
  · rw [decide_eq_false hc, cond_false]
    refine ⟨M, ?_, hX⟩
    unfold exG
    rw [if_neg (fun h => hc h.1)]
/-- the pairs in rising order -/
def exL (g : Nat → Int) : Nat → Int × Int × Int
  | 0 => (0, -2, 0)
  | i + 1 => if 0 < g i then ((exL g i).1 + 1, if (exL g i).2.1 < g i then (g i, (i : Int)) else (exL g i).2) else exL g i
theorem exL_rg (g : Nat → Int) : ∀ i, 0 ≤ (exL g i).1 ∧ (exL g i).1 ≤ i ∧ (0 ≤ (exL g i).2.2 ∧ (exL g i).2.2 < 144 + i) ∧ ((exL g i).1 = 0 → (exL g i).2 = (-2, 0)) ∧ ((exL g i).1 ≠ 0 → 0 < (exL g i).2.1) := by
  intro i
  induction i with
  | zero => exact ⟨Int.le_refl _, Int.le_refl _, ⟨Int.le_refl _, by show (0 : Int) < 144 + 0; omega⟩, fun _ => rfl, fun h => absurd rfl h⟩
  | succ i ih =>
    obtain ⟨h1, h2, h3, h4, h5⟩ := ih
    unfold exL
    by_cases h : 0 < g i
    · rw [if_pos h]
      by_cases k : (exL g i).2.1 < g i
      · rw [if_pos k]
        exact ⟨by dsimp only; omega, by dsimp only; omega, ⟨by dsimp only; omega, by dsimp only; omega⟩, fun q => by dsimp only at q; omega, fun _ => h⟩
      · rw [if_neg k]
        exact ⟨by dsimp only; omega, by dsimp only; omega, ⟨h3.1, by dsimp only; omega⟩, fun q => by dsimp only at q; omega, fun _ => by dsimp only; omega⟩
    · rw [if_neg h]
      exact ⟨h1, by omega, ⟨h3.1, by omega⟩, h4, h5⟩
def exV (v : Int) (p : Int × Int × Int) : Int := if v = 0 then p.1 else if v = 1 then (if p.1 = 0 then -2 else z_div p.2.2 12) else if v = 2 then (if p.1 = 0 then -2 else z_rem p.2.2 12) else p.2.1
theorem s_exloop {z : zZ} {e wl s Nn : Nat} {v : Int} {lt : Nat → Int} {Dv Dc : Nat → Row → Option Int} {μ : Mu} {N F : Nat → Nat} {val : Nat → Nat → Int} {L : Nat → Nat → Nat} {g : Nat → Int} (he : 18 ≤ e) (hs : s < 2) (hw : isLw wl) (h6 : μ 0 6 = (wl : Int) + 1) (hL : lawC wl μ Nn lt Dv Dc) (hdv : dep10 Dv) (hdc : dep10 Dc) (hS : ∀ t, t < 2 → SDc μ t (N t) (F t) (L t)) (hv : ∀ t w, 0 ≤ val t w ∧ val t w ≤ 9999) (hgd : ∀ i, i < 144 → g i = exG μ N F val (evl Nn lt Dv Dc (tlX (μ 0 18) (s : Int) ((i / 12 : Nat) : Int) ((i % 12 : Nat) : Int)) 119 999 Nn 0) s (i / 12) (i % 12)) : ∀ (j i : Nat) (M : Mu), j + i = 144 → XC μ N F val M → ∃ R, f_W_exchange_62 z e (s : Int) v (bsv μ N F val s (-1) (-1)) (bsv μ N F val (1 - s) (-1) (-1)) (exL g i).1 (exL g i).2.1 (exL g i).2.2 (i : Int) M = some (exV v (exL g 144), R) ∧ XC μ N F val R := by
  intro j
  induction j with
  | zero =>
    intro i M hj hX
    have : i = 144 := by omega
    subst this
    refine ⟨M, ?_, hX⟩
    rw [e_W_exchange_62, cT (by omega)]
    unfold exV
    by_cases h0 : v = 0
    · rw [cT h0, if_pos h0, e_W_exchange_152]
    · rw [cF h0, if_neg h0]
      by_cases h1 : v = 1
      · rw [cT h1, if_pos h1, e_W_exchange_155]
        by_cases k : (exL g 144).1 = 0
        · rw [nT k, if_pos k, e_W_exchange_170]
        · rw [nF k, if_neg k, e_W_exchange_170]
      · rw [cF h1, if_neg h1]
        by_cases h2 : v = 2
        · rw [cT h2, if_pos h2, e_W_exchange_171]
          by_cases k : (exL g 144).1 = 0
          · rw [nT k, if_pos k, e_W_exchange_186]
          · rw [nF k, if_neg k, e_W_exchange_186]
        · rw [cF h2, if_neg h2, e_W_exchange_187]
  | succ j ih =>
    intro i M hj hX
    have hi : i < 144 := by omega
    obtain ⟨R, r1, hR⟩ := s_gain (z := z) (d := e) he hs (show i / 12 < 12 by omega) (show i % 12 < 12 by omega) hw h6 hL hdv hdc hS hv hX
    rw [← hgd i hi] at r1
    obtain ⟨k1, k2, k3, k4, k5⟩ := exL_rg g i
    have hnext := ih (i + 1) R (by omega) hR
    have hex : exL g (i + 1) = if 0 < g i then ((exL g i).1 + 1, if (exL g i).2.1 < g i then (g i, (i : Int)) else (exL g i).2) else exL g i := rfl
    rw [hex] at hnext
    rw [e_W_exchange_62, cF (by omega), (zd12 i hi).1, (zd12 i hi).2, r1]
    simp -implicitDefEqProofs only [ob]
    by_cases h : 0 < g i
    · rw [if_pos h] at hnext
      rw [cF (by omega), e_W_exchange_98, cF (by omega), zw_id (x := (exL g i).1 + 1) (by omega) (by omega)]
      by_cases k : (exL g i).2.1 < g i
      · rw [if_pos k] at hnext
        rw [cF (by omega), e_W_exchange_118, zwc (by omega)]
        exact hnext
      · rw [if_neg k] at hnext
        rw [cT (by omega), e_W_exchange_118, zwc (by omega)]
        exact hnext
    · rw [if_neg h] at hnext
      rw [cT (by omega), e_W_exchange_98, cT (by omega), e_W_exchange_118, zwc (by omega)]
      exact hnext
