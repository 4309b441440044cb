/-! what a word is worth, letters packed, words offered -/
def wrt (Nn : Nat) (lt : Nat → Int) (Dv Dc : Nat → Row → Option Int) (t s : Int) (r : Row) (c : Int) (n : Nat) : Int := evl Nn lt Dv Dc (tlR t s (n : Int) (sm (strS c r) 8) 0 0 0) 118 9999 Nn 0
theorem wrt_rg {Nn : Nat} {lt : Nat → Int} {Dv Dc : Nat → Row → Option Int} {t s : Int} {r : Row} {c : Int} {n : Nat} : 0 ≤ wrt Nn lt Dv Dc t s r c n ∧ wrt Nn lt Dv Dc t s r c n ≤ 9999 := evl_rg (by omega) Nn 0
theorem tlW_eq {h : Row} {t s nl sl : Int} : ∀ i, i < 10 → rup (rup (tel h t s) 2 nl) 3 sl i = tlR t s nl sl 0 0 0 i := by
  intro i hi
  have : i = 0 ∨ i = 1 ∨ i = 2 ∨ i = 3 ∨ i = 4 ∨ i = 5 ∨ i = 6 ∨ i = 7 ∨ i = 8 ∨ i = 9 := by omega
  rcases this with h | h | h | h | h | h | h | h | h | h <;> subst h <;> rfl
def lfa (wl : Nat) (μ M : Mu) : Prop := (∀ a, a ≠ 53 → a ≠ wl → a ≠ wl + 5 → M a = μ a) ∧ ∀ k, k ≠ 7 → k ≠ 8 → M wl k = μ wl k
theorem lfa_refl (wl : Nat) (μ : Mu) : lfa wl μ μ := ⟨fun _ _ _ _ => rfl, fun _ _ _ => rfl⟩
theorem lfa_trans {wl : Nat} {A B C : Mu} (h1 : lfa wl A B) (h2 : lfa wl B C) : lfa wl A C := ⟨fun a q1 q2 q3 => by rw [h2.1 a q1 q2 q3, h1.1 a q1 q2 q3], fun k q1 q2 => by rw [h2.2 k q1 q2, h1.2 k q1 q2]⟩
theorem lawC_lfa {w N : Nat} {μ M : Mu} {lt : Nat → Int} {Dv Dc : Nat → Row → Option Int} (hw : isLw w) (h : lawC w μ N lt Dv Dc) (hf : lfa w μ M) : lawC w M N lt Dv Dc := by
  have wi : ∀ i, 1 ≤ i → i ≤ 4 → w + i ≠ 53 ∧ w + i ≠ w ∧ w + i ≠ w + 5 := by intro i h1 h4; rcases hw with h | h <;> omega
  exact lawC_congr h (hf.2 3 (by omega) (by omega)) (hf.2 5 (by omega) (by omega)) (hf.1 _ (wi 1 (by omega) (by omega)).1 (wi 1 (by omega) (by omega)).2.1 (wi 1 (by omega) (by omega)).2.2) (hf.1 _ (wi 2 (by omega) (by omega)).1 (wi 2 (by omega) (by omega)).2.1 (wi 2 (by omega) (by omega)).2.2) (hf.1 _ (wi 3 (by omega) (by omega)).1 (wi 3 (by omega) (by omega)).2.1 (wi 3 (by omega) (by omega)).2.2) (hf.1 _ (wi 4 (by omega) (by omega)).1 (wi 4 (by omega) (by omega)).2.1 (wi 4 (by omega) (by omega)).2.2)
theorem s_worthOf {z : zZ} {d wl n Nn : Nat} {s c : Int} {lt : Nat → Int} {Dv Dc : Nat → Row → Option Int} {μ : Mu} (hd : 7 ≤ d) (hw : isLw wl) (h6 : μ 0 6 = (wl : Int) + 1) (hL : lawC wl μ Nn lt Dv Dc) (hv : dep10 Dv) (hc : dep10 Dc) (hcw : isW c n) (h99 : r99 (μ 35)) : ∃ M, mC z d 100 [(2, 0), (0, s), (0, c)] μ = some (wrt Nn lt Dv Dc (μ 0 18) s (μ 35) c n, M) ∧ lfa wl μ M := by
  obtain ⟨e, rfl, he⟩ := pred_of (k := 6) hd
  have w1 : 53 ≠ wl ∧ 53 ≠ wl + 5 := by rcases hw with h | h <;> omega
  rw [c_W_worthOf, s_tell (by omega)]
  simp -implicitDefEqProofs only [ob]
  rw [s_tellWord (by omega) hcw (by rw [zrow_ne (by omega)]; exact h99), zrow_same, zrow_ne (by omega), zrow_zrow]
  simp -implicitDefEqProofs only [ob]
  rw [e_W_worthOf_10 _ _ _ _ _ wl hw (by rw [zrow_ne (by omega)]; exact h6)]
  have hT := tlW_eq (h := μ 53) (t := μ 0 18) (s := s) (nl := (n : Int)) (sl := sm (strS c (μ 35)) 8)
  generalize rup (rup (tel (μ 53) (μ 0 18) s) 2 (n : Int)) 3 (sm (strS c (μ 35)) 8) = T at hT ⊢
  have hf0 : lfa wl μ (zrow μ 53 T) := ⟨fun a q1 _ _ => zrow_ne q1, fun k _ _ => by rw [zrow_ne (fun h => w1.1 h.symm)]⟩
  obtain ⟨M1, r1, f1⟩ := s_ask (z := z) (d := e) (c := 118) (by omega) hw (lawC_lfa hw hL hf0)
  rw [r1, zrow_same, evl_congr hv hc hT]
  simp -implicitDefEqProofs only [ob]
  exact ⟨M1, rfl, fun a q1 q2 q3 => by rw [f1.1 a q2 q3, zrow_ne q1], fun k q1 q2 => by rw [f1.2 k q1 q2]; exact hf0.2 k q1 q2⟩
theorem t_worthOf {z : zZ} {d s w N Nn : Nat} {W r : Row} {L : Nat → Nat} {lt : Nat → Int} {Dv Dc : Nat → Row → Option Int} {ρ : Mu} (hd : 5 ≤ d) (hs : s < 2) (hx : lexR ρ s N W L) (hw : w < N) (hL : lawR ρ Nn lt Dv Dc) (hdv : dep10 Dv) (hdc : dep10 Dc) (h99 : r99 r) (hr : ∀ k, k < 12 → ρ 87 k = r k) : ∃ P, mC z d 258 [(2, 86), (0, (s : Int)), (0, (w : Int))] ρ = some (wrt Nn lt Dv Dc (ρ 86 1) (s : Int) r (W w) (L w), P) ∧ ∀ a, a ≠ 109 → a ≠ 110 → P a = ρ a := by
  obtain ⟨e, rfl, he⟩ := pred_of (k := 4) hd
  rw [c_M_worthOf, t_feelsWord (by omega) hs hx hw h99 hr]
  simp -implicitDefEqProofs only [ob]
  have hT := tlW_eq (h := ρ 110) (t := ρ 86 1) (s := (s : Int)) (nl := (L w : Int)) (sl := sm (strS (W w) r) 8)
  generalize rup (rup (tel (ρ 110) (ρ 86 1) (s : Int)) 2 (L w : Int)) 3 (sm (strS (W w) r) 8) = T at hT ⊢
  obtain ⟨M1, r1, f1⟩ := t_byLaw (z := z) (d := e) (c := 118) (hi := 9999) (by omega) (lawR_congr hL (M := zrow ρ 110 T) (by rw [zrow_ne (by omega)]) (zrow_ne (by omega)) (zrow_ne (by omega)) (zrow_ne (by omega)) (zrow_ne (by omega)) (zrow_ne (by omega)))
  rw [r1, zrow_same, evl_congr hdv hdc hT]
  simp -implicitDefEqProofs only [ob]
  exact ⟨M1, rfl, fun a q1 q2 => by rw [f1.1 a q1, zrow_ne q2]⟩
/-! letters packed -/
def clq (v : Int) : Int := if 0 < if 100 < v then 100 else v then if 100 < v then 100 else v else 0
theorem clq_rg (v : Int) : 0 ≤ clq v ∧ clq v ≤ 100 := by
  unfold clq
  by_cases h1 : 100 < v
  · rw [if_pos h1, if_pos (by omega)]
    omega
  · rw [if_neg h1]
    split <;> omega
def stq (h : Row) (come gone : Int) (x : Nat) : Int := clq (h x + (if (x : Int) = come then 1 else 0) - (if (x : Int) = gone then 1 else 0))
theorem pk_all : ∀ i, i < 6 → ∀ v, v < 101 → z_lshl ((v : Nat) : Int) (zw (8 * ((i : Nat) : Int))) = (v : Int) * 256 ^ i := by decide +kernel
def pkp (g : Nat → Int) (f k : Nat) : Int := pkr (fun x => 128 + (if x < f + k then g x else 0)) f 6
theorem pkp_0 (g : Nat → Int) (f : Nat) : pkp g f 0 = 141289400074368 := by
  have h : pkp g f 0 = pkr (fun _ => 128) f 6 := pkr_congr 6 f (fun i hi => by rw [if_neg (by omega)]; omega)
  rw [h]
  rfl
theorem pkp_6 (g : Nat → Int) (f : Nat) : pkp g f 6 = stk g f := pkr_congr 6 f (fun i hi => by rw [if_pos (by omega)])
theorem pkp_s (g : Nat → Int) (f k : Nat) (hk : k < 6) : pkp g f k + g (f + k) * 256 ^ k = pkp g f (k + 1) := by
  unfold pkp
  rw [← pkr_one _ 6 f k (g (f + k)) hk]
  refine pkr_congr 6 f (fun i hi => ?_)
  by_cases h : i = k
  · subst h
    rw [if_neg (by omega), if_pos rfl, if_pos (by omega)]
    omega
  · rw [if_neg (show ¬ f + i = f + k by omega)]
    by_cases h2 : i < k
    · rw [if_pos (by omega), if_pos (by omega)]
      omega
    · rw [if_neg (by omega), if_neg (by omega)]
      omega
theorem pkp_rg {g : Nat → Int} {f k : Nat} (h : ∀ x, 0 ≤ g x ∧ g x ≤ 100) : 0 ≤ pkp g f k ∧ pkp g f k < 281474976710656 := by
  have h2 := pkr_rg (g := fun x => 128 + (if x < f + k then g x else 0)) 6 f (fun i hi => by
    have := h (f + i)
    split <;> omega)
  rw [show (256 : Int) ^ 6 = 281474976710656 by decide] at h2
  exact h2
theorem s_packed {z : zZ} {d o f : Nat} {come gone : Int} {μ : Mu} (hd : 2 ≤ d) (ho : iar o 36) (hh : hr (μ o)) (hf : f = 0 ∨ f = 6) : mC z d 110 [(2, (o : Int)), (0, (f : Int)), (0, come), (0, gone)] μ = some (stk (stq (μ o) come gone) f, μ) := by
  obtain ⟨e, rfl, he⟩ := pred_of hd
  have hg : ∀ x, 0 ≤ stq (μ o) come gone x ∧ stq (μ o) come gone x ≤ 100 := fun x => clq_rg _
  have H := down (n := 6) (P := fun k => f_Wrd_packed_8 z e (o : Int) (f : Int) come gone (pkp (stq (μ o) come gone) f k) (k : Int) μ = some (stk (stq (μ o) come gone) f, μ))
    (by rw [e_Wrd_packed_8, cT (by omega), pkp_6])
    (by
      intro k hk ih
      have hq := hg (f + k)
      have h1 := hh (f + k)
      have hr1 := pkp_rg (f := f) (k := k) hg
      have hr2 := pkp_rg (f := f) (k := k + 1) hg
      have hps := pkp_s (stq (μ o) come gone) f k hk
      obtain ⟨n, hn⟩ : ∃ n : Nat, stq (μ o) come gone (f + k) = (n : Int) := ⟨(stq (μ o) come gone (f + k)).toNat, by omega⟩
      have hsh := pk_all k hk n (by omega)
      have h59 : ∀ v8 : Int, v8 = μ o (f + k) + (if ((f + k : Nat) : Int) = come then 1 else 0) - (if ((f + k : Nat) : Int) = gone then 1 else 0) → f_Wrd_packed_59 z e (o : Int) (f : Int) come gone (pkp (stq (μ o) come gone) f k) (k : Int) v8 μ = some (stk (stq (μ o) come gone) f, μ) := by
        intro v8 hv
        rw [e_Wrd_packed_59]
        have hc : (if 0 < if 100 < v8 then 100 else v8 then if 100 < v8 then 100 else v8 else 0) = (n : Int) := by
          rw [← hn, hv]
          rfl
        rw [hc, hsh, ← hn, hps, zwl_id (by omega) (by omega), zwc (by omega)]
        exact ih
      have h50 : ∀ v8 : Int, v8 = μ o (f + k) + (if ((f + k : Nat) : Int) = come then 1 else 0) → f_Wrd_packed_50 z e (o : Int) (f : Int) come gone (pkp (stq (μ o) come gone) f k) (k : Int) ((f + k : Nat) : Int) v8 μ = some (stk (stq (μ o) come gone) f, μ) := by
        intro v8 hv
        have hv2 : 0 ≤ v8 ∧ v8 ≤ 1000 := by rw [hv]; split <;> omega
        rw [e_Wrd_packed_50]
        by_cases h : ((f + k : Nat) : Int) = gone
        · rw [nT h]
          exact h59 _ (by rw [if_pos h, zw_id (by omega) (by omega), hv]; omega)
        · rw [nF h]
          exact h59 _ (by rw [if_neg h, hv]; omega)
      rw [e_Wrd_packed_8, cF (by omega), zwa (by omega), s_isLetter (by omega)]
      simp -implicitDefEqProofs only [ob]
      rw [decide_eq_true (show (0 : Int) ≤ ((f + k : Nat) : Int) ∧ ((f + k : Nat) : Int) < 12 by omega), bi_t, cF (by decide), Int.zero_add, zw_id (x := ((f + k : Nat) : Int)) (by omega) (by omega), gAi ho (by omega), Int.toNat_natCast, Int.toNat_natCast, e_Wrd_packed_39]
      by_cases h : ((f + k : Nat) : Int) = come
      · rw [nT h]
        exact h50 _ (by rw [if_pos h, zw_id (by omega) (by omega)])
      · rw [nF h]
        exact h50 _ (by rw [if_neg h]; omega)) 0 (by omega)
  rw [pkp_0] at H
  simp -implicitDefEqProofs only [Int.natCast_zero] at H
  rw [c_Wrd_packed]
  exact H
theorem s_pack0 {z : zZ} {d o : Nat} {come gone : Int} {μ : Mu} (hd : 2 ≤ d) (ho : iar o 36) (hh : hr (μ o)) : mC z d 110 [(2, (o : Int)), (0, 0), (0, come), (0, gone)] μ = some (stk (stq (μ o) come gone) 0, μ) := s_packed (f := 0) hd ho hh (Or.inl rfl)
theorem s_pack6 {z : zZ} {d o : Nat} {come gone : Int} {μ : Mu} (hd : 2 ≤ d) (ho : iar o 36) (hh : hr (μ o)) : mC z d 110 [(2, (o : Int)), (0, 6), (0, come), (0, gone)] μ = some (stk (stq (μ o) come gone) 6, μ) := s_packed (f := 6) hd ho hh (Or.inr rfl)
