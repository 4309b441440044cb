/-! a turn in both -/
def tlD (t s a b : Int) : Row := fun i => if i = 0 then t else if i = 1 then s else if i = 7 then a else if i = 8 then b else 0
theorem tlD_eq {h : Row} {t s a b : Int} : ∀ i, i < 10 → rup (rup (tel h t s) 7 a) 8 b i = tlD t s a b i := by
  intro i hi
  have : i = 0 ∨ i = 1 ∨ i = 2 ∨ i = 3 ∨ i = 4 ∨ i = 5 ∨ i = 6 ∨ i = 7 ∨ i = 8 ∨ i = 9 := by omega
  rcases this with h | h | h | h | h | h | h | h | h | h <;> subst h <;> rfl
theorem s_deserts {z : zZ} {d s l wl Nn : Nat} {lt : Nat → Int} {Dv Dc : Nat → Row → Option Int} {μ : Mu} (hd : 7 ≤ d) (hs : s < 2) (hl : l < 12) (hw : isLw wl) (h6 : μ 0 6 = (wl : Int) + 1) (hL : lawC wl μ Nn lt Dv Dc) (hdv : dep10 Dv) (hdc : dep10 Dc) (h0 : 0 ≤ μ 0 19) (h1 : μ 0 19 ≤ 65535) : ∃ M, mC z d 98 [(2, 0), (0, (s : Int)), (0, (l : Int))] μ = some (bi (decide (nxd (μ 0 19) % 10 < evl Nn lt Dv Dc (tlD (μ 0 18) (s : Int) (l : Int) (μ (4 + 9 * s + 3) l)) 100 10 Nn 0 ∧ 0 < μ (4 + 9 * s + 3) l)), M) ∧ (∀ a, a ≠ 0 → a ≠ 53 → a ≠ wl → a ≠ wl + 5 → M a = μ a) ∧ (∀ k, k ≠ 19 → M 0 k = μ 0 k) ∧ M 0 19 = nxd (μ 0 19) ∧ ∀ k, k ≠ 7 → k ≠ 8 → M wl k = μ wl k := by
  obtain ⟨e, rfl, he⟩ := pred_of (k := 6) hd
  have hs01 : (s : Int) = 0 ∨ (s : Int) = 1 := by omega
  have hwv : wl = 41 ∨ wl = 47 := hw
  rw [c_W_deserts _ _ _ _ _ hs01, s_nextDraw (by omega) h0 h1]
  simp -implicitDefEqProofs only [ob]
  rw [z0l (l := l) (by omega), gI_ok (by omega) (by omega), s_tell (by omega)]
  simp -implicitDefEqProofs only [ob]
  rw [Int.toNat_natCast, Int.toNat_natCast, zup_ro (show 4 + 9 * s + 3 ≠ 0 by omega), zup_nk (show (18 : Nat) ≠ 19 by omega), zup_ro (show (53 : Nat) ≠ 0 by omega)]
  have g6 : zrow (zup μ 0 19 (nxd (μ 0 19))) 53 (tel (μ 53) (μ 0 18) (s : Int)) 0 6 = (wl : Int) + 1 := by rw [zrow_ne (by omega), zup_nk (by omega)]; exact h6
  rw [e_W_deserts_25 _ _ _ _ _ _ _ wl hwv g6]
  generalize hK : zup (zup (zrow (zup μ 0 19 (nxd (μ 0 19))) 53 (tel (μ 53) (μ 0 18) (s : Int))) 53 7 (l : Int)) 53 8 (μ (4 + 9 * s + 3) l) = K
  have k1 : ∀ a, a ≠ 0 → a ≠ 53 → K a = μ a := fun a q1 q2 => by subst hK; rw [zup_ro q2, zup_ro q2, zrow_ne q2, zup_ro q1]
  have k2 : ∀ k, k ≠ 19 → K 0 k = μ 0 k := fun k q => by subst hK; rw [zup_ro (by omega), zup_ro (by omega), zrow_ne (by omega), zup_nk q]
  have k3 : K 0 19 = nxd (μ 0 19) := by subst hK; rw [zup_ro (by omega), zup_ro (by omega), zrow_ne (by omega), zup_hit]
  have k4 : ∀ i, i < 10 → K 53 i = tlD (μ 0 18) (s : Int) (l : Int) (μ (4 + 9 * s + 3) l) i := fun i hi => by
    subst hK
    rw [zupr, zupr, zrow_same, zrow_same, zrow_same]
    exact tlD_eq i hi
  clear hK
  have kw : ∀ i, i ≤ 4 → K (wl + i) = μ (wl + i) := fun i hi => k1 _ (by omega) (by omega)
  have kw0 : K wl = μ wl := kw 0 (by omega)
  obtain ⟨M, m1, m2⟩ := s_ask (z := z) (d := e) (c := 100) (μ := K) he hw (lawC_congr hL (by rw [kw0]) (by rw [kw0]) (kw 1 (by omega)) (kw 2 (by omega)) (kw 3 (by omega)) (kw 4 (by omega)))
  rw [evl_congr hdv hdc k4] at m1
  have e10 : moC 100 = 10 := rfl
  rw [e10] at m1
  rw [m1]
  simp -implicitDefEqProofs only [ob]
  have hfr : (∀ a, a ≠ 0 → a ≠ 53 → a ≠ wl → a ≠ wl + 5 → M a = μ a) ∧ (∀ k, k ≠ 19 → M 0 k = μ 0 k) ∧ M 0 19 = nxd (μ 0 19) ∧ ∀ k, k ≠ 7 → k ≠ 8 → M wl k = μ wl k := by
    refine ⟨fun a q1 q2 q3 q4 => by rw [m2.1 a q3 q4, k1 a q1 q2], fun k q => by rw [m2.1 0 (by omega) (by omega), k2 k q], by rw [m2.1 0 (by omega) (by omega), k3], fun k q1 q2 => by rw [m2.2 k q1 q2, kw0]⟩
  generalize evl Nn lt Dv Dc (tlD (μ 0 18) (s : Int) (l : Int) (μ (4 + 9 * s + 3) l)) 100 10 Nn 0 = E
  by_cases c1 : E ≤ nxd (μ 0 19) % 10
  · rw [cT c1, e_W_deserts_68, e_W_deserts_69, g01_0, bi_df (by omega)]
    exact ⟨M, rfl, hfr⟩
  · rw [cF c1]
    by_cases c2 : μ (4 + 9 * s + 3) l ≤ 0
    · rw [cT c2, e_W_deserts_68, e_W_deserts_69, g01_0, bi_df (by omega)]
      exact ⟨M, rfl, hfr⟩
    · rw [cF c2, e_W_deserts_69, g01_1, bi_dt (by omega)]
      exact ⟨M, rfl, hfr⟩
