/-! the line of the dead -/
theorem t_deadsum {z : zZ} {e s : Nat} {wh : Int} {μ : Mu} (he : 1 ≤ e) (hs : s < 2) (hh : hr (μ 91)) : f_M_dead_18 z e (s : Int) wh 0 0 0 μ = f_M_dead_18 z e (s : Int) wh (sm (fun k => μ 91 (12 * s + k)) 12) (mxv (fun k => μ 91 (12 * s + k)) 12) 12 μ := by
  have H := down (n := 12) (P := fun k => f_M_dead_18 z e (s : Int) wh (sm (fun k => μ 91 (12 * s + k)) k) (mxv (fun k => μ 91 (12 * s + k)) k) (k : Int) μ = f_M_dead_18 z e (s : Int) wh (sm (fun k => μ 91 (12 * s + k)) 12) (mxv (fun k => μ 91 (12 * s + k)) 12) 12 μ)
    (by rfl)
    (by
      intro k hk ih
      have h1 := sm_bound (g := fun k => μ 91 (12 * s + k)) (b := 999) (fun k => hh (12 * s + k)) k
      have h2 := hh (12 * s + k)
      rw [e_M_dead_18, cF (by omega), zi12 (by omega) (by omega), gI_ok (by omega) (by omega), gI_ok (by omega) (by omega), Int.toNat_natCast, t_max he]
      simp -implicitDefEqProofs only [ob]
      rw [e_M_dead_57, zwc (by omega), zw_id (by omega) (by omega)]
      have e1 : (if μ 91 (12 * s + k) < mxv (fun k => μ 91 (12 * s + k)) k then mxv (fun k => μ 91 (12 * s + k)) k else μ 91 (12 * s + k)) = mxv (fun k => μ 91 (12 * s + k)) (k + 1) := by
        show _ = if mxv (fun k => μ 91 (12 * s + k)) k < μ 91 (12 * s + k) then μ 91 (12 * s + k) else mxv (fun k => μ 91 (12 * s + k)) k
        split <;> split <;> omega
      rw [e1]
      exact ih)
  exact H 0 (by omega)
def lnS (h r : Row) (b : Nat) (i : Nat) : Int := sm (fun j => h (b + (r j).toNat)) i
def lin (h r : Row) (b : Nat) (wh : Int) : Int := if fst1 (fun i => decide (wh < lnS h r b (i + 1))) 12 = -1 then -1 else r (fst1 (fun i => decide (wh < lnS h r b (i + 1))) 12).toNat
theorem s_letterInLine {z : zZ} {d o b : Nat} {wh : Int} {μ : Mu} (hd : 1 ≤ d) (ho : o = 4 ∨ o = 13) (hb : b ≤ 24) (hh : hr (μ (o + 3))) (hr1 : rkr (μ (o + 1))) : mC z d 167 [(2, (o : Int)), (0, (b : Int)), (0, wh)] μ = some (lin (μ (o + 3)) (μ (o + 1)) b wh, μ) := by
  obtain ⟨e, rfl, he⟩ := pred_of hd
  rw [c_Army_letterInLine _ _ _ _ _ _ ho]
  have hstep : ∀ k : Nat, k < 12 → f_Army_letterInLine_5 z e o (b : Int) wh (lnS (μ (o + 3)) (μ (o + 1)) b k) (k : Int) μ = bif decide (wh < lnS (μ (o + 3)) (μ (o + 1)) b (k + 1)) then some (μ (o + 1) k, μ) else f_Army_letterInLine_5 z e o (b : Int) wh (lnS (μ (o + 3)) (μ (o + 1)) b (k + 1)) ((k + 1 : Nat) : Int) μ := by
    intro k hk
    have h1 := hr1 k
    obtain ⟨l, hl⟩ : ∃ l : Nat, μ (o + 1) k = (l : Int) := ⟨(μ (o + 1) k).toNat, by omega⟩
    have h2 := hh (b + l)
    have h3 := sm_bound (g := fun j => μ (o + 3) (b + (μ (o + 1) j).toNat)) (b := 999) (fun j => hh _) k
    have e2 : lnS (μ (o + 3)) (μ (o + 1)) b (k + 1) = lnS (μ (o + 3)) (μ (o + 1)) b k + μ (o + 3) (b + l) := by
      show sm _ k + μ (o + 3) (b + (μ (o + 1) k).toNat) = _
      rw [hl, Int.toNat_natCast]
      rfl
    have h4 : 0 ≤ lnS (μ (o + 3)) (μ (o + 1)) b k ∧ lnS (μ (o + 3)) (μ (o + 1)) b k ≤ k * 999 := h3
    rw [e_Army_letterInLine_5 _ _ _ _ _ _ _ _ ho, cF (by omega), gI_ok (by omega) (by omega), Int.toNat_natCast, hl, zwa (by omega), gI_ok (by omega) (by omega), Int.toNat_natCast, zw_id (by omega) (by omega), ← e2]
    by_cases hc : wh < lnS (μ (o + 3)) (μ (o + 1)) b (k + 1)
    · rw [cT hc, cF (by omega), gI_ok (by omega) (by omega)]
    · rw [cF hc, cT (by omega), e_Army_letterInLine_42 _ _ _ _ _ _ _ _ ho, zwc (by omega)]
  unfold lin
  rcases fst1_sp (fun i => decide (wh < lnS (μ (o + 3)) (μ (o + 1)) b (i + 1))) 12 with ⟨g1, g2⟩ | ⟨u, g1, g2, g3, g4⟩
  · rw [g1, if_pos rfl]
    have H := down (n := 12) (P := fun k => f_Army_letterInLine_5 z e o (b : Int) wh (lnS (μ (o + 3)) (μ (o + 1)) b k) (k : Int) μ = some (-1, μ))
      (by rw [e_Army_letterInLine_5 _ _ _ _ _ _ _ _ ho, cT (by omega)])
      (by
        intro k hk ih
        rw [hstep k hk, g2 k hk]
        exact ih)
    exact H 0 (by omega)
  · rw [g1, if_neg (by omega), Int.toNat_natCast]
    have H := down (n := u) (P := fun k => f_Army_letterInLine_5 z e o (b : Int) wh (lnS (μ (o + 3)) (μ (o + 1)) b k) (k : Int) μ = some (μ (o + 1) u, μ))
      (by
        rw [hstep u g2, g3]
        rfl)
      (by
        intro k hk ih
        rw [hstep k (by omega), g4 k hk]
        exact ih)
    exact H 0 (by omega)
