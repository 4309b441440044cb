/-! conditions in the reference's codes: jumps that lead on to jumps -/
def jv (t : Nat) : Int := if t = 12 then 1 else 0
theorem t_runJ {z : zZ} {e to n lo t v : Nat} {M : Mu} (hlo : lo < to) (hto : to ≤ 220) (ht : t = 11 ∨ t = 12) (hv : v < 1048576) (hn : n < 220) (hst : M 104 lo = ((1048576 * t + v : Nat) : Int)) : f_M_comesTo_16 z e (to : Int) ((n + 1 : Nat) : Int) 0 (lo : Int) M = if M 109 n = jv t then f_M_comesTo_16 z e (to : Int) ((n + 1 : Nat) : Int) 0 (v : Int) M else f_M_comesTo_16 z e (to : Int) (n : Int) 0 ((lo + 1 : Nat) : Int) M := by
  rw [t_code (t := t) (v := v) hlo hto (by omega) hv hst, if_neg (by omega), e_M_comesTo_95, nF (by omega)]
  have h137 : f_M_comesTo_137 z e (to : Int) ((n + 1 : Nat) : Int) 0 ((lo + 1 : Nat) : Int) (t : Int) (v : Int) M = if M 109 n = jv t then f_M_comesTo_16 z e (to : Int) ((n + 1 : Nat) : Int) 0 (v : Int) M else f_M_comesTo_16 z e (to : Int) (n : Int) 0 ((lo + 1 : Nat) : Int) M := by
    have h157 : f_M_comesTo_157 z e (to : Int) ((n + 1 : Nat) : Int) 0 ((lo + 1 : Nat) : Int) (v : Int) (M 109 n) (jv t) M = if M 109 n = jv t then f_M_comesTo_16 z e (to : Int) ((n + 1 : Nat) : Int) 0 (v : Int) M else f_M_comesTo_16 z e (to : Int) (n : Int) 0 ((lo + 1 : Nat) : Int) M := by
      rw [e_M_comesTo_157]
      by_cases h : M 109 n = jv t
      · rw [nT h, if_pos h, e_M_comesTo_232, Int.zero_add, zw_id (by omega) (by omega)]
      · rw [nF h, if_neg h, e_M_comesTo_232, zn1 (by omega)]
    rw [e_M_comesTo_137, zn1 (by omega), gI_ok (by omega) (by omega), Int.toNat_natCast]
    rcases ht with h | h
    · subst h
      rw [nF (by omega)]
      exact h157
    · subst h
      rw [nT (by omega)]
      exact h157
  rcases ht with h | h
  · subst h
    rw [cT (by omega)]
    exact h137
  · subst h
    rw [cF (by omega), nT (by omega)]
    exact h137
def thrR (st : Row) (to tr hi t : Nat) : Prop := ∀ (z : zZ) (e n : Nat) (M : Mu), M 104 = st → n < 220 → M 109 n = jv t → f_M_comesTo_16 z e (to : Int) ((n + 1 : Nat) : Int) 0 (tr : Int) M = f_M_comesTo_16 z e (to : Int) ((n + 1 : Nat) : Int) 0 (hi : Int) M
theorem thrR_here {st : Row} {to hi t : Nat} : thrR st to hi hi t := fun _ _ _ _ _ _ _ => rfl
theorem thrR_jump {st : Row} {to tr tr' hi t : Nat} (htr : tr < to) (hto : to ≤ 220) (ht : t = 11 ∨ t = 12) (hv : tr' < 1048576) (hst : st tr = ((1048576 * t + tr' : Nat) : Int)) (h : thrR st to tr' hi t) : thrR st to tr hi t := by
  intro z e n M h1 h2 h3
  rw [t_runJ htr hto ht hv h2 (by rw [h1]; exact hst), if_pos h3]
  exact h z e n M h1 h2 h3
def rstR (st tl : Row) (to lo hi dep : Nat) (F : Int → Option Int) : Prop := lo ≤ hi ∧ ∀ (z : zZ) (e n : Nat) (M : Mu), 2 ≤ e → M 104 = st → M 110 = tl → n + dep ≤ 220 → (∃ v M', F (M 109 n) = some v ∧ f_M_comesTo_16 z e (to : Int) ((n + 1 : Nat) : Int) 0 (lo : Int) M = f_M_comesTo_16 z e (to : Int) ((n + 1 : Nat) : Int) 0 (hi : Int) M' ∧ M' 109 n = v ∧ rsf n M M') ∨ (F (M 109 n) = none ∧ ∃ M', f_M_comesTo_16 z e (to : Int) ((n + 1 : Nat) : Int) 0 (lo : Int) M = some (0, M') ∧ rsf n M M')
theorem rstR_nil {st tl : Row} {to lo dep : Nat} : rstR st tl to lo lo dep (fun h => some h) := ⟨Nat.le_refl _, fun z e n M he h1 h2 h3 => Or.inl ⟨M 109 n, M, rfl, rfl, rfl, rsf_refl _ _⟩⟩
theorem segR_rest {st tl : Row} {to lo mid hi dep : Nat} {D : Option Int} {F : Int → Option Int} (h1 : segR st tl to lo mid dep D) (h2 : rstR st tl to mid hi dep F) : segR st tl to lo hi dep (D.bind F) := by
  obtain ⟨l1, h1⟩ := h1
  obtain ⟨l2, h2⟩ := h2
  refine ⟨by omega, fun z e n M he g1 g2 g3 => ?_⟩
  rcases h1 z e n M he g1 g2 g3 with ⟨x, M1, c1, c2, c3, c4⟩ | ⟨c1, M1, c2, c3⟩
  · rcases h2 z e n M1 he (by rw [c4.1 104 (by omega)]; exact g1) (by rw [c4.1 110 (by omega)]; exact g2) g3 with ⟨y, M2, k1, k2, k3, k4⟩ | ⟨k1, M2, k2, k3⟩
    · left
      rw [c3] at k1
      exact ⟨y, M2, by rw [c1]; exact k1, by rw [c2, k2], k3, rsf_trans c4 k4⟩
    · right
      rw [c3] at k1
      exact ⟨by rw [c1]; exact k1, M2, by rw [c2, k2], rsf_trans c4 k3⟩
  · right
    exact ⟨by rw [c1]; rfl, M1, c2, c3⟩
theorem rstR_cons {st tl : Row} {to lo mid hi dep t tr : Nat} {D : Option Int} {F : Int → Option Int} (hlo : lo < to) (hto : to ≤ 220) (ht : t = 11 ∨ t = 12) (hv : tr < 1048576) (hst : st lo = ((1048576 * t + tr : Nat) : Int)) (hth : thrR st to tr hi t) (h1 : segR st tl to (lo + 1) mid dep D) (h2 : rstR st tl to mid hi dep F) (hd1 : 1 ≤ dep) : rstR st tl to lo hi dep (fun h => if h = jv t then some h else D.bind F) := by
  have hseg := segR_rest h1 h2
  have l1 := hseg.1
  refine ⟨by omega, fun z e n M he g1 g2 g3 => ?_⟩
  have hj := t_runJ (z := z) (e := e) (n := n) (M := M) hlo hto ht hv (by omega) (by rw [g1]; exact hst)
  by_cases hc : M 109 n = jv t
  · left
    rw [if_pos hc, hth z e n M g1 (by omega) hc] at hj
    exact ⟨M 109 n, M, if_pos hc, hj, rfl, rsf_refl _ _⟩
  · rw [if_neg hc] at hj
    rcases hseg.2 z e n M he g1 g2 g3 with ⟨y, M2, k1, k2, k3, k4⟩ | ⟨k1, M2, k2, k3⟩
    · left
      exact ⟨y, M2, (if_neg hc).trans k1, by rw [hj, k2], k3, k4⟩
    · right
      exact ⟨(if_neg hc).trans k1, M2, by rw [hj, k2], k3⟩
/-- on 0 and 1 both kinds of jump do alike -/
theorem jv_iff {h : Int} {k t : Nat} (h01 : h = 0 ∨ h = 1) (hkt : (k = 4 ∧ t = 12) ∨ (k = 5 ∧ t = 11)) : h = jv t ↔ (h ≠ 0 ↔ k = 4) := by
  unfold jv
  rcases hkt with ⟨h1, h2⟩ | ⟨h1, h2⟩ <;> subst h1 <;> subst h2 <;> rcases h01 with h | h <;> subst h <;> simp
/-- asking: what a clause's stretch comes to -/
theorem s_run {z : zZ} {d o sz lo hi dep : Nat} {st tl : Row} {D : Option Int} {μ : Mu} (hd : 5 ≤ d) (ho : isLw o) (hst : μ (o + 4) = st) (htl : μ 53 = tl) (hsz : μ o 5 = (sz : Int)) (hs : segC o st tl sz lo hi dep D) (hdep : dep ≤ 64) (hhi : hi < sz) (hsz2 : sz ≤ 256) (hlen : hi - lo < 256) (hend : st hi = 0) : ∃ M, mC z d 87 [(2, (o : Int)), (0, (lo : Int)), (2, 53)] μ = some (D.getD 0, M) ∧ lfr o μ M := by
  obtain ⟨e, rfl, he⟩ := pred_of hd
  have hl0 : lfr o μ (zup (zup μ o 7 0) o 8 0) := ⟨fun a p _ => by rw [zup_ro p, zup_ro p], fun k p r => by rw [zup_nk r, zup_nk p]⟩
  have hs0 : lst (zup (zup μ o 7 0) o 8 0) o sz 0 := ⟨by rw [hl0.2 5 (by omega) (by omega)]; exact hsz, by rw [zup_nk (by omega)]; exact zup_hit, zup_hit⟩
  rw [c_Law_run _ _ _ _ _ _ ho]
  rcases hs.2 z e 0 0 (zup (zup μ o 7 0) o 8 0) he (by rw [hl0.1 (o + 4) (by omega) (by omega)]; exact hst) (by rw [hl0.1 53 (o53 ho).1 (o53 ho).2]; exact htl) hs0 (by omega) (by omega) with ⟨v, i', M', c1, c2, c3, c4⟩ | ⟨c1, M', c2, c3⟩
  · have hs' := rl_lst c4 hs0.1
    refine ⟨pp M' o 0, ?_, lfr_trans hl0 (lfr_trans c4.1 lfr_pp)⟩
    have c2' := c2
    simp -implicitDefEqProofs only [Int.natCast_zero] at c2'
    rw [c2', s_runE (by omega) ho hs' (by omega) hhi hsz2 (by omega) (by rw [c4.1.1 (o + 4) (by omega) (by omega), hl0.1 (o + 4) (by omega) (by omega), hst]; exact hend), c4.2.2.2.1, c1]
    rfl
  · simp -implicitDefEqProofs only [Int.natCast_zero] at c2
    exact ⟨M', by rw [c2, c1]; rfl, lfr_trans hl0 c3⟩
theorem t_comesTo {z : zZ} {d lo hi dep : Nat} {st tl : Row} {D : Option Int} {μ : Mu} (hd : 3 ≤ d) (hst : μ 104 = st) (htl : μ 110 = tl) (hs : segR st tl hi lo hi dep D) (hdep : dep ≤ 220) (hlo : lo < 220) : ∃ M, mC z d 249 [(2, 86), (0, (lo : Int)), (0, (hi : Int))] μ = some (D.getD 0, M) ∧ rsf 0 μ M := by
  obtain ⟨e, rfl, he⟩ := pred_of hd
  have hz : z_div (lo : Int) 220 = 0 := by rw [z_div_nn (by omega) (by omega) (by omega)]; omega
  have hz2 : zw (220 * 0) = 0 := by decide
  rw [c_M_comesTo, hz, hz2]
  rcases hs.2 z e 0 μ (by omega) hst htl (by omega) with ⟨v, M', c1, c2, c3, c4⟩ | ⟨c1, M', c2, c3⟩
  · simp -implicitDefEqProofs only [Int.natCast_zero] at c2
    refine ⟨M', ?_, c4⟩
    rw [c2, e_M_comesTo_16, cT (by omega), c3, c1]
    rfl
  · simp -implicitDefEqProofs only [Int.natCast_zero] at c2
    exact ⟨M', by rw [c2, c1]; rfl, c3⟩
