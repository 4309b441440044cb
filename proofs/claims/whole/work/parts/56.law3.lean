/-! conditions in the class's steps; stretches of the reference's codes -/
def rstC (o : Nat) (st tl : Row) (sz lo hi dep : Nat) (F : Int → Option Int) : Prop := lo ≤ hi ∧ ∀ (z : zZ) (e i q : Nat) (M : Mu), 4 ≤ e → M (o + 4) = st → M 53 = tl → lst M o sz (q + 1) → q + dep ≤ 64 → i + (hi - lo) ≤ 256 → (∃ v i' M', F (M (o + 5) q) = some v ∧ f_Law_run_15 z e o 53 (lo : Int) (i : Int) M = f_Law_run_15 z e o 53 (hi : Int) ((i' : Nat) : Int) M' ∧ i' ≤ i + (hi - lo) ∧ rl o q v M M') ∨ (F (M (o + 5) q) = none ∧ ∃ M', f_Law_run_15 z e o 53 (lo : Int) (i : Int) M = some (0, M') ∧ lfr o M M')
theorem rl_trans {o q : Nat} {v w : Int} {A B C : Mu} (h1 : rl o q v A B) (h2 : rl o q w B C) : rl o q w A C := ⟨lfr_trans h1.1 h2.1, h2.2.1, h2.2.2.1, h2.2.2.2.1, fun j hj => by rw [h2.2.2.2.2 j hj, h1.2.2.2.2 j hj]⟩
theorem rstC_nil {o sz lo dep : Nat} {st tl : Row} : rstC o st tl sz lo lo dep (fun h => some h) := by
  refine ⟨Nat.le_refl _, fun z e i q M he h1 h2 h3 h4 h5 => Or.inl ⟨M (o + 5) q, i, M, rfl, rfl, by omega, lfr_refl _ _, h3.2.1, h3.2.2, rfl, fun _ _ => rfl⟩⟩
theorem o53 {o : Nat} (ho : isLw o) : 53 ≠ o ∧ 53 ≠ o + 5 := by rcases ho with h | h <;> omega
theorem segC_rest {o sz lo mid hi dep : Nat} {st tl : Row} {D : Option Int} {F : Int → Option Int} (ho : isLw o) (h1 : segC o st tl sz lo mid dep D) (h2 : rstC o st tl sz mid hi dep F) : segC o st tl sz lo hi dep (D.bind F) := by
  obtain ⟨l1, h1⟩ := h1
  obtain ⟨l2, h2⟩ := h2
  refine ⟨by omega, fun z e i q M he g1 g2 g3 g4 g5 => ?_⟩
  rcases h1 z e i q M he g1 g2 g3 (by omega) (by omega) with ⟨x, i1, M1, c1, c2, c3, c4⟩ | ⟨c1, M1, c2, c3⟩
  · have s1 := rl_lst c4 g3.1
    rcases h2 z e i1 q M1 he (by rw [c4.1.1 (o + 4) (by omega) (by omega)]; exact g1) (by rw [c4.1.1 53 (o53 ho).1 (o53 ho).2]; exact g2) s1 g4 (by omega) with ⟨y, i2, M2, k1, k2, k3, k4⟩ | ⟨k1, M2, k2, k3⟩
    · left
      rw [c4.2.2.2.1] at k1
      exact ⟨y, i2, M2, by rw [c1]; exact k1, by rw [c2, k2], by omega, rl_trans c4 k4⟩
    · right
      rw [c4.2.2.2.1] at k1
      exact ⟨by rw [c1]; exact k1, M2, by rw [c2, k2], lfr_trans c4.1 k3⟩
  · right
    exact ⟨by rw [c1]; rfl, M1, c2, c3⟩
theorem rstC_cons {o sz lo mid hi dep k : Nat} {st tl : Row} {D : Option Int} {F : Int → Option Int} (ho : isLw o) (hlo : lo < sz) (hsz : sz ≤ 256) (hk : k = 4 ∨ k = 5) (hhi : hi < 100000000) (hst : st lo = ((k + 16 * hi : Nat) : Int)) (h1 : segC o st tl sz (lo + 1) mid dep D) (h2 : rstC o st tl sz mid hi dep F) (hd1 : 1 ≤ dep) : rstC o st tl sz lo hi dep (fun h => if (h ≠ 0 ↔ k = 4) then some h else D.bind F) := by
  have hseg := segC_rest ho h1 h2
  have l1 := hseg.1
  refine ⟨by omega, fun z e i q M he g1 g2 g3 g4 g5 => ?_⟩
  have hj := s_runJ (z := z) (e := e) (i := i) (by omega) ho g3 (by omega) hlo hsz (by omega) hk hhi (by rw [g1]; exact hst)
  by_cases hc : (M (o + 5) q ≠ 0 ↔ k = 4)
  · left
    rw [if_pos hc] at hj
    refine ⟨M (o + 5) q, i + 1, _, if_pos hc, hj, by omega, lfr_trans lfr_pp lfr_psh, psh_o, by rw [psh_8, pp_8]; exact g3.2.2, psh_s, fun j hjq => by rw [psh_j (by omega), pp_s]⟩
  · rw [if_neg hc] at hj
    have hs' : lst (pp M o q) o sz q := ⟨by rw [lfr_pp.2 5 (by omega) (by omega)]; exact g3.1, pp_7, by rw [pp_8]; exact g3.2.2⟩
    rcases hseg.2 z e (i + 1) q (pp M o q) he (by rw [lfr_pp.1 (o + 4) (by omega) (by omega)]; exact g1) (by rw [lfr_pp.1 53 (o53 ho).1 (o53 ho).2]; exact g2) hs' g4 (by omega) with ⟨y, i2, M2, k1, k2, k3, k4⟩ | ⟨k1, M2, k2, k3⟩
    · left
      refine ⟨y, i2, M2, (if_neg hc).trans k1, by rw [hj, k2], by omega, lfr_trans lfr_pp k4.1, k4.2.1, k4.2.2.1, k4.2.2.2.1, fun j hjq => by rw [k4.2.2.2.2 j hjq, pp_s]⟩
    · right
      exact ⟨(if_neg hc).trans k1, M2, by rw [hj, k2], lfr_trans lfr_pp k3⟩
/-! the reference -/
theorem z_div_nn {x y : Int} (hx : 0 ≤ x) (hx2 : x < 2147483648) (hy : 0 < y) : z_div x y = x / y := by
  unfold z_div
  rw [Int.tdiv_eq_ediv_of_nonneg hx]
  have h1 : 0 ≤ x / y := Int.ediv_nonneg hx (by omega)
  have h2 : x / y ≤ x := Int.ediv_le_self y hx
  exact zw_id (by omega) (by omega)
theorem z_rem_nn {x y : Int} (hx : 0 ≤ x) : z_rem x y = x % y := by
  unfold z_rem
  exact Int.tmod_eq_emod_of_nonneg hx
theorem cod_op {t v : Nat} (ht : t < 100) (hv : v < 1048576) : z_div ((1048576 * t + v : Nat) : Int) 1048576 = (t : Int) := by
  rw [z_div_nn (by omega) (by omega) (by omega)]
  omega
theorem cod_v {t v : Nat} (ht : t < 100) (hv : v < 1048576) : z_rem ((1048576 * t + v : Nat) : Int) 1048576 = (v : Int) := by
  rw [z_rem_nn (by omega)]
  omega
/-- only the stack of the reference changes -/
def rsf (n : Nat) (M M' : Mu) : Prop := (∀ a, a ≠ 109 → M' a = M a) ∧ ∀ j, j < n → M' 109 j = M 109 j
theorem rsf_refl (n : Nat) (M : Mu) : rsf n M M := ⟨fun _ _ => rfl, fun _ _ => rfl⟩
theorem rsf_trans {n : Nat} {A B C : Mu} (h1 : rsf n A B) (h2 : rsf n B C) : rsf n A C := ⟨fun a h => by rw [h2.1 a h, h1.1 a h], fun j h => by rw [h2.2 j h, h1.2 j h]⟩
theorem rsf_le {n m : Nat} {A B : Mu} (h : rsf m A B) (hnm : n ≤ m) : rsf n A B := ⟨h.1, fun j hj => h.2 j (by omega)⟩
theorem rsf_zup {n m : Nat} {v : Int} {M : Mu} (h : n ≤ m) : rsf n M (zup M 109 m v) := ⟨fun a q => zup_ro q, fun j hj => zup_nk (by omega)⟩
def segR (st tl : Row) (to lo hi dep : Nat) (D : Option Int) : Prop := lo ≤ hi ∧ ∀ (z : zZ) (e n : Nat) (M : Mu), 2 ≤ e → M 104 = st → M 110 = tl → n + dep ≤ 220 → (∃ v M', D = some v ∧ f_M_comesTo_16 z e (to : Int) (n : Int) 0 (lo : Int) M = f_M_comesTo_16 z e (to : Int) ((n + 1 : Nat) : Int) 0 (hi : Int) M' ∧ M' 109 n = v ∧ rsf n M M') ∨ (D = none ∧ ∃ M', f_M_comesTo_16 z e (to : Int) (n : Int) 0 (lo : Int) M = some (0, M') ∧ rsf n M M')
theorem t_code {z : zZ} {e to n lo t v : Nat} {M : Mu} (hlo : lo < to) (hto : to ≤ 220) (ht : t < 100) (hv : v < 1048576) (hst : M 104 lo = ((1048576 * t + v : Nat) : Int)) : f_M_comesTo_16 z e (to : Int) (n : Int) 0 (lo : Int) M = if t = 0 ∨ t = 1 then f_M_comesTo_65 z e (to : Int) (n : Int) 0 ((lo + 1 : Nat) : Int) (t : Int) (v : Int) M else f_M_comesTo_95 z e (to : Int) (n : Int) 0 ((lo + 1 : Nat) : Int) (t : Int) (v : Int) M := by
  rw [e_M_comesTo_16, cF (by omega), gI_ok (by omega) (by omega), gI_ok (by omega) (by omega)]
  simp -implicitDefEqProofs only [Int.toNat_natCast, hst]
  rw [cod_op ht hv, cod_v ht hv, zwc (by omega)]
  by_cases h0 : t = 0
  · rw [cT (by omega), if_pos (Or.inl h0)]
  · by_cases h1 : t = 1
    · rw [cF (by omega), nT (by omega), if_pos (Or.inr h1)]
    · rw [cF (by omega), nF (by omega), if_neg (by omega)]
theorem segR_num {to lo v : Nat} {st tl : Row} (hlo : lo < to) (hto : to ≤ 220) (hv : v < 1048576) (hst : st lo = ((v : Nat) : Int)) : segR st tl to lo (lo + 1) 1 (some (v : Int)) := by
  refine ⟨by omega, fun z e n M he h1 h2 h3 => Or.inl ⟨(v : Int), zup M 109 n (v : Int), rfl, ?_, zup_hit, rsf_zup (Nat.le_refl _)⟩⟩
  rw [t_code (t := 0) (v := v) hlo hto (by omega) hv (by rw [h1, hst]; omega), if_pos (Or.inl rfl), e_M_comesTo_65, nT (by omega), e_M_comesTo_87, gI_ok (by omega) (by omega), Int.toNat_natCast, zwc (by omega), e_M_comesTo_232]
theorem segR_told {to lo v : Nat} {st tl : Row} (hlo : lo < to) (hto : to ≤ 220) (hv : v < 10) (hst : st lo = ((1048576 + v : Nat) : Int)) : segR st tl to lo (lo + 1) 1 (some (tl v)) := by
  refine ⟨by omega, fun z e n M he h1 h2 h3 => Or.inl ⟨tl v, zup M 109 n (tl v), rfl, ?_, zup_hit, rsf_zup (Nat.le_refl _)⟩⟩
  rw [t_code (t := 1) (v := v) hlo hto (by omega) (by omega) (by rw [h1, hst]), if_pos (Or.inr rfl), e_M_comesTo_65, nF (by omega), gI_ok (by omega) (by omega), Int.toNat_natCast, h2, e_M_comesTo_87, gI_ok (by omega) (by omega), Int.toNat_natCast, zwc (by omega), e_M_comesTo_232]
theorem zn1 {n : Nat} (h : n < 1000) : zw (((n + 1 : Nat) : Int) - 1) = (n : Int) := by rw [zw_id (by omega) (by omega)]; omega
theorem segR_not {to lo hi dep : Nat} {st tl : Row} {D : Option Int} (hhi : hi < to) (hto : to ≤ 220) (hst : st hi = ((1048576 * 10 : Nat) : Int)) (h : segR st tl to lo hi dep D) (hd1 : 1 ≤ dep) : segR st tl to lo (hi + 1) dep (D.map fun x => zw (1 - x)) := by
  obtain ⟨hle, h⟩ := h
  refine ⟨by omega, fun z e n M he h1 h2 h3 => ?_⟩
  rcases h z e n M he h1 h2 h3 with ⟨v, M', c1, c2, c3, c4⟩ | ⟨c1, M', c2, c3⟩
  · left
    refine ⟨zw (1 - v), zup M' 109 n (zw (1 - v)), by rw [c1]; rfl, ?_, zup_hit, rsf_trans c4 (rsf_zup (Nat.le_refl _))⟩
    rw [c2, t_code (t := 10) (v := 0) hhi hto (by omega) (by omega) (by rw [c4.1 104 (by omega), h1, hst]), if_neg (by omega), e_M_comesTo_95, nT (by omega), zn1 (by omega), gI_ok (by omega) (by omega), gI_ok (by omega) (by omega), Int.toNat_natCast, c3, e_M_comesTo_232]
  · right
    exact ⟨by rw [c1]; rfl, M', c2, c3⟩
theorem segR_bin {to lo mid hi d1 d2 dep t : Nat} {st tl : Row} {D1 D2 : Option Int} (hhi : hi < to) (hto : to ≤ 220) (ht2 : 2 ≤ t) (ht9 : t ≤ 9) (hst : st hi = ((1048576 * t : Nat) : Int)) (h1 : segR st tl to lo mid d1 D1) (h2 : segR st tl to mid hi d2 D2) (hd1 : d1 ≤ dep) (hd2 : d2 + 1 ≤ dep) (hd3 : 2 ≤ dep) : segR st tl to lo (hi + 1) dep (D1.bind fun x => D2.bind fun y => rck t x y) := by
  obtain ⟨l1, h1⟩ := h1
  obtain ⟨l2, h2⟩ := h2
  refine ⟨by omega, fun z e n M he g1 g2 g3 => ?_⟩
  rcases h1 z e n M he g1 g2 (by omega) with ⟨x, M1, c1, c2, c3, c4⟩ | ⟨c1, M1, c2, c3⟩
  · rcases h2 z e (n + 1) M1 he (by rw [c4.1 104 (by omega)]; exact g1) (by rw [c4.1 110 (by omega)]; exact g2) (by omega) with ⟨y, M2, k1, k2, k3, k4⟩ | ⟨k1, M2, k2, k3⟩
    · have hx : M2 109 n = x := by rw [k4.2 n (by omega)]; exact c3
      have hfr : rsf n M M2 := rsf_trans c4 (rsf_le k4 (by omega))
      have hstart : f_M_comesTo_16 z e (to : Int) (n : Int) 0 (lo : Int) M = f_M_comesTo_95 z e (to : Int) ((n + 1 + 1 : Nat) : Int) 0 ((hi + 1 : Nat) : Int) (t : Int) 0 M2 := by
        rw [c2, k2, t_code (t := t) (v := 0) hhi hto (by omega) (by omega) (by rw [k4.1 104 (by omega), c4.1 104 (by omega), g1, hst]; rfl), if_neg (by omega)]
        rfl
      have h205 : ∀ v, rck t x y = some v → f_M_comesTo_205 z e (to : Int) ((n + 1 : Nat) : Int) 0 ((hi + 1 : Nat) : Int) (t : Int) M2 = f_M_comesTo_16 z e (to : Int) ((n + 1 : Nat) : Int) 0 ((hi + 1 : Nat) : Int) (zup M2 109 n v) := by
        intro v hv
        rw [e_M_comesTo_205, zn1 (by omega), gI_ok (by omega) (by omega), gI_ok (by omega) (by omega), Int.toNat_natCast, Int.toNat_natCast, hx, k3, t_reckon (by omega) ht2 ht9 hv]
        simp -implicitDefEqProofs only [ob]
        rw [gI_ok (by omega) (by omega), e_M_comesTo_232]
      have h194 : (t = 5 ∨ t = 6) → y = 0 → f_M_comesTo_194 z e (to : Int) ((n + 1 : Nat) : Int) 0 ((hi + 1 : Nat) : Int) (t : Int) M2 = some (0, M2) := by
        intro _ hy
        rw [e_M_comesTo_194, gI_ok (by omega) (by omega), Int.toNat_natCast, k3, nT hy]
      have h194' : y ≠ 0 → f_M_comesTo_194 z e (to : Int) ((n + 1 : Nat) : Int) 0 ((hi + 1 : Nat) : Int) (t : Int) M2 = f_M_comesTo_205 z e (to : Int) ((n + 1 : Nat) : Int) 0 ((hi + 1 : Nat) : Int) (t : Int) M2 := by
        intro hy
        rw [e_M_comesTo_194, gI_ok (by omega) (by omega), Int.toNat_natCast, k3, nF hy]
      have h95 : f_M_comesTo_95 z e (to : Int) ((n + 1 + 1 : Nat) : Int) 0 ((hi + 1 : Nat) : Int) (t : Int) 0 M2 = if t = 5 ∨ t = 6 then f_M_comesTo_194 z e (to : Int) ((n + 1 : Nat) : Int) 0 ((hi + 1 : Nat) : Int) (t : Int) M2 else f_M_comesTo_205 z e (to : Int) ((n + 1 : Nat) : Int) 0 ((hi + 1 : Nat) : Int) (t : Int) M2 := by
        rw [e_M_comesTo_95, nF (by omega), cF (by omega), nF (by omega), zn1 (n := n + 1) (by omega)]
        by_cases h5 : t = 5
        · rw [cT (by omega), if_pos (Or.inl h5)]
        · by_cases h6 : t = 6
          · rw [cF (by omega), nT (by omega), if_pos (Or.inr h6)]
          · rw [cF (by omega), nF (by omega), if_neg (by omega)]
      cases hrc : rck t x y with
      | some v =>
        left
        refine ⟨v, zup M2 109 n v, by rw [c1, k1]; exact hrc, ?_, zup_hit, rsf_trans hfr (rsf_zup (Nat.le_refl _))⟩
        rw [hstart, h95]
        by_cases h56 : t = 5 ∨ t = 6
        · have hy : y ≠ 0 := by
            intro hy
            rcases h56 with h | h <;> subst h <;> unfold rck at hrc <;> simp [hy] at hrc
          rw [if_pos h56, h194' hy, h205 v hrc]
        · rw [if_neg h56, h205 v hrc]
      | none =>
        right
        refine ⟨by rw [c1, k1]; exact hrc, M2, ?_, hfr⟩
        have h56 : (t = 5 ∨ t = 6) ∧ y = 0 := by
          unfold rck at hrc
          by_cases h5 : t = 5
          · subst h5
            simp at hrc
            exact ⟨Or.inl rfl, hrc⟩
          · by_cases h6 : t = 6
            · subst h6
              simp at hrc
              exact ⟨Or.inr rfl, hrc⟩
            · exfalso
              simp only [h5, h6, if_false] at hrc
              split at hrc
              · cases hrc
              · split at hrc
                · cases hrc
                · split at hrc
                  · cases hrc
                  · split at hrc
                    · cases hrc
                    · split at hrc <;> cases hrc
        rw [hstart, h95, if_pos h56.1, h194 h56.1 h56.2]
    · right
      exact ⟨by rw [c1, k1]; rfl, M2, by rw [c2, k2], rsf_trans c4 (rsf_le k3 (by omega))⟩
  · right
    exact ⟨by rw [c1]; rfl, M1, c2, c3⟩
