/-! stretches of the class's steps, and what they come to -/
def lfr (o : Nat) (M M' : Mu) : Prop := (∀ a, a ≠ o → a ≠ o + 5 → M' a = M a) ∧ ∀ k, k ≠ 7 → k ≠ 8 → M' o k = M o k
theorem lfr_refl (o : Nat) (M : Mu) : lfr o M M := ⟨fun _ _ _ => rfl, fun _ _ _ => rfl⟩
theorem lfr_trans {o : Nat} {A B C : Mu} (h1 : lfr o A B) (h2 : lfr o B C) : lfr o A C := ⟨fun a p q => by rw [h2.1 a p q, h1.1 a p q], fun k p q => by rw [h2.2 k p q, h1.2 k p q]⟩
theorem lfr_psh {o q : Nat} {v : Int} {M : Mu} : lfr o M (psh M o q v) := by
  refine ⟨fun a p r => ?_, fun k p r => ?_⟩
  · unfold psh; rw [zup_ro p, zup_ro r]
  · unfold psh; rw [zup_nk p, zup_ro (by omega)]
theorem lfr_pp {o q : Nat} {M : Mu} : lfr o M (pp M o q) := by
  refine ⟨fun a p r => ?_, fun k p r => ?_⟩
  · unfold pp; rw [zup_ro p]
  · unfold pp; rw [zup_nk p]
theorem lfr_8 {o : Nat} {v : Int} {M : Mu} : lfr o M (zup M o 8 v) := ⟨fun a p _ => zup_ro p, fun k _ r => zup_nk r⟩
/-- a value lies at q, and nothing below has changed -/
def rl (o q : Nat) (v : Int) (M M' : Mu) : Prop := lfr o M M' ∧ M' o 7 = ((q + 1 : Nat) : Int) ∧ M' o 8 = 0 ∧ M' (o + 5) q = v ∧ ∀ j, j < q → M' (o + 5) j = M (o + 5) j
theorem rl_lst {o q sz : Nat} {v : Int} {M M' : Mu} (h : rl o q v M M') (hs : M o 5 = (sz : Int)) : lst M' o sz (q + 1) := ⟨by rw [h.1.2 5 (by omega) (by omega)]; exact hs, h.2.1, h.2.2.1⟩
theorem psh_o {o q : Nat} {v : Int} {M : Mu} : psh M o q v o 7 = ((q + 1 : Nat) : Int) := by unfold psh; exact zup_hit
theorem psh_8 {o q : Nat} {v : Int} {M : Mu} : psh M o q v o 8 = M o 8 := by unfold psh; rw [zup_nk (by omega), zup_ro (by omega)]
theorem psh_s {o q : Nat} {v : Int} {M : Mu} : psh M o q v (o + 5) q = v := by unfold psh; rw [zup_ro (by omega)]; exact zup_hit
theorem psh_j {o q j : Nat} {v : Int} {M : Mu} (h : j ≠ q) : psh M o q v (o + 5) j = M (o + 5) j := by unfold psh; rw [zup_ro (by omega), zup_nk h]
theorem pp_s {o q : Nat} {M : Mu} : pp M o q (o + 5) = M (o + 5) := by unfold pp; rw [zup_ro (by omega)]
theorem pp_7 {o q : Nat} {M : Mu} : pp M o q o 7 = (q : Int) := by unfold pp; exact zup_hit
theorem pp_8 {o q : Nat} {M : Mu} : pp M o q o 8 = M o 8 := by unfold pp; exact zup_nk (by omega)
theorem rl_psh {o q : Nat} {v : Int} {M : Mu} (h8 : M o 8 = 0) : rl o q v M (psh M o q v) := ⟨lfr_psh, psh_o, by rw [psh_8]; exact h8, psh_s, fun j hj => psh_j (by omega)⟩
def segC (o : Nat) (st tl : Row) (sz lo hi dep : Nat) (D : Option Int) : Prop := lo ≤ hi ∧ ∀ (z : zZ) (e i q : Nat) (M : Mu), 4 ≤ e → M (o + 4) = st → M 53 = tl → lst M o sz q → q + dep ≤ 64 → i + (hi - lo) ≤ 256 → (∃ v i' M', D = some v ∧ f_Law_run_15 z e o 53 (lo : Int) (i : Int) M = f_Law_run_15 z e o 53 (hi : Int) ((i' : Nat) : Int) M' ∧ i' ≤ i + (hi - lo) ∧ rl o q v M M') ∨ (D = none ∧ ∃ M', f_Law_run_15 z e o 53 (lo : Int) (i : Int) M = some (0, M') ∧ lfr o M M')
theorem s_run76 {z : zZ} {e o i k v : Nat} {pc : Int} {M M' : Mu} (ho : isLw o) (hi : i < 256) (h4 : k ≠ 4) (h5 : k ≠ 5) (h : mC z e 90 [(2, (o : Int)), (0, (k : Int)), (0, (v : Int)), (2, 53)] M = some (0, M')) : f_Law_run_76 z e o 53 pc (i : Int) (k : Int) (v : Int) M = f_Law_run_15 z e o 53 pc ((i + 1 : Nat) : Int) M' := by
  rw [e_Law_run_76 _ _ _ _ _ _ _ _ _ ho, cF (by omega), nF (by omega), h]
  simp -implicitDefEqProofs only [ob]
  rw [e_Law_run_151 _ _ _ _ _ _ _ ho, zwc (by omega)]
theorem segC_num {o sz lo v : Nat} {st tl : Row} (ho : isLw o) (hlo : lo < sz) (hsz : sz ≤ 256) (hv : v < 100000000) (hst : st lo = ((1 + 16 * v : Nat) : Int)) : segC o st tl sz lo (lo + 1) 1 (some (v : Int)) := by
  refine ⟨by omega, fun z e i q M he h1 h2 h3 h4 h5 => Or.inl ⟨(v : Int), i + 1, psh M o q (v : Int), rfl, ?_, by omega, rl_psh h3.2.2⟩⟩
  obtain ⟨e', rfl, he'⟩ := pred_of he
  rw [s_run1 (k := 1) (v := v) ho h3 hlo hsz (by omega) (by omega) (by omega) hv (by rw [h1]; exact hst), s_run76 (k := 1) ho (by omega) (by omega) (by omega)]
  rw [c_Law_step _ _ _ _ _ _ _ ho, nT (by omega), s_push (by omega) ho h3.2.1 (by omega)]
  simp -implicitDefEqProofs only [ob]
  rw [e_Law_step_10 _ _ _ _ _ _ _ ho, e_Law_step_84]
theorem segC_told {o sz lo v : Nat} {st tl : Row} (ho : isLw o) (hlo : lo < sz) (hsz : sz ≤ 256) (hv : v < 10) (hst : st lo = ((2 + 16 * v : Nat) : Int)) : segC o st tl sz lo (lo + 1) 1 (some (tl v)) := by
  refine ⟨by omega, fun z e i q M he h1 h2 h3 h4 h5 => Or.inl ⟨tl v, i + 1, psh M o q (tl v), rfl, ?_, by omega, rl_psh h3.2.2⟩⟩
  obtain ⟨e', rfl, he'⟩ := pred_of he
  rw [s_run1 (k := 2) (v := v) ho h3 hlo hsz (by omega) (by omega) (by omega) (by omega) (by rw [h1]; exact hst), s_run76 (k := 2) ho (by omega) (by omega) (by omega)]
  have hk := gKi (A := bif decide (zlen (53 : Int) ≤ (v : Int)) then f_Law_step_31 z e' o M else gA 53 (v : Int) (f_Law_step_32 z e' o (M 53 v) M)) ia53
  have hg := gAi (a := 53) (n := 10) (i := v) (A := f_Law_step_32 z e' o (M 53 v) M) ia53 hv
  have hl : zlen (53 : Int) = 10 := ia53.2
  simp -implicitDefEqProofs only [Int.cast_ofNat_Int] at hk hg
  rw [c_Law_step _ _ _ _ _ _ _ ho, nF (by omega), nT (by omega)]
  simp -implicitDefEqProofs only [Int.toNat_natCast]
  have e53 : (53 : Int).toNat = 53 := rfl
  rw [e53, hk, hl, cF (by omega), hg, e_Law_step_32 _ _ _ _ _ ho, h2, s_push (by omega) ho h3.2.1 (by omega)]
  simp -implicitDefEqProofs only [ob]
  rw [e_Law_step_84]
theorem segC_not {o sz lo hi dep : Nat} {st tl : Row} {D : Option Int} (ho : isLw o) (hhi : hi < sz) (hsz : sz ≤ 256) (hst : st hi = 3) (h : segC o st tl sz lo hi dep D) (hd1 : 1 ≤ dep) : segC o st tl sz lo (hi + 1) dep (D.map fun x => zw (1 - x)) := by
  obtain ⟨hle, h⟩ := h
  refine ⟨by omega, fun z e i q M he h1 h2 h3 h4 h5 => ?_⟩
  rcases h z e i q M he h1 h2 h3 (by omega) (by omega) with ⟨v, i', M', c1, c2, c3, c4⟩ | ⟨c1, M', c2, c3⟩
  · left
    have hs' := rl_lst c4 h3.1
    refine ⟨zw (1 - v), i' + 1, psh (pp M' o q) o q (zw (1 - v)), by rw [c1]; rfl, ?_, by omega, ?_⟩
    · obtain ⟨e', rfl, he'⟩ := pred_of he
      have hr : o + 4 ≠ o := by omega
      rw [c2, s_run1 (k := 3) (v := 0) ho hs' hhi hsz (by omega) (by omega) (by omega) (by omega) (by rw [c4.1.1 (o + 4) (by omega) (by omega), h1]; exact hst), s_run76 (k := 3) ho (by omega) (by omega) (by omega)]
      rw [c_Law_step _ _ _ _ _ _ _ ho, nF (by omega), nF (by omega), nT (by omega), s_pop (by omega) ho hs'.2.1 (by omega), c4.2.2.2.1]
      simp -implicitDefEqProofs only [ob]
      rw [s_push (by omega) ho pp_7 (by omega)]
      simp -implicitDefEqProofs only [ob]
      rw [e_Law_step_84]
    · refine ⟨lfr_trans c4.1 (lfr_trans lfr_pp lfr_psh), psh_o, by rw [psh_8, pp_8]; exact c4.2.2.1, psh_s, fun j hj => ?_⟩
      rw [psh_j (by omega), pp_s, c4.2.2.2.2 j hj]
  · right
    exact ⟨by rw [c1]; rfl, M', c2, c3⟩
theorem segC_bin {o sz lo mid hi d1 d2 dep t : Nat} {st tl : Row} {D1 D2 : Option Int} (ho : isLw o) (hhi : hi < sz) (hsz : sz ≤ 256) (ht2 : 2 ≤ t) (ht9 : t ≤ 9) (hst : st hi = ((t + 4 : Nat) : Int)) (h1 : segC o st tl sz lo mid d1 D1) (h2 : segC o st tl sz mid hi d2 D2) (hd1 : d1 ≤ dep) (hd2 : d2 + 1 ≤ dep) (hd3 : 2 ≤ dep) : segC o st tl sz lo (hi + 1) dep (D1.bind fun x => D2.bind fun y => rck t x y) := by
  obtain ⟨l1, h1⟩ := h1
  obtain ⟨l2, h2⟩ := h2
  refine ⟨by omega, fun z e i q M he g1 g2 g3 g4 g5 => ?_⟩
  rcases h1 z e i q M he g1 g2 g3 (by omega) (by omega) with ⟨x, i1, M1, c1, c2, c3, c4⟩ | ⟨c1, M1, c2, c3⟩
  · have s1 := rl_lst c4 g3.1
    rcases h2 z e i1 (q + 1) M1 he (by rw [c4.1.1 (o + 4) (by omega) (by omega)]; exact g1) (by rw [c4.1.1 53 (by rcases ho with h | h <;> omega) (by rcases ho with h | h <;> omega)]; exact g2) s1 (by omega) (by omega) with ⟨y, i2, M2, k1, k2, k3, k4⟩ | ⟨k1, M2, k2, k3⟩
    · have s2 := rl_lst k4 s1.1
      have hx : M2 (o + 5) q = x := by rw [k4.2.2.2.2 q (by omega)]; exact c4.2.2.2.1
      have hstep : ∀ (v : Int) (K : Mu), K o 7 = (q : Int) → (∀ e', 1 ≤ e' → mC z e' 91 [(2, (o : Int)), (0, ((t : Int) - 2)), (0, x), (0, y)] (pp (pp M2 o (q + 1)) o q) = some (v, K)) → f_Law_run_15 z e o 53 (lo : Int) (i : Int) M = f_Law_run_15 z e o 53 ((hi + 1 : Nat) : Int) ((i2 + 1 : Nat) : Int) (psh K o q v) := by
        intro v K hK hrec
        obtain ⟨e', rfl, he'⟩ := pred_of he
        rw [c2, k2, s_run1 (k := t + 4) (v := 0) ho s2 hhi hsz (by omega) (by omega) (by omega) (by omega) (by rw [k4.1.1 (o + 4) (by omega) (by omega), c4.1.1 (o + 4) (by omega) (by omega), g1, hst]), s_run76 (k := t + 4) ho (by omega) (by omega) (by omega)]
        rw [c_Law_step _ _ _ _ _ _ _ ho, nF (by omega), nF (by omega), nF (by omega), s_pop (q := q + 1) (by omega) ho s2.2.1 (by omega), k4.2.2.2.1]
        simp -implicitDefEqProofs only [ob]
        rw [s_pop (q := q) (by omega) ho pp_7 (by omega), pp_s, hx]
        simp -implicitDefEqProofs only [ob]
        rw [show zw (((t + 4 : Nat) : Int) - 6) = (t : Int) - 2 by rw [zw_id (by omega) (by omega)]; omega, hrec e' (by omega)]
        simp -implicitDefEqProofs only [ob]
        rw [s_push (by omega) ho hK (by omega)]
        simp -implicitDefEqProofs only [ob]
        rw [e_Law_step_84]
      cases hrc : rck t x y with
      | some v =>
        left
        refine ⟨v, i2 + 1, psh (pp (pp M2 o (q + 1)) o q) o q v, by rw [c1, k1]; exact hrc, hstep v (pp (pp M2 o (q + 1)) o q) pp_7 (fun e' he' => by rw [s_reckon he' ho ht2 ht9, hrc]), by omega, ?_⟩
        refine ⟨lfr_trans c4.1 (lfr_trans k4.1 (lfr_trans lfr_pp (lfr_trans lfr_pp lfr_psh))), psh_o, by rw [psh_8, pp_8, pp_8]; exact k4.2.2.1, psh_s, fun j hj => ?_⟩
        rw [psh_j (by omega), pp_s, pp_s, k4.2.2.2.2 j (by omega), c4.2.2.2.2 j hj]
      | none =>
        right
        refine ⟨by rw [c1, k1]; exact hrc, psh (zup (pp (pp M2 o (q + 1)) o q) o 8 1) o q 0, ?_, lfr_trans c4.1 (lfr_trans k4.1 (lfr_trans lfr_pp (lfr_trans lfr_pp (lfr_trans lfr_8 lfr_psh))))⟩
        rw [hstep 0 (zup (pp (pp M2 o (q + 1)) o q) o 8 1) (by rw [zup_nk (by omega)]; exact pp_7) (fun e' he' => by rw [s_reckon he' ho ht2 ht9, hrc]), e_Law_run_15 _ _ _ _ _ _ _ ho]
        have hz8 : psh (zup (pp (pp M2 o (q + 1)) o q) o 8 1) o q 0 o 8 = 1 := by rw [psh_8]; exact zup_hit
        by_cases ha : (256 : Int) ≤ ((i2 + 1 : Nat) : Int)
        · rw [cT ha, e_Law_run_157]
        · rw [cF ha, cF (by omega)]
          by_cases hb : psh (zup (pp (pp M2 o (q + 1)) o q) o 8 1) o q 0 o 5 ≤ ((hi + 1 : Nat) : Int)
          · rw [cT hb, e_Law_run_157]
          · rw [cF hb, nF (by rw [hz8]; omega), e_Law_run_157]
    · right
      exact ⟨by rw [c1, k1]; rfl, M2, by rw [c2, k2], lfr_trans c4.1 k3⟩
  · right
    exact ⟨by rw [c1]; rfl, M1, c2, c3⟩
/-- a jump: with the value on top, on to an aim, or the value goes -/
theorem s_runJ {z : zZ} {e o sz q pc i k v : Nat} {M : Mu} (he : 2 ≤ e) (ho : isLw o) (hs : lst M o sz (q + 1)) (hq : q < 64) (hpc : pc < sz) (hsz : sz ≤ 256) (hi : i < 256) (hk : k = 4 ∨ k = 5) (hv : v < 100000000) (hst : M (o + 4) pc = ((k + 16 * v : Nat) : Int)) : f_Law_run_15 z e o 53 (pc : Int) (i : Int) M = if (M (o + 5) q ≠ 0 ↔ k = 4) then f_Law_run_15 z e o 53 (v : Int) ((i + 1 : Nat) : Int) (psh (pp M o q) o q (M (o + 5) q)) else f_Law_run_15 z e o 53 ((pc + 1 : Nat) : Int) ((i + 1 : Nat) : Int) (pp M o q) := by
  have hn : zw ((i : Int) + 1) = ((i + 1 : Nat) : Int) := zwc (by omega)
  rw [s_run1 ho hs hpc hsz hi (by omega) (by omega) hv hst, e_Law_run_76 _ _ _ _ _ _ _ _ _ ho]
  have h88 : f_Law_run_88 z e o 53 ((pc + 1 : Nat) : Int) (i : Int) (k : Int) (v : Int) M = if (M (o + 5) q ≠ 0 ↔ k = 4) then f_Law_run_15 z e o 53 (v : Int) ((i + 1 : Nat) : Int) (psh (pp M o q) o q (M (o + 5) q)) else f_Law_run_15 z e o 53 ((pc + 1 : Nat) : Int) ((i + 1 : Nat) : Int) (pp M o q) := by
    rw [e_Law_run_88 _ _ _ _ _ _ _ _ _ ho, s_pop (by omega) ho hs.2.1 hq]
    simp -implicitDefEqProofs only [ob]
    have hjump : ∀ a : Int, f_Law_run_123 z e o 53 ((pc + 1 : Nat) : Int) (i : Int) (v : Int) (M (o + 5) q) 1 (pp M o q) = f_Law_run_15 z e o 53 (v : Int) ((i + 1 : Nat) : Int) (psh (pp M o q) o q (M (o + 5) q)) := by
      intro a
      rw [e_Law_run_123 _ _ _ _ _ _ _ _ _ _ ho, cF (by omega), s_push (by omega) ho pp_7 hq]
      simp -implicitDefEqProofs only [ob]
      rw [e_Law_run_139 _ _ _ _ _ _ _ ho, e_Law_run_151 _ _ _ _ _ _ _ ho, hn]
    have hstay : f_Law_run_123 z e o 53 ((pc + 1 : Nat) : Int) (i : Int) (v : Int) (M (o + 5) q) 0 (pp M o q) = f_Law_run_15 z e o 53 ((pc + 1 : Nat) : Int) ((i + 1 : Nat) : Int) (pp M o q) := by
      rw [e_Law_run_123 _ _ _ _ _ _ _ _ _ _ ho, cT rfl, e_Law_run_139 _ _ _ _ _ _ _ ho, e_Law_run_151 _ _ _ _ _ _ _ ho, hn]
    by_cases hx : M (o + 5) q = 0
    · rw [cT hx, e_Law_run_104 _ _ _ _ _ _ _ _ _ _ _ ho]
      rcases hk with hk | hk
      · subst hk
        rw [nT (by omega), e_Law_run_115 _ _ _ _ _ _ _ _ _ _ _ ho, nF (by omega), hstay, if_neg (by simp [hx])]
      · subst hk
        rw [nF (by omega), e_Law_run_115 _ _ _ _ _ _ _ _ _ _ _ ho, nT rfl, hjump 0, if_pos (by simp [hx])]
    · rw [cF hx, e_Law_run_104 _ _ _ _ _ _ _ _ _ _ _ ho]
      rcases hk with hk | hk
      · subst hk
        rw [nT (by omega), e_Law_run_115 _ _ _ _ _ _ _ _ _ _ _ ho, nT rfl, hjump 0, if_pos (by simp [hx])]
      · subst hk
        rw [nF (by omega), e_Law_run_115 _ _ _ _ _ _ _ _ _ _ _ ho, nF (by omega), hstay, if_neg (by simp [hx])]
  rcases hk with hk | hk
  · subst hk
    rw [cT (by omega)]
    exact h88
  · subst hk
    rw [cF (by omega), nT (by omega)]
    exact h88
