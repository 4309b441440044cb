/-! the law as steps: the class's small machine, one step at a time -/
def isLw (o : Nat) : Prop := o = 41 ∨ o = 47
def psh (μ : Mu) (o q : Nat) (v : Int) : Mu := zup (zup μ (o + 5) q v) o 7 ((q + 1 : Nat) : Int)
def pp (μ : Mu) (o q : Nat) : Mu := zup μ o 7 (q : Int)
theorem s_push {z : zZ} {d o q : Nat} {v : Int} {μ : Mu} (hd : 1 ≤ d) (ho : isLw o) (hq : μ o 7 = (q : Int)) (h64 : q < 64) : mC z d 89 [(2, (o : Int)), (0, v)] μ = some (0, psh μ o q v) := by
  obtain ⟨e, rfl, he⟩ := pred_of hd
  rw [c_Law_push _ _ _ _ _ ho, hq, cF (by omega), cF (by omega), gI_ok (by omega) (by omega), Int.toNat_natCast, zwc (by omega), e_Law_push_39]
  rfl
theorem s_pop {z : zZ} {d o q : Nat} {μ : Mu} (hd : 1 ≤ d) (ho : isLw o) (hq : μ o 7 = ((q + 1 : Nat) : Int)) (h64 : q < 64) : mC z d 88 [(2, (o : Int))] μ = some (μ (o + 5) q, pp μ o q) := by
  obtain ⟨e, rfl, he⟩ := pred_of hd
  have e1 : zw (((q + 1 : Nat) : Int) - 1) = (q : Int) := by rw [zw_id (by omega) (by omega)]; omega
  rw [c_Law_pop _ _ _ _ ho, hq, cF (by omega), cT (by omega), e1, gI_ok (by omega) (by omega), Int.toNat_natCast]
  rfl
def rck (t : Nat) (x y : Int) : Option Int := if t = 2 then some (zw (x + y)) else if t = 3 then some (zw (x - y)) else if t = 4 then some (zw (x * y)) else if t = 5 then (if y = 0 then none else some (z_div x y)) else if t = 6 then (if y = 0 then none else some (z_rem x y)) else if t = 7 then some (if x < y then 1 else 0) else if t = 8 then some (if y < x then 1 else 0) else some (if x = y then 1 else 0)
theorem s_reckon {z : zZ} {d o t : Nat} {x y : Int} {μ : Mu} (hd : 1 ≤ d) (ho : isLw o) (h2 : 2 ≤ t) (h9 : t ≤ 9) : mC z d 91 [(2, (o : Int)), (0, ((t : Int) - 2)), (0, x), (0, y)] μ = some (match rck t x y with | some v => (v, μ) | none => (0, zup μ o 8 1)) := by
  obtain ⟨e, rfl, he⟩ := pred_of hd
  rw [c_Law_reckon _ _ _ _ _ _ _ ho]
  by_cases c2 : t = 2
  · subst c2; rw [cT (by omega), e_Law_reckon_44]; rfl
  · by_cases c3 : t = 3
    · subst c3; rw [cF (by omega), cT (by omega), e_Law_reckon_48]; rfl
    · by_cases c4 : t = 4
      · subst c4; rw [cF (by omega), cF (by omega), cT (by omega), e_Law_reckon_52]; rfl
      · by_cases c5 : t = 5
        · subst c5
          rw [cF (by omega), cF (by omega), cF (by omega), cT (by omega), e_Law_reckon_56 _ _ _ _ _ _ _ ho]
          by_cases hy : y = 0
          · have e1 : rck 5 x y = none := by unfold rck; simp [hy]
            rw [nT hy, e1]
          · have e1 : rck 5 x y = some (z_div x y) := by unfold rck; simp [hy]
            rw [nF hy, nT (by omega), gN_ok hy, e_Law_reckon_81, e1]
        · by_cases c6 : t = 6
          · subst c6
            rw [cF (by omega), cF (by omega), cF (by omega), cF (by omega), cT (by omega), e_Law_reckon_56 _ _ _ _ _ _ _ ho]
            by_cases hy : y = 0
            · have e1 : rck 6 x y = none := by unfold rck; simp [hy]
              rw [nT hy, e1]
            · have e1 : rck 6 x y = some (z_rem x y) := by unfold rck; simp [hy]
              rw [nF hy, nF (by omega), gN_ok hy, e_Law_reckon_81, e1]
          · by_cases c7 : t = 7
            · subst c7
              have e1 : rck 7 x y = some (if x < y then 1 else 0) := rfl
              rw [cF (by omega), cF (by omega), cF (by omega), cF (by omega), cF (by omega), cT (by omega), e_Law_reckon_82, e1]
              by_cases h : x < y
              · rw [cF (by omega), e_Law_reckon_92, if_pos h]
              · rw [cT (by omega), e_Law_reckon_92, if_neg h]
            · by_cases c8 : t = 8
              · subst c8
                have e1 : rck 8 x y = some (if y < x then 1 else 0) := rfl
                rw [cF (by omega), cF (by omega), cF (by omega), cF (by omega), cF (by omega), cF (by omega), cT (by omega), e_Law_reckon_93, e1]
                by_cases h : y < x
                · rw [cF (by omega), e_Law_reckon_103, if_pos h]
                · rw [cT (by omega), e_Law_reckon_103, if_neg h]
              · have c9 : t = 9 := by omega
                subst c9
                have e1 : rck 9 x y = some (if x = y then 1 else 0) := rfl
                rw [cF (by omega), cF (by omega), cF (by omega), cF (by omega), cF (by omega), cF (by omega), cF (by omega), e_Law_reckon_104, e1]
                by_cases h : x = y
                · rw [nT h, e_Law_reckon_114, if_pos h]
                · rw [nF h, e_Law_reckon_114, if_neg h]
theorem t_reckon {z : zZ} {d t : Nat} {x y v : Int} {μ : Mu} (hd : 1 ≤ d) (h2 : 2 ≤ t) (h9 : t ≤ 9) (hv : rck t x y = some v) : mC z d 250 [(0, (t : Int)), (0, x), (0, y)] μ = some (v, μ) := by
  obtain ⟨e, rfl, he⟩ := pred_of hd
  rw [c_M_reckon]
  by_cases c2 : t = 2
  · subst c2; rw [cT (by omega), e_M_reckon_44]; exact congrArg (fun q => q.map (fun w => (w, μ))) hv
  · by_cases c3 : t = 3
    · subst c3; rw [cF (by omega), cT (by omega), e_M_reckon_48]; exact congrArg (fun q => q.map (fun w => (w, μ))) hv
    · by_cases c4 : t = 4
      · subst c4; rw [cF (by omega), cF (by omega), cT (by omega), e_M_reckon_52]; exact congrArg (fun q => q.map (fun w => (w, μ))) hv
      · by_cases c5 : t = 5
        · subst c5
          have hy : y ≠ 0 := by
            intro hy
            unfold rck at hv
            simp [hy] at hv
          have e1 : rck 5 x y = some (z_div x y) := by unfold rck; simp [hy]
          rw [e1] at hv
          rw [cF (by omega), cF (by omega), cF (by omega), cT (by omega), e_M_reckon_56, gN_ok hy]
          exact congrArg (fun q => q.map (fun w => (w, μ))) hv
        · by_cases c6 : t = 6
          · subst c6
            have hy : y ≠ 0 := by
              intro hy
              unfold rck at hv
              simp [hy] at hv
            have e1 : rck 6 x y = some (z_rem x y) := by unfold rck; simp [hy]
            rw [e1] at hv
            rw [cF (by omega), cF (by omega), cF (by omega), cF (by omega), cT (by omega), e_M_reckon_60, gN_ok hy]
            exact congrArg (fun q => q.map (fun w => (w, μ))) hv
          · by_cases c7 : t = 7
            · subst c7
              have e1 : rck 7 x y = some (if x < y then 1 else 0) := rfl
              rw [e1] at hv
              rw [cF (by omega), cF (by omega), cF (by omega), cF (by omega), cF (by omega), cT (by omega), e_M_reckon_64]
              by_cases h : x < y
              · rw [if_pos h] at hv
                rw [cF (by omega), e_M_reckon_74]
                exact congrArg (fun q => q.map (fun w => (w, μ))) hv
              · rw [if_neg h] at hv
                rw [cT (by omega), e_M_reckon_74]
                exact congrArg (fun q => q.map (fun w => (w, μ))) hv
            · by_cases c8 : t = 8
              · subst c8
                have e1 : rck 8 x y = some (if y < x then 1 else 0) := rfl
                rw [e1] at hv
                rw [cF (by omega), cF (by omega), cF (by omega), cF (by omega), cF (by omega), cF (by omega), cT (by omega), e_M_reckon_75]
                by_cases h : y < x
                · rw [if_pos h] at hv
                  rw [cF (by omega), e_M_reckon_85]
                  exact congrArg (fun q => q.map (fun w => (w, μ))) hv
                · rw [if_neg h] at hv
                  rw [cT (by omega), e_M_reckon_85]
                  exact congrArg (fun q => q.map (fun w => (w, μ))) hv
              · have c9 : t = 9 := by omega
                subst c9
                have e1 : rck 9 x y = some (if x = y then 1 else 0) := rfl
                rw [e1] at hv
                rw [cF (by omega), cF (by omega), cF (by omega), cF (by omega), cF (by omega), cF (by omega), cF (by omega), e_M_reckon_86]
                by_cases h : x = y
                · rw [if_pos h] at hv
                  rw [nT h, e_M_reckon_96]
                  exact congrArg (fun q => q.map (fun w => (w, μ))) hv
                · rw [if_neg h] at hv
                  rw [nF h, e_M_reckon_96]
                  exact congrArg (fun q => q.map (fun w => (w, μ))) hv
/-- a step is its kind and its number -/
theorem stp_kind {k v : Nat} (hk : k < 16) (hv : v < 100000000) : z_and ((k + 16 * v : Nat) : Int) 15 = (k : Int) := by
  have hm := z_and_mask (a := ((k + 16 * v : Nat) : Int)) (n := 4) (by omega)
  rw [show ((2 ^ 4 - 1 : Nat) : Int) = 15 from rfl, show (2 : Int) ^ 4 = 16 from rfl] at hm
  rw [hm]
  omega
theorem stp_num {k v : Nat} (hk : k < 16) (hv : v < 100000000) : z_ushr ((k + 16 * v : Nat) : Int) 4 = (v : Int) := by
  have := z_ushr_nat (a := ((k + 16 * v : Nat) : Int)) (k := 4) (by omega) (by omega)
  simp only [Int.cast_ofNat_Int] at this
  rw [this, show (2 : Int) ^ 4 = 16 from rfl]
  omega
/-- the state of the class's law machine before a step -/
def lst (M : Mu) (o sz q : Nat) : Prop := M o 5 = (sz : Int) ∧ M o 7 = (q : Int) ∧ M o 8 = 0
theorem s_run1 {z : zZ} {e o sz q pc i k v : Nat} {M : Mu} (ho : isLw o) (hs : lst M o sz q) (hpc : pc < sz) (hsz : sz ≤ 256) (hi : i < 256) (hk : k < 16) (hk0 : k ≠ 0) (hv : v < 100000000) (hst : M (o + 4) pc = ((k + 16 * v : Nat) : Int)) : f_Law_run_15 z e o 53 (pc : Int) (i : Int) M = f_Law_run_76 z e o 53 ((pc + 1 : Nat) : Int) (i : Int) (k : Int) (v : Int) M := by
  rw [e_Law_run_15 _ _ _ _ _ _ _ ho, cF (by omega), cF (by omega), cF (by rw [hs.1]; omega), nT hs.2.2, gI_ok (by omega) (by omega), gI_ok (by omega) (by omega)]
  simp -implicitDefEqProofs only [Int.toNat_natCast, hst]
  rw [stp_kind hk hv, stp_num hk hv, nF (by omega), zwc (by omega)]
theorem s_runE {z : zZ} {e o sz q pc i : Nat} {M : Mu} (he : 1 ≤ e) (ho : isLw o) (hs : lst M o sz (q + 1)) (hq : q < 64) (hpc : pc < sz) (hsz : sz ≤ 256) (hi : i < 256) (hst : M (o + 4) pc = 0) : f_Law_run_15 z e o 53 (pc : Int) (i : Int) M = some (M (o + 5) q, pp M o q) := by
  have h0 := stp_kind (k := 0) (v := 0) (by omega) (by omega)
  rw [e_Law_run_15 _ _ _ _ _ _ _ ho, cF (by omega), cF (by omega), cF (by rw [hs.1]; omega), nT hs.2.2, gI_ok (by omega) (by omega), gI_ok (by omega) (by omega)]
  simp -implicitDefEqProofs only [Int.toNat_natCast, hst]
  have h1 : z_and 0 15 = 0 := h0
  rw [nT h1, s_pop he ho hs.2.1 hq]
  rfl
