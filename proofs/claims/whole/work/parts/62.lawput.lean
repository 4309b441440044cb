/-! putting steps -/
theorem z_put {k v : Nat} (hk : k < 16) (hv : v < 100000000) : z_or (k : Int) (z_shl (v : Int) 4) = ((k + 16 * v : Nat) : Int) := by
  have h1 := z_shl_nat (a := (v : Int)) (k := 4) (by omega)
  simp only [Int.cast_ofNat_Int] at h1
  rw [h1, show (2 : Int) ^ 4 = 16 from rfl, zw_id (by omega) (by omega), show ((v : Int) * 16) = ((16 * v : Nat) : Int) by omega, z_or_nat (by omega) (by omega)]
  have h2 := Nat.two_pow_add_eq_or_of_lt (i := 4) (b := k) (by omega) v
  rw [Nat.or_comm, show 16 * v = 2 ^ 4 * v by omega, ← h2]
  congr 1
  omega
def ptM (μ : Mu) (w q : Nat) (x : Int) : Mu := zup (zup μ (w + 4) q x) w 5 ((q + 1 : Nat) : Int)
theorem s_put {z : zZ} {d w q k v : Nat} {μ : Mu} (hd : 1 ≤ d) (hw : isLw w) (hq : μ w 5 = (q : Int)) (hq2 : q < 256) (hk : k < 16) (hv : v < 100000000) : mC z d 54 [(2, (w : Int)), (0, (k : Int)), (0, (v : Int))] μ = some (0, ptM μ w q ((k + 16 * v : Nat) : Int)) := by
  obtain ⟨e, rfl, he⟩ := pred_of hd
  rw [c_Law_put _ _ _ _ _ _ hw, hq, cF (by omega), gI_ok (by omega) (by omega), Int.toNat_natCast, z_put hk hv, zwc (by omega), e_Law_put_34]
  rfl
/-- rows that putting steps may change, the size staying within its bounds -/
def pfr (w : Nat) (μ M : Mu) : Prop := (∀ a, a ≠ w → a ≠ w + 4 → M a = μ a) ∧ (∀ k, k ≠ 5 → M w k = μ w k) ∧ ∃ q : Nat, q ≤ 256 ∧ M w 5 = (q : Int)
theorem s_put_any {z : zZ} {d w q : Nat} {k v : Int} {μ : Mu} (hd : 1 ≤ d) (hw : isLw w) (hq : μ w 5 = (q : Int)) (hq2 : q ≤ 256) : ∃ M, mC z d 54 [(2, (w : Int)), (0, k), (0, v)] μ = some (0, M) ∧ pfr w μ M := by
  obtain ⟨e, rfl, he⟩ := pred_of hd
  rw [c_Law_put _ _ _ _ _ _ hw, hq]
  by_cases h : q = 256
  · rw [cT (by omega), e_Law_put_34]
    exact ⟨μ, rfl, fun _ _ _ => rfl, fun _ _ => rfl, q, hq2, hq⟩
  · rw [cF (by omega), gI_ok (by omega) (by omega), Int.toNat_natCast, zwc (by omega), e_Law_put_34]
    exact ⟨_, rfl, fun a h1 h2 => by rw [zup_ro h1, zup_ro h2], fun j hj => by rw [zup_nk hj, zup_ro (by omega)], q + 1, by omega, zup_hit⟩
theorem ptM_w5 {μ : Mu} {w q : Nat} {x : Int} : ptM μ w q x w 5 = ((q + 1 : Nat) : Int) := by unfold ptM; exact zup_hit
theorem ptM_st {μ : Mu} {w q : Nat} {x : Int} : ptM μ w q x (w + 4) = rup (μ (w + 4)) q x := by unfold ptM; rw [zup_ro (by omega), zupr, zrow_same]
theorem ptM_fr {μ : Mu} {w q : Nat} {x : Int} (hq : q < 256) : pfr w μ (ptM μ w q x) := ⟨fun a h1 h2 => by unfold ptM; rw [zup_ro h1, zup_ro h2], fun k hk => by unfold ptM; rw [zup_nk hk, zup_ro (by omega)], q + 1, by omega, ptM_w5⟩
theorem pfr_refl {w q : Nat} {μ : Mu} (h : μ w 5 = (q : Int)) (hq : q ≤ 256) : pfr w μ μ := ⟨fun _ _ _ => rfl, fun _ _ => rfl, q, hq, h⟩
theorem pfr_trans {w : Nat} {A B C : Mu} (h1 : pfr w A B) (h2 : pfr w B C) : pfr w A C := ⟨fun a p q => by rw [h2.1 a p q, h1.1 a p q], fun k p => by rw [h2.2.1 k p, h1.2.1 k p], h2.2.2⟩
theorem zpl5 {t : Nat} {c : Int} (h2 : 2 ≤ t) (h : sgs c = t) : zpl 5 c = (t : Int) - 2 := by
  unfold sgs at h
  split at h
  · rename_i hc; subst hc; subst h; decide
  · split at h
    · rename_i hc; subst hc; subst h; decide
    · split at h
      · rename_i hc; subst hc; subst h; decide
      · split at h
        · rename_i hc; subst hc; subst h; decide
        · split at h
          · rename_i hc; subst hc; subst h; decide
          · split at h
            · rename_i hc; subst hc; subst h; decide
            · split at h
              · rename_i hc; subst hc; subst h; decide
              · split at h
                · rename_i hc; subst hc; subst h; decide
                · omega
theorem s_putSign {z : zZ} {d w q t : Nat} {c : Int} {μ : Mu} (hd : 2 ≤ d) (hw : isLw w) (h40 : μ 40 1 = ((w : Nat) : Int) + 1) (hq : μ w 5 = (q : Int)) (hq2 : q < 256) (h2 : 2 ≤ t) (h9 : t ≤ 9) (hc : sgs c = t) : mC z d 55 [(2, 40), (0, c)] μ = some (0, ptM μ w q ((t + 4 : Nat) : Int)) := by
  obtain ⟨e, rfl, he⟩ := pred_of hd
  have hp := s_put (z := z) (d := e) (k := t + 4) (v := 0) (μ := μ) he hw hq hq2 (by omega) (by omega)
  simp -implicitDefEqProofs only [Int.natCast_zero] at hp
  rw [c_Rdr_putSign _ _ _ _ w hw h40, zpl5 h2 hc, show zw (6 + ((t : Int) - 2)) = ((t + 4 : Nat) : Int) by rw [zw_id (by omega) (by omega)]; omega, hp]
  rfl
theorem s_putSign_any {z : zZ} {d w q : Nat} {c : Int} {μ : Mu} (hd : 2 ≤ d) (hw : isLw w) (h40 : μ 40 1 = ((w : Nat) : Int) + 1) (hq : μ w 5 = (q : Int)) (hq2 : q ≤ 256) : ∃ M, mC z d 55 [(2, 40), (0, c)] μ = some (0, M) ∧ pfr w μ M := by
  obtain ⟨e, rfl, he⟩ := pred_of hd
  obtain ⟨M, h1, h2⟩ := s_put_any (z := z) (d := e) (k := zw (6 + zpl 5 c)) (v := 0) he hw hq hq2
  refine ⟨M, ?_, h2⟩
  rw [c_Rdr_putSign _ _ _ _ w hw h40, h1]
  rfl
theorem s_opens_ok {z : zZ} {d o p : Nat} {μ : Mu} (hd : 2 ≤ d) (h40 : μ 40 0 = 2) (h2 : μ 1 2 = (p : Int)) (h4 : μ 1 4 = 0) (ho : o < 6) (hp : p < 1000) : mC z d 51 [(2, 40), (0, (o : Int))] μ = some (1, zup μ 1 2 ((p + 1 : Nat) : Int)) := by
  obtain ⟨e, rfl, he⟩ := pred_of hd
  rw [c_Rdr_opens _ _ _ _ h40, nT h4, cT (by omega), e_Rdr_opens_31 _ _ _ h40, cT h4, h2, zwc (by omega)]
theorem s_opens_no {z : zZ} {d o p : Nat} {μ : Mu} (hd : 2 ≤ d) (h40 : μ 40 0 = 2) (h2 : μ 1 2 = (p : Int)) (h4 : μ 1 4 = 0) (ho : 6 ≤ o) (hp : p ≤ 1000) : mC z d 51 [(2, 40), (0, (o : Int))] μ = some (0, zup μ 1 4 (-5000 - (p : Int))) := by
  obtain ⟨e, rfl, he⟩ := pred_of hd
  rw [c_Rdr_opens _ _ _ _ h40, nT h4, cF (by omega), h2, s_fail0 he h4 (by omega) (by omega)]
  simp -implicitDefEqProofs only [ob]
  rw [show (-1000 * 5 - (p : Int)) = -5000 - (p : Int) by omega, e_Rdr_opens_31 _ _ _ (by rw [zup_ro (by omega)]; exact h40), cF (by rw [zup_hit]; omega)]
theorem s_opens_f {z : zZ} {d o : Nat} {μ : Mu} (hd : 2 ≤ d) (h40 : μ 40 0 = 2) (h4 : μ 1 4 ≠ 0) : mC z d 51 [(2, 40), (0, (o : Int))] μ = some (0, μ) := by
  obtain ⟨e, rfl, he⟩ := pred_of hd
  rw [c_Rdr_opens _ _ _ _ h40, nF h4, e_Rdr_opens_31 _ _ _ h40, cF h4]
