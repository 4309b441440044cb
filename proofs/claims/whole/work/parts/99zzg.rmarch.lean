/-! a march: the reference -/
def tld (G : Row) (f : Nat) (i : Nat) : Bool := decide (0 ≤ G i ∧ G i < (f : Int))
theorem t_clear {z : zZ} {e f : Nat} {n h : Int} {G : Row} {μ : Mu} (hg : ∀ i, i < 24 → μ 137 i = G i ∧ -1 ≤ G i) : ∃ M, f_M_canMarch_3 z e n h (f : Int) 0 μ = f_M_canMarch_38 z e n h (f : Int) (f : Int) M ∧ (∀ a, a ≠ 137 → M a = μ a) ∧ ∀ i, i < 24 → M 137 i = if tld G f i = true then G i else -1 := by
  have go : ∀ (j i : Nat) (M : Mu), j + i = 24 → (∀ a, a ≠ 137 → M a = μ a) → (∀ i', i' < i → M 137 i' = if tld G f i' = true then G i' else -1) → (∀ i', i ≤ i' → i' < 24 → M 137 i' = G i') → ∃ M', f_M_canMarch_3 z e n h (f : Int) (i : Int) M = f_M_canMarch_38 z e n h (f : Int) (f : Int) M' ∧ (∀ a, a ≠ 137 → M' a = μ a) ∧ ∀ i, i < 24 → M' 137 i = if tld G f i = true then G i else -1 := by
    intro j
    induction j with
    | zero =>
      intro i M hj h1 h2 h3
      have : i = 24 := by omega
      subst this
      exact ⟨M, by rw [e_M_canMarch_3, cT (by omega)], h1, h2⟩
    | succ j ih =>
      intro i M hj h1 h2 h3
      have hi := h3 i (Nat.le_refl _) (by omega)
      have hgi := (hg i (by omega)).2
      have h29 : ∀ M1 : Mu, f_M_canMarch_29 z e n h (f : Int) (i : Int) M1 = f_M_canMarch_3 z e n h (f : Int) ((i + 1 : Nat) : Int) M1 := fun M1 => by rw [e_M_canMarch_29, zwc (by omega)]
      rw [e_M_canMarch_3, cF (by omega), gI_ok (by omega) (by omega), Int.toNat_natCast]
      by_cases q : G i < (f : Int)
      · rw [cT (show M 137 i < (f : Int) by omega), h29]
        refine ih (i + 1) M (by omega) h1 (fun i' hi' => ?_) (fun i' q1 q2 => h3 i' (by omega) q2)
        by_cases e1 : i' = i
        · subst e1
          rw [hi]
          by_cases q0 : 0 ≤ G i'
          · have htt : tld G f i' = true := decide_eq_true ⟨q0, q⟩
            rw [if_pos htt]
          · have : tld G f i' = false := decide_eq_false (by omega)
            rw [this, if_neg (by decide)]
            omega
        · exact h2 i' (by omega)
      · rw [cF (show ¬ M 137 i < (f : Int) by omega), gI_ok (by omega) (by omega), h29]
        refine ih (i + 1) _ (by omega) (fun a qa => by rw [zup_ro qa]; exact h1 a qa) (fun i' hi' => ?_) (fun i' q1 q2 => by rw [zup_nk (by omega)]; exact h3 i' (by omega) q2)
        by_cases e1 : i' = i
        · subst e1
          have : tld G f i' = false := decide_eq_false (by omega)
          rw [zup_hit, this, if_neg (by decide)]
        · rw [zup_nk e1]; exact h2 i' (by omega)
  exact go 24 0 μ (by omega) (fun _ _ => rfl) (fun i' q => absurd q (by omega)) (fun i' _ q => (hg i' q).1)
theorem t_forgets {z : zZ} {d f : Nat} {G : Row} {μ : Mu} (hd : 1 ≤ d) (hg : ∀ i, i < 24 → μ 137 i = G i ∧ -1 ≤ G i) : ∃ M, mC z d 297 [(2, 86), (0, (f : Int))] μ = some (0, M) ∧ (∀ a, a ≠ 137 → M a = μ a) ∧ ∀ i, i < 24 → M 137 i = if tld G f i = true then G i else -1 := by
  obtain ⟨e, rfl, he⟩ := pred_of hd
  rw [c_M_forgetsFrom]
  have go : ∀ (j i : Nat) (M : Mu), j + i = 24 → (∀ a, a ≠ 137 → M a = μ a) → (∀ i', i' < i → M 137 i' = if tld G f i' = true then G i' else -1) → (∀ i', i ≤ i' → i' < 24 → M 137 i' = G i') → ∃ M', f_M_forgetsFrom_2 z e (f : Int) (i : Int) M = some (0, M') ∧ (∀ a, a ≠ 137 → M' a = μ a) ∧ ∀ i, i < 24 → M' 137 i = if tld G f i = true then G i else -1 := by
    intro j
    induction j with
    | zero =>
      intro i M hj h1 h2 h3
      have : i = 24 := by omega
      subst this
      exact ⟨M, by rw [e_M_forgetsFrom_2, cT (by omega)], h1, h2⟩
    | succ j ih =>
      intro i M hj h1 h2 h3
      have hi := h3 i (Nat.le_refl _) (by omega)
      have hgi := (hg i (by omega)).2
      have h29 : ∀ M1 : Mu, f_M_forgetsFrom_25 z e (f : Int) (i : Int) M1 = f_M_forgetsFrom_2 z e (f : Int) ((i + 1 : Nat) : Int) M1 := fun M1 => by rw [e_M_forgetsFrom_25, zwc (by omega)]
      rw [e_M_forgetsFrom_2, cF (by omega), gI_ok (by omega) (by omega), Int.toNat_natCast]
      by_cases q : G i < (f : Int)
      · rw [cT (show M 137 i < (f : Int) by omega), h29]
        refine ih (i + 1) M (by omega) h1 (fun i' hi' => ?_) (fun i' q1 q2 => h3 i' (by omega) q2)
        by_cases e1 : i' = i
        · subst e1
          rw [hi]
          by_cases q0 : 0 ≤ G i'
          · have htt : tld G f i' = true := decide_eq_true ⟨q0, q⟩
            rw [if_pos htt]
          · have : tld G f i' = false := decide_eq_false (by omega)
            rw [this, if_neg (by decide)]
            omega
        · exact h2 i' (by omega)
      · rw [cF (show ¬ M 137 i < (f : Int) by omega), gI_ok (by omega) (by omega), h29]
        refine ih (i + 1) _ (by omega) (fun a qa => by rw [zup_ro qa]; exact h1 a qa) (fun i' hi' => ?_) (fun i' q1 q2 => by rw [zup_nk (by omega)]; exact h3 i' (by omega) q2)
        by_cases e1 : i' = i
        · subst e1
          have : tld G f i' = false := decide_eq_false (by omega)
          rw [zup_hit, this, if_neg (by decide)]
        · rw [zup_nk e1]; exact h2 i' (by omega)
  exact go 24 0 μ (by omega) (fun _ _ => rfl) (fun i' q => absurd q (by omega)) (fun i' _ q => (hg i' q).1)
/-- whether all from a letter on can go -/
theorem t_canMarch {z : zZ} {d f n h : Nat} {G : Row} {μ : Mu} (hd : 3 ≤ d) (hn : n ≤ 8) (hf : f ≤ n) (hg : ∀ i, i < 24 → μ 137 i = G i ∧ -1 ≤ G i) : ∃ (b : Bool) (M : Mu), mC z d 293 [(2, 86), (0, (n : Int)), (0, (h : Int)), (0, (f : Int))] μ = some (bi b, M) ∧ FFm μ M ∧ (b = true ↔ MT (edR μ h) (tld G f) f n) ∧ ∀ i, i < 24 → (tld G f i = true → M 137 i = G i) ∧ (tld G f i = false → M 137 i = -1 ∨ (f : Int) ≤ M 137 i) := by
  obtain ⟨e, rfl, he⟩ := pred_of (k := 2) hd
  rw [c_M_canMarch]
  obtain ⟨M0, m1, m2, m3⟩ := t_clear (z := z) (e := e) (f := f) (n := (n : Int)) (h := (h : Int)) hg
  rw [m1]
  have hout : ∀ (T : Row) (k : Nat) (E : Nat → Nat → Bool) (M : Mu), PM E (tld G f) f k T → RG (M 137) (tld G f) G T → ∀ i, i < 24 → (tld G f i = true → M 137 i = G i) ∧ (tld G f i = false → M 137 i = -1 ∨ (f : Int) ≤ M 137 i) := fun T k E M hP hR i hi => by
    have := hR i hi
    refine ⟨fun q => by rw [this, if_pos q], fun q => ?_⟩
    rw [this, if_neg (by rw [q]; decide)]
    rcases hP.2 i hi with q1 | ⟨x, q1, q2, q3, q4⟩
    · exact Or.inl q1
    · have := PM_rg hP hi q1 q2
      right; omega
  have go : ∀ (j k : Nat) (M : Mu) (T : Row), j + k = n → f ≤ k → FFm μ M → PM (edR μ h) (tld G f) f k T → RG (M 137) (tld G f) G T → ∃ (b : Bool) (M' : Mu), f_M_canMarch_38 z e (n : Int) (h : Int) (f : Int) (k : Int) M = some (bi b, M') ∧ FFm μ M' ∧ (b = true ↔ MT (edR μ h) (tld G f) f n) ∧ ∀ i, i < 24 → (tld G f i = true → M' 137 i = G i) ∧ (tld G f i = false → M' 137 i = -1 ∨ (f : Int) ≤ M' 137 i) := by
    intro j
    induction j with
    | zero =>
      intro k M T hj hfk hF hP hR
      have : k = n := by omega
      subst this
      exact ⟨true, M, by rw [e_M_canMarch_38, cT (by omega), bi_t], hF, ⟨fun _ => PM_MT hn hP, fun _ => rfl⟩, hout T k _ M hP hR⟩
    | succ j ih =>
      intro k M T hj hfk hF hP hR
      have hed : edR M h = edR μ h := by
        funext k i
        unfold edR
        rw [hF 136 (by omega) (by omega) (by omega)]
      obtain ⟨b, M1, g1, g2, g3, g4⟩ := t_finds (z := z) (d := e) (k := k) (h := h) (f := f) (N := n) (U := tld G f) (t := G) (T := T) (μ := M) (by omega) (by omega) hn hfk (fun i hi q => of_decide_eq_true q) (by rw [hed]; exact hP) hR
      rw [hed] at g3 g4
      rw [e_M_canMarch_38, cF (by omega), g1]
      simp -implicitDefEqProofs only [ob]
      rw [nB]
      cases b with
      | true =>
        obtain ⟨T', k1, k2⟩ := g3 rfl
        rw [cond_true, zwc (by omega)]
        exact ih (k + 1) M1 T' (by omega) (by omega) (FFm_trans hF g2) k2 k1
      | false =>
        obtain ⟨k1, k2⟩ := g4 rfl
        rw [cond_false]
        exact ⟨false, M1, by rw [bi_f], FFm_trans hF g2, ⟨fun q => absurd q (by decide), fun q => absurd q k2⟩, hout T k _ M1 hP k1⟩
  refine go (n - f) f M0 (fun _ => -1) (by omega) (Nat.le_refl _) (fun a p1 p2 p3 => m2 a p1) ⟨fun x hx => ?_, fun i hi => Or.inl rfl⟩ (fun i hi => m3 i hi)
  rw [if_neg (by omega)]
  unfold ctx
  have key : ∀ m, cnt (fun i => decide ((fun _ : Nat => (-1 : Int)) i = (x : Int))) m = 0 := by
    intro m
    induction m with
    | zero => rfl
    | succ m ih => rw [cnt_succ, ih, if_neg (by simp)]
  exact key 24
/-- whether a letter may be a soldier's -/
theorem t_isFirst {z : zZ} {d k n h i : Nat} {G : Row} {μ : Mu} (hd : 4 ≤ d) (hn : n ≤ 8) (hk : k < n) (hi : i < 24) (hg : ∀ i, i < 24 → μ 137 i = G i ∧ -1 ≤ G i) : ∃ (b : Bool) (M : Mu) (G' : Row), mC z d 296 [(2, 86), (0, (n : Int)), (0, (h : Int)), (0, (k : Int)), (0, (i : Int))] μ = some (bi b, M) ∧ FFm μ M ∧ (b = true ↔ (edR μ h k i = true ∧ tld G k i = false ∧ MT (edR μ h) (fun y => tld G k y || decide (y = i)) (k + 1) n)) ∧ (∀ y, y < 24 → M 137 y = G' y ∧ -1 ≤ G' y) ∧ (b = true → ∀ y, y < 24 → tld G' (k + 1) y = (tld G k y || decide (y = i))) ∧ (b = false → ∀ y, y < 24 → tld G' k y = tld G k y) := by
  obtain ⟨e, rfl, he⟩ := pred_of (k := 3) hd
  rw [c_M_isFirst, zk24r (by omega) (by omega), gI_ok (by omega) (by omega), Int.toNat_natCast]
  have hno : ∀ b : Bool, b = false → (edR μ h k i = true ∧ tld G k i = false → False) → ∃ (b : Bool) (M : Mu) (G' : Row), f_M_isFirst_38 z e μ = some (bi b, M) ∧ FFm μ M ∧ (b = true ↔ (edR μ h k i = true ∧ tld G k i = false ∧ MT (edR μ h) (fun y => tld G k y || decide (y = i)) (k + 1) n)) ∧ (∀ y, y < 24 → M 137 y = G' y ∧ -1 ≤ G' y) ∧ (b = true → ∀ y, y < 24 → tld G' (k + 1) y = (tld G k y || decide (y = i))) ∧ (b = false → ∀ y, y < 24 → tld G' k y = tld G k y) := fun b _ hf => ⟨false, μ, G, by rw [e_M_isFirst_38, bi_f], FFm_refl μ, ⟨fun q => absurd q (by decide), fun q => absurd ⟨q.1, q.2.1⟩ hf⟩, hg, fun q => absurd q (by decide), fun _ _ _ => rfl⟩
  by_cases hE : μ 136 (24 * k + i) ≤ (h : Int)
  · rw [cF (by omega), gI_ok (by omega) (by omega), Int.toNat_natCast]
    obtain ⟨gi1, gi2⟩ := hg i hi
    by_cases ht : tld G k i = true
    · have htd := of_decide_eq_true ht
      rw [cF (show ¬ μ 137 i = -1 by omega), gI_ok (by omega) (by omega), cF (show ¬ (k : Int) ≤ μ 137 i by omega)]
      exact hno false rfl (fun q => by rw [ht] at q; exact absurd q.2 (by decide))
    · have ht0 : tld G k i = false := by cases q : tld G k i with
        | false => rfl
        | true => exact absurd q ht
      have htd := of_decide_eq_false ht0
      have h40 : (bif decide (μ 137 i = -1) then f_M_isFirst_40 z e (n : Int) (h : Int) (k : Int) (i : Int) μ else gI (i : Int) 24 (bif decide ((k : Int) ≤ μ 137 i) then f_M_isFirst_40 z e (n : Int) (h : Int) (k : Int) (i : Int) μ else f_M_isFirst_38 z e μ)) = f_M_isFirst_40 z e (n : Int) (h : Int) (k : Int) (i : Int) μ := by
        by_cases q : μ 137 i = -1
        · rw [cT q]
        · rw [cF q, gI_ok (by omega) (by omega), cT (by omega)]
      rw [h40]
      clear h40
      obtain ⟨M1, m1, m2, m3⟩ := t_forgets (z := z) (d := e) (f := k) (G := G) (μ := μ) (by omega) hg
      have hG2 : ∀ y, y < 24 → zup M1 137 i (k : Int) 137 y = (if y = i then (k : Int) else if tld G k y = true then G y else -1) ∧ -1 ≤ (if y = i then (k : Int) else if tld G k y = true then G y else -1) := fun y hy => by
        by_cases e1 : y = i
        · subst e1; rw [zup_hit, if_pos rfl]; exact ⟨rfl, by omega⟩
        · rw [zup_nk e1, if_neg e1]
          refine ⟨m3 y hy, ?_⟩
          split
          · exact (hg y hy).2
          · omega
      have htl : ∀ y, tld (fun y => if y = i then (k : Int) else if tld G k y = true then G y else -1) (k + 1) y = (tld G k y || decide (y = i)) := fun y => by
        unfold tld
        by_cases e1 : y = i
        · rw [e1]
          simp only [if_true]
          rw [decide_eq_true (show (0 : Int) ≤ (k : Int) ∧ (k : Int) < ((k + 1 : Nat) : Int) by omega)]
          simp
        · simp only [if_neg e1]
          rw [decide_eq_false e1, Bool.or_false]
          by_cases q : 0 ≤ G y ∧ G y < (k : Int)
          · rw [if_pos (decide_eq_true q), decide_eq_true q]
            exact decide_eq_true (by omega)
          · rw [if_neg (by rw [decide_eq_false q]; decide), decide_eq_false q]
            exact decide_eq_false (by omega)
      obtain ⟨b, M2, c1, c2, c3, c4⟩ := t_canMarch (z := z) (d := e) (f := k + 1) (n := n) (h := h) (G := fun y => if y = i then (k : Int) else if tld G k y = true then G y else -1) (μ := zup M1 137 i (k : Int)) (by omega) hn (by omega) hG2
      have hF2 : FFm μ M2 := FFm_trans (fun a p1 p2 p3 => by rw [zup_ro p1]; exact m2 a p1) c2
      have hed : edR (zup M1 137 i (k : Int)) h = edR μ h := by
        funext k i
        unfold edR
        rw [zup_ro (by omega), m2 136 (by omega)]
      rw [hed] at c3
      have hiff : b = true ↔ (edR μ h k i = true ∧ tld G k i = false ∧ MT (edR μ h) (fun y => tld G k y || decide (y = i)) (k + 1) n) := by
        rw [c3]
        exact ⟨fun q => ⟨decide_eq_true hE, ht0, MT_congr (fun _ _ _ _ _ => rfl) (fun y _ => htl y) q⟩, fun q => MT_congr (fun _ _ _ _ _ => rfl) (fun y _ => (htl y).symm) q.2.2⟩
      rw [e_M_isFirst_40, m1]
      simp -implicitDefEqProofs only [ob]
      rw [gI_ok (by omega) (by omega), Int.toNat_natCast, zwc (by omega), c1]
      simp -implicitDefEqProofs only [ob]
      rw [cB]
      have hm1 : ∀ y, y < 24 → -1 ≤ M2 137 y := fun y hy => by
        obtain ⟨l1, l2⟩ := c4 y hy
        cases q : tld (fun y => if y = i then (k : Int) else if tld G k y = true then G y else -1) (k + 1) y with
        | true => rw [l1 q]; exact (hG2 y hy).2
        | false => rcases l2 q with q1 | q1 <;> omega
      have ht2 : ∀ y, y < 24 → tld (M2 137) (k + 1) y = (tld G k y || decide (y = i)) := fun y hy => by
        obtain ⟨l1, l2⟩ := c4 y hy
        rw [← htl y]
        cases q : tld (fun y => if y = i then (k : Int) else if tld G k y = true then G y else -1) (k + 1) y with
        | true =>
          have := of_decide_eq_true q
          unfold tld
          rw [l1 q]
          exact decide_eq_true this
        | false =>
          unfold tld
          rcases l2 q with q1 | q1
          · rw [q1]; rfl
          · exact decide_eq_false (by omega)
      cases b with
      | true =>
        rw [cond_true]
        exact ⟨true, M2, M2 137, by rw [bi_t], hF2, hiff, fun y hy => ⟨rfl, hm1 y hy⟩, fun _ => ht2, fun q => absurd q (by decide)⟩
      | false =>
        obtain ⟨M3, n1, n2, n3⟩ := t_forgets (z := z) (d := e) (f := k) (G := M2 137) (μ := M2) (by omega) (fun y hy => ⟨rfl, hm1 y hy⟩)
        rw [cond_false, e_M_isFirst_67, n1]
        simp -implicitDefEqProofs only [ob]
        refine ⟨false, M3, M3 137, by rw [bi_f], FFm_trans hF2 (fun a p1 p2 p3 => n2 a p1), hiff, fun y hy => ⟨rfl, ?_⟩, fun q => absurd q (by decide), fun _ y hy => ?_⟩
        · rw [n3 y hy]
          have := hm1 y hy
          split <;> omega
        · have h1 := ht2 y hy
          have h2 := n3 y hy
          by_cases e1 : y = i
          · subst e1
            have hMi : M2 137 y = (k : Int) := by
              have h3 := (c4 y hy).1 (by rw [htl y]; simp)
              rw [h3, if_pos rfl]
            have h4 : tld (M2 137) k y = false := decide_eq_false (by omega)
            rw [h4, if_neg (by decide)] at h2
            unfold tld
            rw [h2]
            exact (decide_eq_false (by omega)).trans ht0.symm
          · rw [decide_eq_false e1, Bool.or_false] at h1
            cases q : tld G k y with
            | true =>
              have h3 := (c4 y hy).1 (by rw [htl y, q]; rfl)
              rw [if_neg e1, if_pos q] at h3
              have h4 := of_decide_eq_true q
              have h5 : tld (M2 137) k y = true := decide_eq_true (by omega)
              rw [h5, if_pos rfl] at h2
              unfold tld
              rw [h2, h3]
              exact decide_eq_true h4
            | false =>
              rw [q] at h1
              have h4 := of_decide_eq_false h1
              have h5 : tld (M2 137) k y = false := decide_eq_false (by omega)
              rw [h5, if_neg (by decide)] at h2
              unfold tld
              rw [h2]
              rfl
  · rw [cT (by omega)]
    exact hno false rfl (fun q => absurd (of_decide_eq_true q.1) hE)
