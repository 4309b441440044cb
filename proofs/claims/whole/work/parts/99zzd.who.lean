/-! who goes: the class -/
theorem ia71 : iar 71 24 := ⟨⟨by omega, rfl⟩, rfl⟩
theorem s_canFill {z : zZ} {d f n used : Nat} {R : Nat → Nat} {μ : Mu} (hd : 12 ≤ d) (hR : ∀ k, k < n → μ 70 k = (R k : Int) ∧ R k < 16777216) (hn : n ≤ 8) (hf : f ≤ n) (hu : used < 16777216) : ∃ (b : Bool) (M' : Mu), mC z d 161 [(2, 65), (0, (f : Int)), (0, (n : Int)), (0, (used : Int))] μ = some (bi b, M') ∧ SF μ M' ∧ (b = true ↔ MT (fun k i => (R k).testBit i) (fun i => used.testBit i) f n) := by
  obtain ⟨e, rfl, he⟩ := pred_of (k := 11) hd
  have hfl := s_fill (z := z) (d := e) (a := 71) (n := 24) (v := -1) (μ := μ) (by omega) ia71 (by omega)
  simp -implicitDefEqProofs only [Int.cast_ofNat_Int] at hfl
  rw [c_Sol_canFill, hfl]
  simp -implicitDefEqProofs only [ob]
  have go : ∀ (j k : Nat) (M : Mu) (T : Row), j + k = n → f ≤ k → SF μ M → (∀ i, i < 24 → M 71 i = T i) → PM (fun k i => (R k).testBit i) (fun i => used.testBit i) f k T → ∃ (b : Bool) (M' : Mu), f_Sol_canFill_11 z e (n : Int) (used : Int) (k : Int) M = some (bi b, M') ∧ SF μ M' ∧ (b = true ↔ MT (fun k i => (R k).testBit i) (fun i => used.testBit i) f n) := by
    intro j
    induction j with
    | zero =>
      intro k M T hj hfk h1 h2 h3
      have : k = n := by omega
      subst this
      exact ⟨true, M, by rw [e_Sol_canFill_11, cT (by omega), bi_t], h1, fun _ => PM_MT hn h3, fun _ => rfl⟩
    | succ j ih =>
      intro k M T hj hfk h1 h2 h3
      have hk : k < n := by omega
      rw [e_Sol_canFill_11, cF (by omega)]
      have hb := PM_busy (by omega) h3
      obtain ⟨b, M1, T1, S1, g1, g2, g3, g4, g5, g6, g7, g8, g9⟩ := s_settle (z := z) (n := n) (R := R) (μ := zup M 65 7 (used : Int)) hn (fun x hx => by rw [zup_ro (by omega), h1.1 70 (by omega) (by omega)]; exact hR x hx) 8 0 e k (zup M 65 7 (used : Int)) T used (by omega) (by omega) hk (SF_refl _) (fun i hi => by rw [zup_ro (by omega)]; exact h2 i hi) zup_hit hu (fun i hi => by
        rcases h3.2 i hi with q | ⟨x, q1, q2, q3, q4⟩
        · exact Or.inl q
        · have := PM_rg h3 hi q1 q2
          exact Or.inr ⟨x, by omega, q2⟩) (Nat.zero_le _) hb
      rw [show ((0 : Nat) : Int) = 0 from rfl] at g1
      rw [g1]
      simp -implicitDefEqProofs only [ob]
      rw [nB]
      have hSF : SF μ M1 := SF_trans h1 (SF_trans ⟨fun a q1 q2 => zup_ro q1, fun k q => zup_nk q⟩ g2)
      cases b with
      | true =>
        obtain ⟨k1, k2⟩ := g8 rfl
        rw [cond_true, zwc (by omega)]
        refine ih (k + 1) M1 T1 (by omega) (by omega) hSF g3 ⟨fun x hx => ?_, fun i hi => ?_⟩
        · rw [k1 x hx, h3.1 x hx]
          by_cases q1 : x = k
          · subst q1
            rw [if_neg (by omega), if_pos rfl, if_pos (by omega)]
          · rw [if_neg q1]
            by_cases q2 : f ≤ x ∧ x < k
            · rw [if_pos q2, if_pos (by omega)]
            · rw [if_neg q2, if_neg (by omega)]
        · rcases Classical.em (T1 i = T i) with q | q
          · rw [q]; exact h3.2 i hi
          · obtain ⟨l1, x, l2, l3, l4⟩ := k2 i hi q
            exact Or.inr ⟨x, by omega, l3, l4, l1⟩
      | false =>
        obtain ⟨k1, k2, k3⟩ := g9 rfl
        rw [cond_false]
        refine ⟨false, M1, by rw [bi_f], hSF, fun q => absurd q (by decide), fun q => ?_⟩
        exfalso
        refine hall (S := fun i => S1.testBit i && !used.testBit i) hn hk hfk h3 (fun i hi q1 q2 => ?_) (fun i hi q1 => ?_) q
        · show (S1.testBit i && !used.testBit i) = true
          have q2' : used.testBit i = false := q2
          rw [k2 i hi q1, q2']; rfl
        · have q1' : (S1.testBit i && !used.testBit i) = true := q1
          rw [Bool.and_eq_true, Bool.not_eq_true'] at q1'
          obtain ⟨l1, l2⟩ := k3 i hi q1'.1 q1'.2
          refine ⟨l1, fun x hx i' hi' q3 q4 => ?_⟩
          show (S1.testBit i' && !used.testBit i') = true
          have q4' : used.testBit i' = false := q4
          rw [l2 x hx i' hi' q3, q4']; rfl
  have := go (n - f) f (zrow μ 71 (fil (μ 71) (-1) 24)) (fun _ => -1) (by omega) (Nat.le_refl _) ⟨fun a q1 q2 => zrow_ne q2, fun k _ => by rw [zrow_ne (by omega)]⟩ (fun i hi => by rw [zrow_same]; unfold fil; rw [if_pos hi]) ⟨fun x hx => ?_, fun i hi => Or.inl rfl⟩
  · exact this
  · rw [if_neg (by omega)]
    unfold ctx
    have key : ∀ m, cnt (fun i => decide ((fun _ : Nat => (-1 : Int)) i = (x : Int))) m = 0 := by
      intro m
      induction m with
      | zero => rfl
      | succ m ih => rw [cnt_succ, ih, if_neg (by simp)]
    exact key 24
theorem least {P : Nat → Prop} (h : ∃ i, P i) : ∃ i, P i ∧ ∀ j, j < i → ¬ P j := by
  obtain ⟨i, hi⟩ := h
  induction i using Nat.strongRecOn with
  | ind i ih =>
    rcases Classical.em (∃ j, j < i ∧ P j) with ⟨j, h1, h2⟩ | h1
    · exact ih j h1 h2
    · exact ⟨i, hi, fun j hj hp => h1 ⟨j, hj, hp⟩⟩
/-- who is told: letter by letter the first who leaves the others somebody -/
def usd (u : Nat → Nat) : Nat → Nat → Bool
  | 0, _ => false
  | k + 1, i => usd u k i || decide (i = u k)
def GW (E : Nat → Nat → Bool) (n : Nat) (u : Nat → Nat) (k : Nat) : Prop := u k < 24 ∧ E k (u k) = true ∧ usd u k (u k) = false ∧ MT E (usd u (k + 1)) (k + 1) n ∧ ∀ i, i < u k → ¬ (E k i = true ∧ usd u k i = false ∧ MT E (fun y => usd u k y || decide (y = i)) (k + 1) n)
theorem usd_congr {u v : Nat → Nat} : ∀ k, (∀ j, j < k → u j = v j) → ∀ i, usd u k i = usd v k i := by
  intro k
  induction k with
  | zero => intro _ i; rfl
  | succ k ih =>
    intro h i
    unfold usd
    rw [ih (fun j hj => h j (by omega)) i, h k (by omega)]
theorem GW_ex {E : Nat → Nat → Bool} {n : Nat} (h : MT E (fun _ => false) 0 n) : ∃ u, ∀ k, k < n → GW E n u k := by
  have key : ∀ m, m ≤ n → ∃ u, (∀ k, k < m → GW E n u k) ∧ MT E (usd u m) m n := by
    intro m
    induction m with
    | zero => intro _; exact ⟨fun _ => 0, fun k hk => absurd hk (by omega), h⟩
    | succ m ih =>
      intro hm
      obtain ⟨u, h1, h2⟩ := ih (by omega)
      obtain ⟨i0, hi0⟩ := MT_step (by omega) h2
      obtain ⟨i, ⟨q1, q2, q3, q4⟩, hl⟩ := least (P := fun i => i < 24 ∧ E m i = true ∧ usd u m i = false ∧ MT E (fun y => usd u m y || decide (y = i)) (m + 1) n) ⟨i0, hi0⟩
      have hu : ∀ k, k ≤ m → ∀ y, usd (fun k => if k = m then i else u k) k y = usd u k y := fun k hk y => usd_congr k (fun j hj => if_neg (by omega)) y
      have hM : MT E (usd (fun k => if k = m then i else u k) (m + 1)) (m + 1) n := MT_congr (fun _ _ _ _ _ => rfl) (fun y _ => by
        show (usd u m y || decide (y = i)) = (usd (fun k => if k = m then i else u k) m y || decide (y = (if m = m then i else u m)))
        rw [hu m (Nat.le_refl _), if_pos rfl]) q4
      refine ⟨fun k => if k = m then i else u k, fun k hk => ?_, hM⟩
      by_cases e : k = m
      · subst e
        unfold GW
        simp only [if_true]
        refine ⟨q1, q2, by rw [hu k (Nat.le_refl _)]; exact q3, hM, fun j hj hh => hl j hj ⟨by omega, hh.1, by rw [← hu k (Nat.le_refl _)]; exact hh.2.1, MT_congr (fun _ _ _ _ _ => rfl) (fun y _ => by rw [hu k (Nat.le_refl _)]) hh.2.2⟩⟩
      · obtain ⟨g1, g2, g3, g4, g5⟩ := h1 k (by omega)
        unfold GW
        simp only [if_neg e]
        refine ⟨g1, g2, by rw [hu k (by omega)]; exact g3, MT_congr (fun _ _ _ _ _ => rfl) (fun y _ => (hu (k + 1) (by omega) y).symm) g4, fun j hj hh => g5 j hj ⟨hh.1, by rw [← hu k (by omega)]; exact hh.2.1, MT_congr (fun _ _ _ _ _ => rfl) (fun y _ => by rw [hu k (by omega)]) hh.2.2⟩⟩
  obtain ⟨u, h1, _⟩ := key n (Nat.le_refl _)
  exact ⟨u, h1⟩
/-- what choosing may change -/
def CFm (μ M : Mu) : Prop := (∀ a, a ≠ 65 → a ≠ 66 → a ≠ 71 → M a = μ a) ∧ ∀ k, k ≠ 7 → M 65 k = μ 65 k
theorem CFm_SF {A B C : Mu} (h1 : CFm A B) (h2 : SF B C) : CFm A C := ⟨fun a p q r => by rw [h2.1 a p r, h1.1 a p q r], fun k p => by rw [h2.2 k p, h1.2 k p]⟩
theorem s_chooseWho {z : zZ} {d n : Nat} {R : Nat → Nat} {u : Nat → Nat} {μ : Mu} (hd : 13 ≤ d) (hR : ∀ k, k < n → μ 70 k = (R k : Int) ∧ R k < 16777216) (hn : n ≤ 8) (hu : ∀ k, k < n → GW (fun k i => (R k).testBit i) n u k) : ∃ M', mC z d 163 [(2, 65), (0, (n : Int))] μ = some (0, M') ∧ CFm μ M' ∧ ∀ k, k < n → M' 66 k = (u k : Int) := by
  obtain ⟨e, rfl, he⟩ := pred_of (k := 12) hd
  rw [c_Sol_chooseWho]
  have go : ∀ (j k : Nat) (M : Mu) (S : Nat), j + k = n → CFm μ M → S < 16777216 → (∀ i, i < 24 → S.testBit i = usd u k i) → (∀ x, x < k → M 66 x = (u x : Int)) → ∃ M', f_Sol_chooseWho_4 z e (n : Int) (S : Int) (k : Int) M = some (0, M') ∧ CFm μ M' ∧ ∀ k, k < n → M' 66 k = (u k : Int) := by
    intro j
    induction j with
    | zero =>
      intro k M S hj h1 h2 h3 h4
      have : k = n := by omega
      subst this
      exact ⟨M, by rw [e_Sol_chooseWho_4, cT (by omega)], h1, h4⟩
    | succ j ih =>
      intro k M S hj h1 h2 h3 h4
      have hk : k < n := by omega
      obtain ⟨g1, g2, g3, g4, g5⟩ := hu k hk
      obtain ⟨r1, r2⟩ := hR k hk
      have hRM : ∀ M1 : Mu, CFm μ M1 → ∀ k, k < n → M1 70 k = (R k : Int) ∧ R k < 16777216 := fun M1 q x hx => by rw [q.1 70 (by omega) (by omega) (by omega)]; exact hR x hx
      have hor := or_lt4 h2 g1
      have hor2 : ∀ i, i < 24 → (S ||| 2 ^ u k).testBit i = usd u (k + 1) i := fun i hi => by rw [bit_or, h3 i hi]; rfl
      -- from the found one on
      have h73 : ∀ M1 : Mu, CFm μ M1 → (∀ x, x < k → M1 66 x = (u x : Int)) → ∃ M', f_Sol_chooseWho_73 z e (n : Int) (S : Int) (k : Int) (u k : Int) M1 = some (0, M') ∧ CFm μ M' ∧ ∀ k, k < n → M' 66 k = (u k : Int) := fun M1 q1 q2 => by
        rw [e_Sol_chooseWho_73, gI_ok (by omega) (by omega), cF (by omega), Int.toNat_natCast, s_or1 (by omega) (by omega), e_Sol_chooseWho_94, zwc (by omega)]
        refine ih (k + 1) _ _ (by omega) ⟨fun a p q r => by rw [zup_ro q]; exact q1.1 a p q r, fun y p => by rw [zup_ro (by omega)]; exact q1.2 y p⟩ hor hor2 (fun x hx => ?_)
        by_cases e1 : x = k
        · subst e1; rw [zup_hit]
        · rw [zup_nk e1]; exact q2 x (by omega)
      have inner : ∀ (j i : Nat) (M1 : Mu), j + i = u k → CFm μ M1 → (∀ x, x < k → M1 66 x = (u x : Int)) → ∃ M', f_Sol_chooseWho_15 z e (n : Int) (S : Int) (k : Int) (-1) (i : Int) M1 = some (0, M') ∧ CFm μ M' ∧ ∀ k, k < n → M' 66 k = (u k : Int) := by
        intro j
        induction j with
        | zero =>
          intro i M1 hj2 q1 q2
          have hi : i = u k := by omega
          obtain ⟨b, M2, c1, c2, c3⟩ := s_canFill (z := z) (d := e) (f := k + 1) (n := n) (used := S ||| 2 ^ u k) (R := R) (μ := M1) he (hRM M1 q1) hn (by omega) hor
          have hb : b = true := c3.mpr (MT_congr (fun _ _ _ _ _ => rfl) (fun y hy => (hor2 y hy).symm) g4)
          subst hb
          have hd4 := dff4_lt (R k) S
          have g2' : (R k).testBit (u k) = true := g2
          rw [hi, e_Sol_chooseWho_15, cF (by omega), nT rfl, gI_ok (by omega) (by omega), Int.toNat_natCast, (hRM M1 q1 k hk).1, z_dff4 r2 h2, s_has (by omega) (by omega) (by omega), dff4_bit g1, g2', h3 _ g1, g3]
          simp -implicitDefEqProofs only [ob]
          rw [cB, Bool.not_false, Bool.and_true, cond_true, zwc (by omega), s_or1 (by omega) (by omega), c1]
          simp -implicitDefEqProofs only [ob]
          rw [cB, cond_true, e_Sol_chooseWho_67, zwc (by omega), e_Sol_chooseWho_15]
          have q3 := CFm_SF q1 c2
          have q4 : ∀ x, x < k → M2 66 x = (u x : Int) := fun x hx => by rw [c2.1 66 (by omega) (by omega)]; exact q2 x hx
          by_cases e1 : (24 : Int) ≤ ((u k + 1 : Nat) : Int)
          · rw [cT e1]; exact h73 M2 q3 q4
          · rw [cF e1, nF (by omega)]; exact h73 M2 q3 q4
        | succ j ih2 =>
          intro i M1 hj2 q1 q2
          have hi : i < u k := by omega
          have hi24 : i < 24 := by omega
          have hd4 := dff4_lt (R k) S
          rw [e_Sol_chooseWho_15, cF (by omega), nT rfl, gI_ok (by omega) (by omega), Int.toNat_natCast, (hRM M1 q1 k hk).1, z_dff4 r2 h2, s_has (by omega) (by omega) (by omega), dff4_bit hi24]
          simp -implicitDefEqProofs only [ob]
          rw [cB]
          have h67 : ∀ M2 : Mu, f_Sol_chooseWho_67 z e (n : Int) (S : Int) (k : Int) (-1) (i : Int) M2 = f_Sol_chooseWho_15 z e (n : Int) (S : Int) (k : Int) (-1) ((i + 1 : Nat) : Int) M2 := fun M2 => by rw [e_Sol_chooseWho_67, zwc (by omega)]
          cases hE : ((R k).testBit i && !S.testBit i) with
          | false =>
            rw [cond_false, h67]
            exact ih2 (i + 1) M1 (by omega) q1 q2
          | true =>
            rw [Bool.and_eq_true, Bool.not_eq_true'] at hE
            have hor3 := or_lt4 h2 hi24
            obtain ⟨b, M2, c1, c2, c3⟩ := s_canFill (z := z) (d := e) (f := k + 1) (n := n) (used := S ||| 2 ^ i) (R := R) (μ := M1) he (hRM M1 q1) hn (by omega) hor3
            have hb : b = false := by
              cases b with
              | false => rfl
              | true =>
                exfalso
                refine g5 i hi ⟨hE.1, by rw [← h3 i hi24]; exact hE.2, MT_congr (fun _ _ _ _ _ => rfl) (fun y hy => ?_) (c3.mp rfl)⟩
                show (S ||| 2 ^ i).testBit y = (usd u k y || decide (y = i))
                rw [bit_or, h3 y hy]
            subst hb
            rw [cond_true, zwc (by omega), s_or1 (by omega) (by omega), c1]
            simp -implicitDefEqProofs only [ob]
            rw [cB, cond_false, h67]
            exact ih2 (i + 1) M2 (by omega) (CFm_SF q1 c2) (fun x hx => by rw [c2.1 66 (by omega) (by omega)]; exact q2 x hx)
      rw [e_Sol_chooseWho_4, cF (by omega)]
      exact inner (u k) 0 M (by omega) h1 h4
  exact go n 0 μ 0 (by omega) ⟨fun _ _ _ _ => rfl, fun _ _ => rfl⟩ (by omega) (fun i _ => by rw [Nat.zero_testBit]; rfl) (fun x hx => absurd hx (by omega))
