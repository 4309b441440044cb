/-! orders that are learnt: the reference's tables -/
def LR (ρ P : Mu) : Prop := ∀ a, a ≠ 130 → a ≠ 131 → P a = ρ a
theorem t_laysMust {z : zZ} {d n : Nat} {A B : Nat → Nat} {ρ : Mu} (hd : 1 ≤ d) (hn : n ≤ 24) (h0 : ρ 86 67 = (n : Int)) (hA : ∀ i, i < n → A i < 12 ∧ B i < 12) (hF : FGr (ρ 128) (ρ 129) A B n) : ∃ P, mC z d 283 [(2, 86)] ρ = some (0, P) ∧ (∀ x, x < 12 → P 130 x = (mS A B n x : Int)) ∧ ∀ a, a ≠ 130 → P a = ρ a := by
  obtain ⟨e, rfl, he⟩ := pred_of hd
  rw [c_M_laysMust]
  have go : ∀ (j i : Nat) (M : Mu), j + i = n → (∀ x, x < 12 → M 130 x = (mS A B i x : Int)) → (∀ a, a ≠ 130 → M a = ρ a) → ∃ M', f_M_laysMust_23 z e (i : Int) M = some (0, M') ∧ (∀ x, x < 12 → M' 130 x = (mS A B n x : Int)) ∧ ∀ a, a ≠ 130 → M' a = ρ a := by
    intro j
    induction j with
    | zero =>
      intro i M hj h1 h2
      have : i = n := by omega
      subst this
      refine ⟨M, ?_, h1, h2⟩
      rw [e_M_laysMust_23, h2 86 (by omega), h0, cT (by omega)]
    | succ j ih =>
      intro i M hj h1 h2
      obtain ⟨f1, f2⟩ := hA i (by omega)
      obtain ⟨f3, f4⟩ := hF i (by omega)
      have hm := mS_lt (A := A) (B := B) (x := B i) i (fun k hk => (hA k (by omega)).1)
      rw [e_M_laysMust_23, h2 86 (by omega), h0, cF (by omega), gI_ok (by omega) (by omega), gI_ok (by omega) (by omega), Int.toNat_natCast, h2 128 (by omega), h2 129 (by omega), f3, f4, gI_ok (by omega) (by omega), gI_ok (by omega) (by omega), Int.toNat_natCast, h1 (B i) f2, s_or1 (by omega) (by omega), zwc (by omega)]
      first
        | rw [gI_ok (by omega) (by omega)]
        | skip
      refine ih (i + 1) _ (by omega) (fun x hx => ?_) (fun a q => by rw [zup_ro q]; exact h2 a q)
      show _ = (((if B i = x then mS A B i x ||| 2 ^ A i else mS A B i x) : Nat) : Int)
      by_cases e1 : B i = x
      · subst e1
        rw [zup_hit, if_pos rfl]
      · rw [zup_nk (by omega), if_neg e1]
        exact h1 x hx
  have go0 : ∀ (j i : Nat) (M : Mu), j + i = 12 → (∀ x, x < i → M 130 x = 0) → (∀ a, a ≠ 130 → M a = ρ a) → ∃ M', f_M_laysMust_2 z e (i : Int) M = some (0, M') ∧ (∀ x, x < 12 → M' 130 x = (mS A B n x : Int)) ∧ ∀ a, a ≠ 130 → M' a = ρ a := by
    intro j
    induction j with
    | zero =>
      intro i M hj h1 h2
      have : i = 12 := by omega
      subst this
      have := go n 0 M (by omega) (fun x hx => by rw [h1 x hx]; rfl) h2
      rw [e_M_laysMust_2, cT (by omega)]
      exact this
    | succ j ih =>
      intro i M hj h1 h2
      rw [e_M_laysMust_2, cF (by omega), gI_ok (by omega) (by omega), Int.toNat_natCast, zwc (by omega)]
      refine ih (i + 1) _ (by omega) (fun x hx => ?_) (fun a q => by rw [zup_ro q]; exact h2 a q)
      by_cases e1 : x = i
      · subst e1; rw [zup_hit]
      · rw [zup_nk e1]; exact h1 x (by omega)
  exact go0 12 0 ρ (by omega) (fun x hx => absurd hx (by omega)) (fun _ _ => rfl)
theorem t_laysWays {z : zZ} {d : Nat} {ms : Nat → Nat} {ρ : Mu} (hd : 2 ≤ d) (hms : ∀ x, x < 12 → ms x < 4096) (h130 : ∀ x, x < 12 → ρ 130 x = (ms x : Int)) : ∃ P, mC z d 284 [(2, 86)] ρ = some (wy ms 0, P) ∧ (∀ s, s < 4096 → P 131 s = wy ms s) ∧ ∀ a, a ≠ 131 → P a = ρ a := by
  obtain ⟨e, rfl, he⟩ := pred_of (k := 1) hd
  rw [c_M_laysWays]
  have inner : ∀ (k : Nat), k < 4096 → ∀ (j x : Nat) (M : Mu) (v : Int), j + x = 12 → (∀ s, k < s → s < 4096 → M 131 s = wy ms s) → (∀ a, a ≠ 131 → M a = ρ a) → v = (if k = 4095 then 1 else 0) + sm (fun y => if ava ms k y = true then wy ms (k ||| 2 ^ y) else 0) x → ∃ M', f_M_laysWays_24 z e (k : Int) v (x : Int) M = f_M_laysWays_4 z e ((k : Int) - 1) M' ∧ (∀ s, k ≤ s → s < 4096 → M' 131 s = wy ms s) ∧ ∀ a, a ≠ 131 → M' a = ρ a := by
    intro k hk j
    induction j with
    | zero =>
      intro x M v hj h1 h2 h3
      have : x = 12 := by omega
      subst this
      refine ⟨zup M 131 k v, ?_, fun s hs1 hs2 => ?_, fun a q => by rw [zup_ro q]; exact h2 a q⟩
      · rw [e_M_laysWays_24, cT (by omega), gI_ok (by omega) (by omega), Int.toNat_natCast, zw_id (x := (k : Int) + (-1)) (by omega) (by omega)]
        rfl
      · by_cases e1 : s = k
        · subst e1; rw [zup_hit, h3, ← wy_eq hk]
        · rw [zup_nk e1]; exact h1 s (by omega) hs2
    | succ j ih =>
      intro x M v hj h1 h2 h3
      have hx : x < 12 := by omega
      have hor := or_lt hk hx
      have h68 : ∀ (v : Int) (M : Mu), f_M_laysWays_68 z e (k : Int) v (x : Int) M = f_M_laysWays_24 z e (k : Int) v ((x + 1 : Nat) : Int) M := fun v M => by rw [e_M_laysWays_68, zwc (by omega)]
      have hsm : sm (fun y => if ava ms k y = true then wy ms (k ||| 2 ^ y) else 0) (x + 1) = sm (fun y => if ava ms k y = true then wy ms (k ||| 2 ^ y) else 0) x + (if ava ms k x = true then wy ms (k ||| 2 ^ x) else 0) := rfl
      rw [e_M_laysWays_24, cF (by omega), t_has he (by omega) (by omega)]
      simp -implicitDefEqProofs only [ob]
      rw [nB]
      by_cases hb : k.testBit x = true
      · have ha0 : ava ms k x = false := by unfold ava; rw [hb]; rfl
        rw [hb, cond_true, h68]
        refine ih (x + 1) M v (by omega) h1 h2 ?_
        rw [hsm, ha0, if_neg (show ¬ (false = true) by decide), Int.add_zero]
        exact h3
      · have hb0 : k.testBit x = false := by cases h : k.testBit x with
          | false => rfl
          | true => exact absurd h hb
        have ez : Unit → z_and (M 130 x) (z_xor (k : Int) (-1)) = ((dff (ms x) k : Nat) : Int) := fun _ => by rw [h2 130 (by omega), h130 x hx]; exact z_dff (hms x hx) hk
        rw [hb0, cond_false, gI_ok (by omega) (by omega), Int.toNat_natCast]
        by_cases hs : sbs (ms x) k = true
        · have ha1 : ava ms k x = true := by unfold ava; rw [hb0, hs]; rfl
          have hd0 := dff_0.mpr hs
          have hgt := or_gt (ava_bit ha1)
          rw [if_pos ha1] at hsm
          have hnn : ∀ y, y < 12 → 0 ≤ (fun y => if ava ms k y = true then wy ms (k ||| 2 ^ y) else 0) y := fun y hy => by
            show 0 ≤ if ava ms k y = true then wy ms (k ||| 2 ^ y) else 0
            split
            · exact wy_nn _ (or_lt (by omega) hy)
            · exact Int.le_refl _
          have b1 := sm_nn (g := fun y => if ava ms k y = true then wy ms (k ||| 2 ^ y) else 0) (n := x) (fun y hy => hnn y (by omega))
          have b2 := sm_part (g := fun y => if ava ms k y = true then wy ms (k ||| 2 ^ y) else 0) (n := x + 1) (m := 12) hnn (by omega)
          have b3 := (wy_rg (ms := ms) hk).2
          have b4 := (wy_rg (ms := ms) hor).1
          rw [wy_eq hk] at b3
          have b5 : (0 : Int) ≤ (if k = 4095 then 1 else 0) ∧ (if k = 4095 then 1 else 0) ≤ (1 : Int) := by split <;> omega
          rw [nT ((ez ()).trans (by rw [hd0]; rfl)), s_or1 (by omega) (by omega), gI_ok (by omega) (by omega), Int.toNat_natCast, h1 _ hgt hor, zwl_id (x := v + wy ms (k ||| 2 ^ x)) (by omega) (by omega), h68]
          refine ih (x + 1) M _ (by omega) h1 h2 ?_
          rw [hsm, h3]
          omega
        · have ha0 : ava ms k x = false := by
            unfold ava
            cases h : sbs (ms x) k with
            | true => exact absurd h hs
            | false => rw [Bool.and_false]
          have hd0 : dff (ms x) k ≠ 0 := fun q => hs (dff_0.mp q)
          have hd1 : ((dff (ms x) k : Nat) : Int) ≠ 0 := by omega
          have ez0 : ¬ z_and (M 130 x) (z_xor (k : Int) (-1)) = 0 := fun q => hd1 ((ez ()).symm.trans q)
          rw [nF ez0, h68]
          clear ez0
          refine ih (x + 1) M v (by omega) h1 h2 ?_
          rw [hsm, ha0, if_neg (show ¬ (false = true) by decide), Int.add_zero]
          exact h3
  have outer : ∀ (j : Nat) (M : Mu), j ≤ 4096 → (∀ s, j ≤ s → s < 4096 → M 131 s = wy ms s) → (∀ a, a ≠ 131 → M a = ρ a) → ∃ M', f_M_laysWays_4 z e ((j : Int) - 1) M = some (wy ms 0, M') ∧ (∀ s, s < 4096 → M' 131 s = wy ms s) ∧ ∀ a, a ≠ 131 → M' a = ρ a := by
    intro j
    induction j with
    | zero =>
      intro M _ h1 h2
      exact ⟨M, by rw [e_M_laysWays_4, cT (by omega), h1 0 (by omega) (by omega)], fun s hs => h1 s (by omega) hs, h2⟩
    | succ j ih =>
      intro M hj h1 h2
      obtain ⟨M1, g1, g2, g3⟩ := inner j (by omega) 12 0 M (if j = 4095 then 1 else 0) (by omega) (fun s q1 q2 => h1 s (by omega) q2) h2 (by show _ = _ + 0; rw [Int.add_zero])
      obtain ⟨M2, k1, k2, k3⟩ := ih M1 (by omega) g2 g3
      have e1 : ((j + 1 : Nat) : Int) - 1 = (j : Int) := by omega
      rw [show ((0 : Nat) : Int) = 0 from rfl] at g1
      rw [e1, e_M_laysWays_4, cF (by omega)]
      by_cases e2 : j = 4095
      · rw [if_pos e2] at g1
        rw [nT (by omega), e_M_laysWays_20, g1]
        exact ⟨M2, k1, k2, k3⟩
      · rw [if_neg e2] at g1
        rw [nF (by omega), e_M_laysWays_20, g1]
        exact ⟨M2, k1, k2, k3⟩
  exact outer 4096 ρ (by omega) (fun s h1 h2 => absurd h2 (by omega)) (fun _ _ => rfl)
def FIr (A B : Nat → Nat) (n : Nat) (ρ : Mu) : Prop := n ≤ 24 ∧ ρ 86 67 = (n : Int) ∧ (∀ i, i < n → A i < 12 ∧ B i < 12) ∧ FGr (ρ 128) (ρ 129) A B n
theorem FIr_LR {A B : Nat → Nat} {n : Nat} {ρ P : Mu} (h : FIr A B n ρ) (hL : LR ρ P) : FIr A B n P := by
  obtain ⟨f1, f2, f3, f4⟩ := h
  exact ⟨f1, by rw [hL 86 (by omega) (by omega)]; exact f2, f3, fun i hi => by rw [hL 128 (by omega) (by omega), hL 129 (by omega) (by omega)]; exact f4 i hi⟩
theorem t_ways {z : zZ} {d n : Nat} {A B : Nat → Nat} {ρ : Mu} (hd : 2 ≤ d) (hF : FIr A B n ρ) : ∃ P Q, mC z d 283 [(2, 86)] ρ = some (0, P) ∧ mC z d 284 [(2, 86)] P = some (wy (mS A B n) 0, Q) ∧ LR ρ Q ∧ (∀ x, x < 12 → Q 130 x = (mS A B n x : Int)) ∧ ∀ s, s < 4096 → Q 131 s = wy (mS A B n) s := by
  obtain ⟨f1, f2, f3, f4⟩ := hF
  obtain ⟨P, p1, p2, p3⟩ := t_laysMust (z := z) (d := d) (by omega) f1 f2 f3 f4
  obtain ⟨Q, q1, q2, q3⟩ := t_laysWays (z := z) (d := d) (ms := mS A B n) (ρ := P) hd (fun x hx => mS_lt n (fun k hk => (f3 k hk).1)) p2
  exact ⟨P, Q, p1, q1, fun a h1 h2 => by rw [q3 a h2, p3 a h1], fun x hx => by rw [q3 130 (by omega)]; exact p2 x hx, q2⟩
theorem t_waysWith {z : zZ} {d n a b : Nat} {A B : Nat → Nat} {ρ : Mu} (hd : 3 ≤ d) (ha : a < 12) (hb : b < 12) (hF : FIr A B n ρ) : ∃ P, mC z d 286 [(2, 86), (0, (a : Int)), (0, (b : Int))] ρ = some (wy (mwt (mS A B n) a b) 0, P) ∧ LR ρ P := by
  obtain ⟨e, rfl, he⟩ := pred_of (k := 2) hd
  obtain ⟨f1, f2, f3, f4⟩ := hF
  have hms : ∀ x, x < 12 → mS A B n x < 4096 := fun x hx => mS_lt n (fun k hk => (f3 k hk).1)
  obtain ⟨P, p1, p2, p3⟩ := t_laysMust (z := z) (d := e) (by omega) f1 f2 f3 f4
  have hm := hms b hb
  obtain ⟨Q, q1, q2, q3⟩ := t_laysWays (z := z) (d := e) (ms := mwt (mS A B n) a b) (ρ := zup P 130 b (((mS A B n b ||| 2 ^ a : Nat)) : Int)) he (fun x hx => by
    unfold mwt
    split
    · exact or_lt (hms b hb) ha
    · exact hms x hx) (fun x hx => by
    unfold mwt
    by_cases e1 : x = b
    · subst e1; rw [zup_hit, if_pos rfl]
    · rw [zup_nk e1, if_neg e1]; exact p2 x hx)
  rw [c_M_waysWith, p1]
  simp -implicitDefEqProofs only [ob]
  rw [gI_ok (by omega) (by omega), gI_ok (by omega) (by omega), Int.toNat_natCast, p2 b hb, s_or1 (by omega) (by omega), q1]
  simp -implicitDefEqProofs only [ob]
  exact ⟨Q, rfl, fun c h1 h2 => by rw [q3 c h2, zup_ro h1, p3 c h1]⟩
