/-! one side is another one -/
theorem bt_side {μ ρ M P : Mu} {N F : Nat → Nat} {L : Nat → Nat → Nat} {wl s N' f' : Nat} {L' : Nat → Nat} (hB : BT μ ρ N F L wl) (hs : s < 2) (m0 : M 0 6 = μ 0 6 ∧ M 0 18 = μ 0 18 ∧ M 0 19 = μ 0 19) (mr : ∀ i, i ≤ 4 → M (4 + 9 * (1 - s) + i) = μ (4 + 9 * (1 - s) + i)) (mq : ∀ a, a = 35 ∨ (41 ≤ a ∧ a ≤ 52) → M a = μ a) (hC : SDc M s N' f' L') (hR : SDr M P s N' f' L') (pr : ∀ a k, (88 ≤ a ∧ a ≤ 92) ∨ a = 95 → k < 12 → P a (12 * (1 - s) + k) = ρ a (12 * (1 - s) + k)) (p94 : ∀ k, k < 96 → P 94 (96 * (1 - s) + k) = ρ 94 (96 * (1 - s) + k)) (pq : ∀ a, a = 87 ∨ (104 ≤ a ∧ a ≤ 108) → P a = ρ a) (pk : ∀ k, k ≤ 1 ∨ k = 14 + (1 - s) ∨ k = 16 + (1 - s) ∨ k = 27 → P 86 k = ρ 86 k) (hh : hr (P 90) ∧ hr (P 91) ∧ hr (P 92)) : BT M P (fun t => if t = s then N' else N t) (fun t => if t = s then f' else F t) (fun t => if t = s then L' else L t) wl := by
  obtain ⟨gC, gR, ⟨c1, c2, c3, c4⟩, ⟨c5, c6⟩, c7, hG⟩ := hB
  refine ⟨fun t ht => ?_, fun t ht => ?_, ⟨by rw [m0.2.1, pk 1 (by omega)]; exact c1, by rw [m0.2.2, pk 0 (by omega)]; exact c2, by rw [m0.2.2]; exact c3, by rw [m0.2.2]; exact c4⟩, ⟨by rw [mq 35 (by omega)]; exact c5, fun k hk => by rw [mq 35 (by omega), pq 87 (by omega)]; exact c6 k hk⟩, hh, GL_rows m0.1 (fun a q1 q2 => mq a (by omega)) (pk 27 (by omega)) (fun a q1 q2 => pq a (by omega)) hG⟩
  · by_cases h : t = s
    · subst h
      simp only [if_true]
      exact hC
    · simp only [if_neg h]
      have e : t = 1 - s := by omega
      subst e
      exact SDc_rows mr (gC _ ht)
  · by_cases h : t = s
    · subst h
      simp only [if_true]
      exact hR
    · simp only [if_neg h]
      have e : t = 1 - s := by omega
      subst e
      obtain ⟨b1, b2, b3, b4, b5, b6, b7⟩ := gR _ ht
      have hN := b2.2.1
      refine ⟨by rw [pk _ (by omega)]; exact b1, ?_, ?_, ?_, ?_, ?_, ?_⟩
      · rw [mr 4 (by omega)]
        refine ⟨by rw [pk _ (by omega)]; exact b2.1, b2.2.1, fun w hw => ?_⟩
        obtain ⟨x1, x2, x3⟩ := b2.2.2 w hw
        refine ⟨x1, by rw [pr 95 w (by omega) (by omega)]; exact x2, rwd_congr x3 (fun k hk => ?_)⟩
        have h8 := x3.1.2.1
        have := p94 (8 * w + k) (by omega)
        rw [show 96 * (1 - s) + (8 * w + k) = 8 * (12 * (1 - s) + w) + k by omega] at this
        exact this
      · rw [mr 3 (by omega)]; exact pt_out b3 (fun k hk => pr 90 k (by omega) hk)
      · rw [mr 3 (by omega)]; exact pt_out b4 (fun k hk => pr 91 k (by omega) hk)
      · rw [mr 3 (by omega)]; exact pt_out b5 (fun k hk => pr 92 k (by omega) hk)
      · rw [mr 1 (by omega)]; exact pt_out b6 (fun k hk => pr 88 k (by omega) hk)
      · rw [mr 2 (by omega)]; exact pt_out b7 (fun k hk => pr 89 k (by omega) hk)
/-- an order's rows -/
theorem seen_bit {b : Row} {x : Nat} : ∀ k, (seenS b k).testBit x = true ↔ ∃ j, j < k ∧ (b j).toNat = x := by
  intro k
  induction k with
  | zero =>
    constructor
    · intro h
      unfold seenS at h
      simp at h
    · rintro ⟨j, hj, _⟩
      omega
  | succ k ih =>
    unfold seenS
    rw [or_bit, Bool.or_eq_true, ih, decide_eq_true_eq]
    constructor
    · rintro (⟨j, h1, h2⟩ | h)
      · exact ⟨j, by omega, h2⟩
      · exact ⟨k, by omega, h.symm⟩
    · rintro ⟨j, h1, h2⟩
      by_cases e : j = k
      · subst e; right; exact h2.symm
      · left; exact ⟨j, by omega, h2⟩
theorem ordP_ne {b : Row} (h : allb (ordP b) 12 = true) {i j : Nat} (hij : i < j) (hj : j < 12) : (b i).toNat ≠ (b j).toNat := by
  intro e
  have h1 := (allb_iff _ _).mp h j hj
  unfold ordP at h1
  rw [Bool.and_eq_true, Bool.not_eq_true'] at h1
  have h2 : (seenS b j).testBit (b j).toNat = true := (seen_bit j).mpr ⟨i, hij, e⟩
  rw [h1.2] at h2
  exact absurd h2 (by decide)
theorem cnt_full {p : Nat → Bool} : ∀ n, cnt p n = n → ∀ x, x < n → p x = true := by
  intro n
  induction n with
  | zero => intro _ x hx; omega
  | succ n ih =>
    intro h x hx
    rw [cnt_succ] at h
    have h1 := cnt_le p n
    by_cases hp : p n = true
    · rw [if_pos hp] at h
      by_cases e : x = n
      · subst e; exact hp
      · exact ih (by omega) x (by omega)
    · rw [if_neg hp] at h
      omega
theorem ord_onto {b : Row} (h : allb (ordP b) 12 = true) {x : Nat} (hx : x < 12) : ∃ j, j < 12 ∧ (b j).toNat = x := by
  have hc : ∀ k, k ≤ 12 → cnt (seenS b k).testBit 12 = k := by
    intro k
    induction k with
    | zero => intro _; show cnt (0 : Nat).testBit 12 = 0; decide
    | succ k ih =>
      intro hk
      have hl := ordP_l h (show k < 12 by omega)
      unfold seenS
      rw [cnt_or (by omega), ih (by omega)]
      cases hb : (seenS b k).testBit (b k).toNat with
      | false => rfl
      | true =>
        obtain ⟨j, h1, h2⟩ := (seen_bit k).mp hb
        exact absurd h2 (ordP_ne h h1 (by omega))
  exact (seen_bit 12).mp (cnt_full 12 (hc 12 (by omega)) x hx)
theorem rowB_in {g b : Row} {s : Nat} : ∀ k j, j < k → rowB g b s k (s + j) = b j := by
  intro k
  induction k with
  | zero => intro j hj; omega
  | succ k ih =>
    intro j hj
    unfold rowB
    by_cases e : j = k
    · subst e; rw [rup_same]
    · rw [rup_ne (by omega)]; exact ih j (by omega)
theorem rowB_out {g b : Row} {s i : Nat} : ∀ k, (i < s ∨ s + k ≤ i) → rowB g b s k i = g i := by
  intro k
  induction k with
  | zero => intro _; rfl
  | succ k ih => intro h; unfold rowB; rw [rup_ne (by omega)]; exact ih (by omega)
theorem rkB_in {g b : Row} {s : Nat} (h : allb (ordP b) 12 = true) : ∀ k j, k ≤ 12 → j < k → rkB g b s k (s + (b j).toNat) = (j : Int) := by
  intro k
  induction k with
  | zero => intro j _ hj; omega
  | succ k ih =>
    intro j hk hj
    unfold rkB
    by_cases e : j = k
    · subst e; rw [rup_same]
    · have := ordP_ne h (show j < k by omega) (by omega)
      rw [rup_ne (by omega)]; exact ih j (by omega) (by omega)
theorem rkB_out {g b : Row} {s i : Nat} (h : allb (ordP b) 12 = true) (hi : i < s ∨ s + 12 ≤ i) : ∀ k, k ≤ 12 → rkB g b s k i = g i := by
  intro k
  induction k with
  | zero => intro _; rfl
  | succ k ih =>
    intro hk
    have := ordP_l h (show k < 12 by omega)
    unfold rkB
    rw [rup_ne (by omega)]
    exact ih (by omega)
theorem rkr_rowB {g b : Row} {s : Nat} (h : allb (ordP b) 12 = true) (hg : rkr g) : ∀ k, k ≤ 12 → rkr (rowB g b s k) := by
  intro k
  induction k with
  | zero => intro _; exact hg
  | succ k ih =>
    intro hk j
    have := ordP_l h (show k < 12 by omega)
    unfold rowB
    by_cases e : j = s + k
    · subst e; rw [rup_same]; exact this
    · rw [rup_ne e]; exact ih (by omega) j
theorem rkr_rkB {g b : Row} {s : Nat} (hg : rkr g) : ∀ k, k ≤ 12 → rkr (rkB g b s k) := by
  intro k
  induction k with
  | zero => intro _; exact hg
  | succ k ih =>
    intro hk j
    unfold rkB
    by_cases e : j = s + (b k).toNat
    · subst e; rw [rup_same]; omega
    · rw [rup_ne e]; exact ih (by omega) j
theorem rkB_0 {b : Row} : ∀ (k : Nat) (g g' : Row) (s x : Nat), (∃ j, j < k ∧ (b j).toNat = x) → rkB g b s k (s + x) = rkB g' b 0 k (0 + x) := by
  intro k
  induction k with
  | zero => rintro g g' s x ⟨j, hj, _⟩; omega
  | succ k ih =>
    rintro g g' s x ⟨j, hj, hx⟩
    unfold rkB
    by_cases e : x = (b k).toNat
    · subst e; rw [rup_same, rup_same]
    · rw [rup_ne (by omega), rup_ne (by omega)]
      refine ih g g' s x ⟨j, ?_, hx⟩
      by_cases e2 : j = k
      · subst e2; omega
      · omega
theorem order_both {z : zZ} {d d' wl : Nat} {s : Int} {μ ρ : Mu} {N F : Nat → Nat} {L : Nat → Nat → Nat} (hd : 4 ≤ d) (hd' : 3 ≤ d') (hB : BT μ ρ N F L wl) (hT : TI μ ρ) : GO z d d' 18 188 [(0, s)] [(0, s)] μ ρ (fun M P => BT M P N F L wl ∧ TI M P ∧ M 0 = μ 0) := by
  obtain ⟨e, rfl, he⟩ := pred_of (k := 3) hd
  obtain ⟨e', rfl, he'⟩ := pred_of (k := 2) hd'
  obtain ⟨sz, t1, t2, t3, t4⟩ := id hT
  unfold GO
  rw [c_W_order, c_M_order, s_isSide (by omega), t_isSide (by omega)]
  simp -implicitDefEqProofs only [ob]
  rw [cB, cB]
  by_cases h0 : s = 0 ∨ s = 1
  · rw [decide_eq_true h0, cond_true, cond_true]
    by_cases h1 : 12 ≤ sz
    · obtain ⟨s, rfl, hs⟩ : ∃ t : Nat, s = (t : Int) ∧ t < 2 := ⟨s.toNat, by omega, by omega⟩
      have ho := o9 hs
      rw [cT (show 12 ≤ μ 1 1 by omega), cT (show 12 ≤ ρ 86 9 by omega), e_W_order_21 _ _ _ _ h0, Int.toNat_natCast, s_open (by omega) (by omega)]
      simp -implicitDefEqProofs only [ob]
      have tb : tpe (zup ρ 86 9 0) (μ 2) := tpe_congr t4 (zup_ro (by omega))
      have HT : ∀ M : Mu, M 1 1 = 0 → M 2 = μ 2 → ∀ P : Mu, P 86 = zup ρ 86 9 0 86 → P 93 = ρ 93 → TI M P := fun M q1 q2 P q3 q4 => ⟨0, by omega, q1, by rw [q3]; exact zup_hit, by rw [q2]; exact tpe_congr t4 q4⟩
      rcases s_takeOrder (z := z) (d := e) (o := 4 + 9 * s) (μ := opM μ 12) (by omega) ho opM_2 opM_3 with ⟨h2, q, hq⟩ | ⟨h2, hq⟩
      · rw [opM_r (show (2 : Nat) ≠ 1 by omega)] at h2
        rcases t_order (z := z) (e := e') (s := s) (b := μ 2) (μ := zup ρ 86 9 0) (by omega) hs tb with ⟨h3, hr⟩ | ⟨h3, hr⟩
        · rw [hq, hr]
          simp -implicitDefEqProofs only [ob]
          rw [g01_0]
          have n1 : ∀ a, a ≠ 1 → zup (opM μ 12) 1 2 q a = μ a := fun a qa => by rw [zup_ro qa, opM_r qa]
          refine ⟨_, _, _, rfl, rfl, ⟨bt_rows hB ⟨by rw [n1 0 (by omega)], by rw [n1 0 (by omega)], by rw [n1 0 (by omega)]⟩ (fun a _ => n1 a (by omega)) (fun a _ => zup_ro (by omega)) (fun k _ => zup_nk (by omega)), HT _ (by rw [zup_nk (by omega)]; exact opM_1) (n1 2 (by omega)) _ rfl (zup_ro (by omega)), n1 0 (by omega)⟩, ⟨fun a _ _ => n1 a (by omega), fun k _ _ => by rw [n1 0 (by omega)], fun a _ => n1 a (by omega)⟩, ⟨fun a _ => zup_ro (by omega), fun k _ => zup_nk (by omega), fun a _ => zup_ro (by omega)⟩⟩
        · rw [h2] at h3; exact absurd h3 (by decide)
      · rw [opM_r (show (2 : Nat) ≠ 1 by omega)] at h2
        rcases t_order (z := z) (e := e') (s := s) (b := μ 2) (μ := zup ρ 86 9 0) (by omega) hs tb with ⟨h3, hr⟩ | ⟨h3, hr⟩
        · rw [h2] at h3; exact absurd h3 (by decide)
        · rw [hq, hr]
          simp -implicitDefEqProofs only [ob]
          rw [g01_1, opM_r (show (2 : Nat) ≠ 1 by omega), opM_r (show 4 + 9 * s + 1 ≠ 1 by omega), opM_r (show 4 + 9 * s + 2 ≠ 1 by omega), zup_ro (show (88 : Nat) ≠ 86 by omega), zup_ro (show (89 : Nat) ≠ 86 by omega)]
          generalize hM : zrow (zrow (zup (opM μ 12) 1 2 12) (4 + 9 * s + 1) (rowB (μ (4 + 9 * s + 1)) (μ 2) 0 12)) (4 + 9 * s + 2) (rkB (μ (4 + 9 * s + 2)) (μ 2) 0 12) = M
          generalize hP : zrow (zrow (zup ρ 86 9 0) 88 (rowB (ρ 88) (μ 2) (12 * s) 12)) 89 (rkB (ρ 89) (μ 2) (12 * s) 12) = P
          have n1 : ∀ a, a ≠ 1 → a ≠ 4 + 9 * s + 1 → a ≠ 4 + 9 * s + 2 → M a = μ a := fun a q1 q2 q3 => by subst hM; rw [zrow_ne q3, zrow_ne q2, zup_ro q1, opM_r q1]
          have n11 : M 1 1 = 0 := by subst hM; rw [zrow_ne (by omega), zrow_ne (by omega), zup_nk (by omega)]; exact opM_1
          have nr1 : M (4 + 9 * s + 1) = rowB (μ (4 + 9 * s + 1)) (μ 2) 0 12 := by subst hM; rw [zrow_ne (by omega), zrow_same]
          have nr2 : M (4 + 9 * s + 2) = rkB (μ (4 + 9 * s + 2)) (μ 2) 0 12 := by subst hM; rw [zrow_same]
          have p1 : ∀ a, a ≠ 86 → a ≠ 88 → a ≠ 89 → P a = ρ a := fun a q1 q2 q3 => by subst hP; rw [zrow_ne q3, zrow_ne q2, zup_ro q1]
          have p86 : P 86 = zup ρ 86 9 0 86 := by subst hP; rw [zrow_ne (by omega), zrow_ne (by omega)]
          have p88 : P 88 = rowB (ρ 88) (μ 2) (12 * s) 12 := by subst hP; rw [zrow_ne (by omega), zrow_same]
          have p89 : P 89 = rkB (ρ 89) (μ 2) (12 * s) 12 := by subst hP; rw [zrow_same]
          clear hM hP
          have pk : ∀ k, k ≠ 9 → P 86 k = ρ 86 k := fun k q => by rw [p86, zup_nk q]
          obtain ⟨a1, a2, a3, a4, a5, a6, a7, a8, a9, a10, a11, a12⟩ := hB.1 s hs
          obtain ⟨b1, b2, b3, b4, b5, b6, b7⟩ := hB.2.1 s hs
          have r0 : M (4 + 9 * s) = μ (4 + 9 * s) := n1 _ (by omega) (by omega) (by omega)
          have r3 : M (4 + 9 * s + 3) = μ (4 + 9 * s + 3) := n1 _ (by omega) (by omega) (by omega)
          have r4 : M (4 + 9 * s + 4) = μ (4 + 9 * s + 4) := n1 _ (by omega) (by omega) (by omega)
          have hl := fun k (hk : k < 12) => ordP_l h2 hk
          have g1 : ∀ j, j < 12 → M (4 + 9 * s + 1) j = μ 2 j := fun j hj => by
            rw [nr1]
            have := rowB_in (g := μ (4 + 9 * s + 1)) (b := μ 2) (s := 0) 12 j hj
            rw [Nat.zero_add] at this
            exact this
          have g2 : ∀ j, j < 12 → M (4 + 9 * s + 2) (μ 2 j).toNat = (j : Int) := fun j hj => by
            rw [nr2]
            have := rkB_in (g := μ (4 + 9 * s + 2)) (s := 0) h2 12 j (by omega) hj
            rw [Nat.zero_add] at this
            exact this
          have hSC : SDc M s (N s) (F s) (L s) := by
            refine ⟨by rw [r0]; exact a1, a2, by rw [r0]; exact a3, a4, a5, by rw [r3]; exact a6, by rw [nr1]; exact rkr_rowB h2 a7 12 (by omega), by rw [nr2]; exact rkr_rkB a8 12 (by omega), by rw [r4]; exact a9, by rw [r4]; exact a10, fun j hj => by rw [g1 j hj]; exact g2 j hj, fun x hx => ?_⟩
            obtain ⟨j, hj, rfl⟩ := ord_onto h2 hx
            rw [g2 j hj, Int.toNat_natCast, g1 j hj]
            have := hl j hj
            omega
          have hSR : SDr M P s (N s) (F s) (L s) := by
            refine ⟨by rw [pk _ (by omega)]; exact b1, ?_, by rw [r3, p1 90 (by omega) (by omega) (by omega)]; exact b3, by rw [r3, p1 91 (by omega) (by omega) (by omega)]; exact b4, by rw [r3, p1 92 (by omega) (by omega) (by omega)]; exact b5, fun k hk => ?_, fun k hk => ?_⟩
            · rw [r4]
              refine ⟨by rw [pk _ (by omega)]; exact b2.1, b2.2.1, fun w hw => ?_⟩
              obtain ⟨x1, x2, x3⟩ := b2.2.2 w hw
              exact ⟨x1, by rw [p1 95 (by omega) (by omega) (by omega)]; exact x2, rwd_congr x3 (fun k _ => by rw [p1 94 (by omega) (by omega) (by omega)])⟩
            · rw [Nat.zero_add, g1 k hk, p88]
              exact rowB_in 12 k hk
            · rw [p89, nr2]
              exact rkB_0 12 _ _ _ _ (ord_onto h2 hk)
          have hb := bt_side (M := M) (P := P) (s := s) (N' := N s) (f' := F s) (L' := L s) hB hs ⟨by rw [n1 0 (by omega) (by omega) (by omega)], by rw [n1 0 (by omega) (by omega) (by omega)], by rw [n1 0 (by omega) (by omega) (by omega)]⟩ (fun i hi => n1 _ (by omega) (by omega) (by omega)) (fun a ha => n1 a (by omega) (by omega) (by omega)) hSC hSR (fun a k ha hk => by
            by_cases q1 : a = 88
            · subst q1; rw [p88]; exact rowB_out 12 (by omega)
            · by_cases q2 : a = 89
              · subst q2; rw [p89]; exact rkB_out h2 (by omega) 12 (by omega)
              · rw [p1 a (by omega) q1 q2]) (fun k hk => by rw [p1 94 (by omega) (by omega) (by omega)]) (fun a ha => p1 a (by omega) (by omega) (by omega)) (fun k hk => pk k (by omega)) (by rw [p1 90 (by omega) (by omega) (by omega), p1 91 (by omega) (by omega) (by omega), p1 92 (by omega) (by omega) (by omega)]; exact hB.2.2.2.2.1)
          have eN : (fun t => if t = s then N s else N t) = N := funext (fun t => by
            by_cases h : t = s
            · rw [if_pos h, h]
            · rw [if_neg h])
          have eF : (fun t => if t = s then F s else F t) = F := funext (fun t => by
            by_cases h : t = s
            · rw [if_pos h, h]
            · rw [if_neg h])
          have eL : (fun t => if t = s then L s else L t) = L := funext (fun t => by
            by_cases h : t = s
            · rw [if_pos h, h]
            · rw [if_neg h])
          rw [eN, eF, eL] at hb
          refine ⟨_, _, _, rfl, rfl, ⟨hb, HT _ n11 (n1 2 (by omega) (by omega) (by omega)) _ p86 (p1 93 (by omega) (by omega) (by omega)), n1 0 (by omega) (by omega) (by omega)⟩, ⟨fun a _ _ => n1 a (by omega) (by omega) (by omega), fun k _ _ => by rw [n1 0 (by omega) (by omega) (by omega)], fun a _ => n1 a (by omega) (by omega) (by omega)⟩, ⟨fun a _ => p1 a (by omega) (by omega) (by omega), fun k _ => pk k (by omega), fun a _ => p1 a (by omega) (by omega) (by omega)⟩⟩
    · rw [cF (show ¬ 12 ≤ μ 1 1 by omega), cF (show ¬ 12 ≤ ρ 86 9 by omega), e_W_order_19, e_M_order_16]
      exact ⟨_, _, _, rfl, rfl, ⟨hB, hT, rfl⟩, KF_refl μ, KR_refl ρ⟩
  · rw [decide_eq_false h0, cond_false, cond_false, e_W_order_19, e_M_order_16]
    exact ⟨_, _, _, rfl, rfl, ⟨hB, hT, rfl⟩, KF_refl μ, KR_refl ρ⟩
