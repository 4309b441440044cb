/-! the reference reads acts -/
def rfr (k : Nat) (μ M : Mu) : Prop := (∀ a, a ≠ 86 → a < 111 ∨ 117 < a → M a = μ a) ∧ (∀ i, i ≠ 10 → i ≠ 12 → i ≠ 13 → i ≠ 48 → M 86 i = μ 86 i) ∧ (∀ j, j < k → M 111 j = μ 111 j ∧ M 113 j = μ 113 j ∧ M 115 j = μ 115 j ∧ M 116 j = μ 116 j ∧ M 117 j = μ 117 j) ∧ ∀ j, j < 8 * k → M 112 j = μ 112 j ∧ M 114 j = μ 114 j
theorem rfr_refl (k : Nat) (μ : Mu) : rfr k μ μ := ⟨fun _ _ _ => rfl, fun _ _ _ _ _ => rfl, fun _ _ => ⟨rfl, rfl, rfl, rfl, rfl⟩, fun _ _ => ⟨rfl, rfl⟩⟩
theorem rfr_trans {k : Nat} {μ M K : Mu} (h1 : rfr k μ M) (h2 : rfr k M K) : rfr k μ K := by
  refine ⟨fun a q1 q2 => by rw [h2.1 a q1 q2, h1.1 a q1 q2], fun i q1 q2 q3 q4 => by rw [h2.2.1 i q1 q2 q3 q4, h1.2.1 i q1 q2 q3 q4], fun j hj => ?_, fun j hj => ?_⟩
  · obtain ⟨a1, a2, a3, a4, a5⟩ := h1.2.2.1 j hj
    obtain ⟨b1, b2, b3, b4, b5⟩ := h2.2.2.1 j hj
    exact ⟨by rw [b1, a1], by rw [b2, a2], by rw [b3, a3], by rw [b4, a4], by rw [b5, a5]⟩
  · obtain ⟨a1, a2⟩ := h1.2.2.2 j hj
    obtain ⟨b1, b2⟩ := h2.2.2.2 j hj
    exact ⟨by rw [b1, a1], by rw [b2, a2]⟩
theorem rfr_86 {k i : Nat} {v : Int} {μ : Mu} (hi : i = 10 ∨ i = 12 ∨ i = 13 ∨ i = 48) : rfr k μ (zup μ 86 i v) :=
  ⟨fun a q1 _ => zup_ro q1, fun j q1 q2 q3 q4 => zup_nk (by omega), fun j _ => ⟨by rw [zup_ro (by omega)], by rw [zup_ro (by omega)], by rw [zup_ro (by omega)], by rw [zup_ro (by omega)], by rw [zup_ro (by omega)]⟩, fun j _ => ⟨by rw [zup_ro (by omega)], by rw [zup_ro (by omega)]⟩⟩
theorem rfr_act {k a i : Nat} {v : Int} {μ : Mu} (ha : a = 111 ∨ a = 113 ∨ a = 115 ∨ a = 116 ∨ a = 117) (hi : k ≤ i) : rfr k μ (zup μ a i v) :=
  ⟨fun c q1 q2 => zup_ro (by omega), fun j _ _ _ _ => zup_na (by omega), fun j hj => ⟨zup_nk (by omega), zup_nk (by omega), zup_nk (by omega), zup_nk (by omega), zup_nk (by omega)⟩, fun j _ => ⟨zup_na (by omega), zup_na (by omega)⟩⟩
theorem rfr_rdw {k a p m : Nat} {b : Row} {μ : Mu} (ha : a = 112 ∨ a = 114) : rfr k μ (rdw μ a (8 * k) b p m) := by
  have hrow : ∀ c, c ≠ 86 → c ≠ a → rdw μ a (8 * k) b p m c = μ c := fun c h1 h2 => rdw_ne h1 h2
  refine ⟨fun c q1 q2 => hrow c q1 (by omega), fun j q1 _ q3 _ => rdw_86 q1 q3, fun j _ => ⟨by rw [hrow _ (by omega) (by omega)], by rw [hrow _ (by omega) (by omega)], by rw [hrow _ (by omega) (by omega)], by rw [hrow _ (by omega) (by omega)], by rw [hrow _ (by omega) (by omega)]⟩, fun j hj => ?_⟩
  have hin : rdr (μ a) (8 * k) b p m j = μ a j := by
    unfold rdr
    rw [if_neg (by omega)]
  rcases ha with h | h
  · subst h
    exact ⟨by rw [rdw_a (by omega)]; exact hin, by rw [hrow _ (by omega) (by omega)]⟩
  · subst h
    exact ⟨by rw [hrow _ (by omega) (by omega)], by rw [rdw_a (by omega)]; exact hin⟩
theorem t_word {z : zZ} {d p n k a : Nat} {b : Row} {μ : Mu} (hd : 3 ≤ d) (h2 : μ 86 10 = (p : Int)) (h3 : μ 86 11 = (n : Int)) (h48 : μ 86 48 = (k : Int)) (hk : k < 12) (hn : n ≤ 220) (hp : p ≤ n) (hb : tpe μ b) (ha : a = 112 ∨ a = 114) : ∃ r M, mC z d 195 [(2, 86), (2, (a : Int)), (0, ((8 * k : Nat) : Int))] μ = some (bi r, M) ∧ rfr k μ M ∧ M 86 48 = (k : Int) ∧ M 86 11 = (n : Int) ∧ (∀ c, c ≠ 86 → c ≠ a → M c = μ c) ∧ ((wF b n p = 0 ∧ r = true ∧ M 86 10 = ((p + wln b n p : Nat) : Int) ∧ M 86 13 = ((wln b n p : Nat) : Int) ∧ rwd M a (8 * k) (wln b n p) (wcd b p (wln b n p))) ∨ (wF b n p ≠ 0 ∧ r = false ∧ M 86 12 = wF b n p)) := by
  have hia : iar a 96 := by rcases ha with h | h <;> subst h; exact ia112; exact ia114
  have hT := t_readsWord (z := z) (d := d) (a := a) (la := 96) (i := 8 * k) hd h2 h3 hn hp hb hia (by omega) (by omega) (by omega) (by omega)
  by_cases c1 : wln b n p = 0
  · rw [if_pos c1] at hT
    have e1 : wF b n p = -1000 - (p : Int) := by unfold wF; rw [if_pos c1]
    refine ⟨false, _, hT, rfr_trans (rfr_86 (by omega)) (rfr_86 (by omega)), by rw [zup_nk (by omega), zup_nk (by omega)]; exact h48, by rw [zup_nk (by omega), zup_nk (by omega)]; exact h3, fun c q1 _ => by rw [zup_ro q1, zup_ro q1], Or.inr ⟨by rw [e1]; omega, rfl, by rw [e1]; exact zup_hit⟩⟩
  · rw [if_neg c1] at hT
    by_cases c2 : wln b n p ≤ 8
    · rw [if_pos c2] at hT
      have e1 : wF b n p = 0 := by unfold wF; rw [if_neg c1, if_neg (by omega)]
      exact ⟨true, _, hT, rfr_rdw ha, by rw [rdw_86 (by omega) (by omega)]; exact h48, by rw [rdw_86 (by omega) (by omega)]; exact h3, fun c q1 q2 => rdw_ne q1 q2, Or.inl ⟨e1, rfl, rdw_10, rdw_13, rwd_rdw (by omega) c2 wln_b⟩⟩
    · rw [if_neg c2] at hT
      have e1 : wF b n p = -3000 - ((p + 8 : Nat) : Int) := by unfold wF; rw [if_neg c1, if_pos (by omega)]
      exact ⟨false, _, hT, rfr_trans (rfr_rdw ha) (rfr_86 (by omega)), by rw [zup_nk (by omega), rdw_86 (by omega) (by omega)]; exact h48, by rw [zup_nk (by omega), rdw_86 (by omega) (by omega)]; exact h3, fun c q1 q2 => by rw [zup_ro q1, rdw_ne q1 q2], Or.inr ⟨by rw [e1]; omega, rfl, by rw [e1]; exact zup_hit⟩⟩
theorem t_first {z : zZ} {d p n k : Nat} {b : Row} {μ : Mu} (hd : 4 ≤ d) (h2 : μ 86 10 = (p : Int)) (h3 : μ 86 11 = (n : Int)) (h48 : μ 86 48 = (k : Int)) (hk : k < 12) (hn : n ≤ 220) (hp : p ≤ n) (hb : tpe μ b) : ∃ r M, mC z d 231 [(2, 86)] μ = some (bi r, M) ∧ rfr k μ M ∧ M 86 48 = (k : Int) ∧ M 86 11 = (n : Int) ∧ (∀ c, c ≠ 86 → c ≠ 112 → c ≠ 113 → M c = μ c) ∧ ((wF b n p = 0 ∧ r = true ∧ M 86 10 = ((p + wln b n p : Nat) : Int) ∧ M 113 k = ((wln b n p : Nat) : Int) ∧ rwd M 112 (8 * k) (wln b n p) (wcd b p (wln b n p))) ∨ (wF b n p ≠ 0 ∧ r = false ∧ M 86 12 = wF b n p)) := by
  obtain ⟨e, rfl, he⟩ := pred_of hd
  obtain ⟨r, M, g1, g2, g3, g4, g5, g6⟩ := t_word (z := z) (d := e) (a := 112) he h2 h3 h48 hk hn hp hb (Or.inl rfl)
  simp -implicitDefEqProofs only [Int.cast_ofNat_Int] at g1
  rw [c_M_readsFirst, h48, z8 (by omega), g1]
  simp -implicitDefEqProofs only [ob]
  rw [g3, gI_ok (by omega) (by omega), g01b, Int.toNat_natCast]
  refine ⟨r, _, rfl, rfr_trans g2 (rfr_act (by omega) (Nat.le_refl _)), by rw [zup_ro (by omega)]; exact g3, by rw [zup_ro (by omega)]; exact g4, fun c q1 q2 q3 => by rw [zup_ro q3, g5 c q1 q2], ?_⟩
  rcases g6 with ⟨c1, c2, c3, c4, c5⟩ | ⟨c1, c2, c3⟩
  · left
    exact ⟨c1, c2, by rw [zup_ro (by omega)]; exact c3, by rw [zup_hit]; exact c4, rwd_congr c5 (fun q _ => by rw [zup_ro (by omega)])⟩
  · right
    exact ⟨c1, c2, by rw [zup_ro (by omega)]; exact c3⟩
def kc (K : Int) : Int := if K = 43 then 0 else if K = 45 then 1 else if K = 126 then 2 else if K = 63 then 4 else 3
def rA (μ : Mu) (a : Nat) (K A O : Int) : Prop := μ 111 a = kc K ∧ (∃ l : Nat, 1 ≤ l ∧ μ 113 a = (l : Int) ∧ rwd μ 112 (8 * a) l A ∧ (K = 63 → ∃ q x : Nat, μ 116 a = (q : Int) ∧ μ 117 a = (x : Int) ∧ O = 16 * (q : Int) + (x : Int) ∧ q < l ∧ x < 12)) ∧ (K = 62 → ∃ l : Nat, 1 ≤ l ∧ μ 115 a = (l : Int) ∧ rwd μ 114 (8 * a) l O)
theorem rA_rfr {μ M : Mu} {k a : Nat} {K A O : Int} (h : rA μ a K A O) (hf : rfr k μ M) (ha : a < k) : rA M a K A O := by
  obtain ⟨h1, ⟨l, l1, l2, l3, l4⟩, h3⟩ := h
  obtain ⟨a1, a2, a3, a4, a5⟩ := hf.2.2.1 a ha
  have l8 := l3.1.2.1
  refine ⟨by rw [a1]; exact h1, ⟨l, l1, by rw [a2]; exact l2, rwd_congr l3 (fun q hq => (hf.2.2.2 _ (by omega)).1), fun hk => ?_⟩, fun hk => ?_⟩
  · obtain ⟨q, x, b1, b2, b3⟩ := l4 hk
    exact ⟨q, x, by rw [a4]; exact b1, by rw [a5]; exact b2, b3⟩
  · obtain ⟨l', b1, b2, b3⟩ := h3 hk
    have b8 := b3.1.2.1
    exact ⟨l', b1, by rw [a3]; exact b2, rwd_congr b3 (fun q hq => (hf.2.2.2 _ (by omega)).2)⟩
