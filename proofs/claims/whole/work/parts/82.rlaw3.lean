/-! the reference reads a law's text: all of a sum -/
def ncM (c : Int) : Prop := ¬ (c = 42 ∨ c = 47 ∨ c = 37)
def ncS (c : Int) : Prop := ssg c = -1
theorem ssg_no {c : Int} (h1 : ¬ (c = 43 ∨ c = 45)) (h2 : ncM c) : ssg c = -1 := by
  unfold ncM at h2
  have : ¬ (2 ≤ sgs c ∧ sgs c ≤ 6) := by
    unfold sgs
    rw [if_neg (by omega), if_neg (by omega), if_neg (by omega), if_neg (by omega), if_neg (by omega)]
    repeat' split
    all_goals omega
  unfold ssg
  rw [if_neg this]
def APost (μ : Mu) (z : zZ) (e : Nat) (b : Row) (n v : Nat) (x : mR) (E Q s o mx lo : Nat) (tc : Int → Prop) (lst : Row) (lq : Nat) (wt : Row) (C : Row → Prop) : Prop := ∃ (st' wt' : Row) (m' : Int) (P' : List Nat) (q' : Nat), x = Lp z e v (UQ μ st' wt' (E : Int) (q' : Int) ((s + P'.length : Nat) : Int) (o : Int) m') ∧ q' + P'.length = Q ∧ pnd wt' s P' ∧ P'.length ≤ mx ∧ (∀ t, t ∈ P' → lo ≤ t ∧ t ≤ 6) ∧ tc (tx b n E) ∧ (∀ j, j < lq → emit st' q' P' j = lst j) ∧ (∀ j, j < s → wt' j = wt j) ∧ C (emit st' q' P')
def A4c (μ : Mu) (z : zZ) (e : Nat) (b : Row) (n v f : Nat) : Prop := ∀ (o p q s : Nat) (st wt : Row) (m : Int), p ≤ n → o ≤ 6 → 8 * (n - p) + 1 ≤ f → q + (n - p) ≤ 210 → s + (n - p) ≤ 210 → v ≤ s → ((pz b n f 4 o p).1 ≠ 0 → RF1 μ (Kf z e v (UQ μ st wt (p : Int) (q : Int) (s : Int) (o : Int) m)) (pz b n f 4 o p).1) ∧ ((pz b n f 4 o p).1 = 0 → ∃ (st' wt' : Row) (m' : Int), Kf z e v (UQ μ st wt (p : Int) (q : Int) (s : Int) (o : Int) m) = Lp z e v (UQ μ st' wt' (((pz b n f 4 o p).2 : Nat) : Int) ((q + ln b n f 4 o p : Nat) : Int) (s : Int) (o : Int) m') ∧ (∀ j, j < q → st' j = st j) ∧ (∀ j, j < s → wt' j = wt j) ∧ ∀ to, cdR b st' n to f 4 o p q 0)
def AKc (μ : Mu) (z : zZ) (e : Nat) (b : Row) (n v f md c mx lo : Nat) (sv : Int) (tc : Int → Prop) : Prop := ∀ (o p q s : Nat) (st wt : Row) (m : Int), p ≤ n → o ≤ 6 → 8 * (n - p) + c ≤ f → q + (n - p) ≤ 210 → s + (n - p) ≤ 210 → v ≤ s → stp sv wt s → ((pz b n f md o p).1 ≠ 0 → RF1 μ (Kf z e v (UQ μ st wt (p : Int) (q : Int) (s : Int) (o : Int) m)) (pz b n f md o p).1) ∧ ((pz b n f md o p).1 = 0 → APost μ z e b n v (Kf z e v (UQ μ st wt (p : Int) (q : Int) (s : Int) (o : Int) m)) (pz b n f md o p).2 (q + ln b n f md o p) s o mx lo tc st q wt (fun r => ∀ to, cdR b r n to f md o p q 0))
def ALc (μ : Mu) (z : zZ) (e : Nat) (b : Row) (n v f md mx lo : Nat) (sv : Int) (hc tc : Int → Prop) : Prop := ∀ (o p q s : Nat) (P : List Nat) (st wt : Row) (m : Int), p ≤ n → o ≤ 6 → 8 * (n - p) + 1 ≤ f → q + P.length + (n - p) ≤ 210 → s + (n - p) ≤ 210 → v ≤ s → stp sv wt s → pnd wt s P → P.length ≤ mx → (∀ t, t ∈ P → lo ≤ t ∧ t ≤ 6) → hc (tx b n p) → ((pz b n f md o p).1 ≠ 0 → RF1 μ (Lp z e v (UQ μ st wt (p : Int) (q : Int) ((s + P.length : Nat) : Int) (o : Int) m)) (pz b n f md o p).1) ∧ ((pz b n f md o p).1 = 0 → APost μ z e b n v (Lp z e v (UQ μ st wt (p : Int) (q : Int) ((s + P.length : Nat) : Int) (o : Int) m)) (pz b n f md o p).2 (q + P.length + ln b n f md o p) s o mx lo tc (emit st q P) (q + P.length) wt (fun r => ∀ to, cdR b r n to f md o p (q + P.length) 0))
theorem RF1_i {μ : Mu} {x : mR} {F : Int} {st wt : Row} {p q s o m : Int} (h : x = some (0, zup (UQ μ st wt p q s o m) 86 12 F)) : RF1 μ x F := ⟨st, wt, p, q, s, o, m, h⟩
theorem stp_01 {wt : Row} {s : Nat} (h : stp 1 wt s) : stp 0 wt s := ⟨h.1, fun q => absurd q.1 (by decide)⟩
theorem stp_add {wt : Row} {s t : Nat} (h2 : 2 ≤ t) (h3 : t ≤ 3) : stp 0 (rup wt s ((1048576 * t : Nat) : Int)) (s + 1) := by
  have hw : wtop (rup wt s ((1048576 * t : Nat) : Int)) (s + 1) = (t : Int) := wtop_s (v := 0) (by omega) (by decide) rup_same
  refine ⟨by rw [hw]; omega, fun q => absurd q.1 (by decide)⟩
theorem stp_14 {wt : Row} {s : Nat} : stp 1 (rup wt s ((1048576 * 14 : Nat) : Int)) (s + 1) := by
  have hw : wtop (rup wt s ((1048576 * 14 : Nat) : Int)) (s + 1) = 14 := wtop_s (t := 14) (v := 0) (by omega) (by decide) rup_same
  exact ⟨by rw [hw]; omega, by rw [hw]; omega⟩
theorem a4 {μ : Mu} {z : zZ} {e n v f : Nat} {b : Row} (he : 4 ≤ e) (hx : CX μ b n) (h0 : AKc μ z e b n v f 0 3 2 2 1 ncS) : A4c μ z e b n v (f + 1) := by
  intro o p q s st wt m hp ho hf hq hs hv
  have hn := hx.2.1
  by_cases h91 : tx b n p = 91
  · have hpn : p < n := tx_lt h91 (by decide)
    have hl : ln b n (f + 1) 4 o p = ln b n f 0 (o + 1) (p + 1) := by simp only [ln, Nat.reduceEqDiff, if_false, if_true, if_pos h91]
    have hcd : ∀ st to, cdR b st n to (f + 1) 4 o p q 0 = cdR b st n to f 0 (o + 1) (p + 1) q 0 := fun st to => by simp only [cdR, Nat.reduceEqDiff, if_false, if_true, if_pos h91]
    by_cases h6 : 6 ≤ o
    · have hz : pz b n (f + 1) 4 o p = (-5000 - (p : Int), p) := by simp only [pz, Nat.reduceEqDiff, if_false, if_true, if_pos h91, if_pos h6]
      have o6 : o = 6 := by omega
      subst o6
      rw [hz]
      refine ⟨fun _ => ⟨st, wt, p, q, s, 6, m, ?_⟩, fun h => absurd h (by dsimp only; omega)⟩
      exact K_openNo (by omega) hx h91 hp
    · rw [K_open (by omega) hx h91 (by omega) (by omega) hp]
      have hA := h0 (o + 1) (p + 1) q (s + 1) st (rup wt s ((1048576 * 14 : Nat) : Int)) m hpn (by omega) (by omega) (by omega) (by omega) (by omega) stp_14
      by_cases hF : (pz b n f 0 (o + 1) (p + 1)).1 = 0
      · obtain ⟨st', wt', m', P', q', r1, r2, r3, r4, r5, r6, r7, r8, r9⟩ := hA.2 hF
        have zl := pz_ln f 0 (o + 1) (p + 1) hpn hF
        have h14 : wt' s = ((1048576 * 14 : Nat) : Int) := by rw [r8 s (by omega), rup_same]
        rw [r1]
        by_cases h93 : tx b n (pz b n f 0 (o + 1) (p + 1)).2 = 93
        · have hE := tx_lt h93 (by decide)
          have hz : pz b n (f + 1) 4 o p = (0, (pz b n f 0 (o + 1) (p + 1)).2 + 1) := by
            simp only [pz, Nat.reduceEqDiff, if_false, if_true, if_pos h91, if_neg h6, if_pos h93]
            rw [if_neg (by intro h; exact h hF)]
          rw [hz, hl]
          refine ⟨fun h => absurd rfl h, fun _ => ⟨emit st' q' P', wt', m', ?_, r7, fun j hj => by rw [r8 j (by omega), rup_ne (by omega)], fun to => by rw [hcd]; exact r9 to⟩⟩
          rw [L_bracket he hx zl.1 h93 r3 r5 h14 (by omega) (by omega) hv (by omega), r2]
        · have hz : pz b n (f + 1) 4 o p = (-1000 - (((pz b n f 0 (o + 1) (p + 1)).2 : Nat) : Int), (pz b n f 0 (o + 1) (p + 1)).2) := by
            simp only [pz, Nat.reduceEqDiff, if_false, if_true, if_pos h91, if_neg h6, if_neg h93]
            rw [if_neg (by intro h; exact h hF)]
          have hd14 : z_div (wt' s) 1048576 = 14 := by
            rw [h14]
            exact cod_op (t := 14) (v := 0) (by decide) (by decide)
          rw [hz]
          refine ⟨fun _ => ?_, fun h => absurd h (by dsimp only; omega)⟩
          rw [L_stop he hx r6 h93, L_139 he hx zl.1 (by omega) ⟨s, hv, by omega, hd14⟩]
          exact RF1_i rfl
      · have hz : pz b n (f + 1) 4 o p = pz b n f 0 (o + 1) (p + 1) := by
          simp only [pz, Nat.reduceEqDiff, if_false, if_true, if_pos h91, if_neg h6]
          rw [if_pos hF]
        rw [hz]
        exact ⟨fun _ => hA.1 hF, fun h => absurd h hF⟩
  · have hl : ln b n (f + 1) 4 o p = 1 := by simp only [ln, Nat.reduceEqDiff, if_false, if_true, if_neg h91]
    by_cases hg : isg b n p = true
    · have hK := K_num (z := z) (e := e) (v := v) (q := q) (st := st) (wt := wt) (s := (s : Int)) (o := (o : Int)) (m := m) he hx hp (by omega) hg
      by_cases h6 : dgn b n p = 6
      · have hz : pz b n (f + 1) 4 o p = (-2000 - ((p + 5 : Nat) : Int), p + 5) := by simp only [pz, Nat.reduceEqDiff, if_false, if_true, if_neg h91, if_pos hg, if_pos h6]
        rw [if_pos h6] at hK
        rw [hz]
        exact ⟨fun _ => RF1_i hK, fun h => absurd h (by dsimp only; omega)⟩
      · have hz : pz b n (f + 1) 4 o p = (0, p + dgn b n p) := by simp only [pz, Nat.reduceEqDiff, if_false, if_true, if_neg h91, if_pos hg, if_neg h6]
        have hv5 : dgv b p (dgn b n p) < 100000 := by
          have h5 : dgn b n p ≤ 5 := by have := wl9_le (isg b n) 6 p; unfold dgn at h6 ⊢; omega
          have q1 := dgv_lt (b := b) (p := p) (dgn b n p) (fun j hj => isg_b (wl9_all (isg b n) 6 p j hj))
          have q2 : 10 ^ dgn b n p ≤ 10 ^ 5 := Nat.pow_le_pow_right (by decide) h5
          omega
        rw [if_neg h6] at hK
        rw [hz, hl]
        refine ⟨fun h => absurd rfl h, fun _ => ⟨_, _, _, hK, fun j hj => rup_ne (by omega), fun _ _ => rfl, fun to => ?_⟩⟩
        simp only [cdR, Nat.reduceEqDiff, if_false, if_true, if_neg h91, if_pos hg]
        exact ⟨hv5, rup_same⟩
    · by_cases ht : tlx (tx b n p) = -1
      · have hz : pz b n (f + 1) 4 o p = (-1000 - (p : Int), p) := by
          simp only [pz, Nat.reduceEqDiff, if_false, if_true, if_neg h91, if_neg hg]
          rw [if_neg (by intro h; exact h ht)]
        rw [hz]
        exact ⟨fun _ => RF1_i (K_no he hx hp h91 hg ht), fun h => absurd h (by dsimp only; omega)⟩
      · have hz : pz b n (f + 1) 4 o p = (0, p + 1) := by
          simp only [pz, Nat.reduceEqDiff, if_false, if_true, if_neg h91, if_neg hg]
          rw [if_pos ht]
        rw [hz, hl]
        refine ⟨fun h => absurd rfl h, fun _ => ⟨_, _, _, K_let he hx hp (by omega) h91 hg ht, fun j hj => rup_ne (by omega), fun _ _ => rfl, fun to => ?_⟩⟩
        simp only [cdR, Nat.reduceEqDiff, if_false, if_true, if_neg h91, if_neg hg]
        exact ⟨tlx_nn ht, rup_same⟩
theorem a3 {μ : Mu} {z : zZ} {e n v f : Nat} {b : Row} (he : 4 ≤ e) (hx : CX μ b n) (h4 : A4c μ z e b n v f) (h3 : ALc μ z e b n v f 3 1 4 0 (fun _ => True) ncM) : ALc μ z e b n v (f + 1) 3 1 4 0 (fun _ => True) ncM := by
  intro o p q s P st wt m hp ho hf hq hs hv hst hP hP1 ht _
  have hn := hx.2.1
  by_cases hsg : tx b n p = 42 ∨ tx b n p = 47 ∨ tx b n p = 37
  · have hpn : p < n := by rcases hsg with h | h | h <;> exact tx_lt h (by decide)
    have g4 : 4 ≤ sgs (tx b n p) := by rcases hsg with h | h | h <;> rw [h] <;> decide
    have g6 : sgs (tx b n p) ≤ 6 := by rcases hsg with h | h | h <;> rw [h] <;> decide
    have hl : ln b n (f + 1) 3 o p = ln b n f 4 o (p + 1) + 1 + ln b n f 3 o (pz b n f 4 o (p + 1)).2 := by simp only [ln, Nat.reduceEqDiff, if_false, if_true, if_pos hsg]
    have hcd : ∀ st to, cdR b st n to (f + 1) 3 o p (q + P.length) 0 = (cdR b st n to f 4 o (p + 1) (q + P.length) 0 ∧ st (q + P.length + ln b n f 4 o (p + 1)) = ((1048576 * sgs (tx b n p) : Nat) : Int) ∧ cdR b st n to f 3 o (pz b n f 4 o (p + 1)).2 (q + P.length + ln b n f 4 o (p + 1) + 1) 0) := fun st to => by simp only [cdR, Nat.reduceEqDiff, if_false, if_true, if_pos hsg]
    have hL := L_sign (z := z) (e := e) (v := v) (o := (o : Int)) (m := m) (st := st) (μ := μ) (q := q) he hx hp rfl (by omega) g6 hP (fun t h => ⟨by have := (ht t h).1; omega, (ht t h).2, fun _ => (ht t h).1⟩) (by rw [if_pos g4]; exact hst) (by omega) (by omega) (by omega)
    rw [hL]
    have hA := h4 o (p + 1) (q + P.length) (s + 1) (emit st q P) (rup wt s ((1048576 * sgs (tx b n p) : Nat) : Int)) m hpn ho (by omega) (by omega) (by omega) (by omega)
    by_cases hF : (pz b n f 4 o (p + 1)).1 = 0
    · have hz : pz b n (f + 1) 3 o p = pz b n f 3 o (pz b n f 4 o (p + 1)).2 := by
        simp only [pz, Nat.reduceEqDiff, if_false, if_true, if_pos hsg]
        rw [if_neg (by intro h; exact h hF)]
      have zl := pz_ln f 4 o (p + 1) hpn hF
      obtain ⟨st1, wt1, m1, r1, r2, r3, r4⟩ := hA.2 hF
      have hwt : ∀ j, j < s → wt1 j = wt j := fun j hj => by rw [r3 j (by omega), rup_ne (by omega)]
      have hB := h3 o (pz b n f 4 o (p + 1)).2 (q + P.length + ln b n f 4 o (p + 1)) s [sgs (tx b n p)] st1 wt1 m1 zl.1 ho (by omega) (by show q + P.length + ln b n f 4 o (p + 1) + 1 + _ ≤ 210; omega) (by omega) hv (stp_congr hwt hst) ⟨by show wt1 (s + 0) = _; rw [Nat.add_zero, r3 s (by omega), rup_same], trivial⟩ (Nat.le_refl _) (fun t h => by
        cases h with
        | head => exact ⟨g4, g6⟩
        | tail _ h => cases h) trivial
      rw [hz, hl, r1]
      refine ⟨hB.1, fun hG => ?_⟩
      obtain ⟨st', wt', m', P', q', k1, k2, k3, k4, k5, k6, k7, k8, k9⟩ := hB.2 hG
      have k2' : q' + P'.length = q + P.length + ln b n f 4 o (p + 1) + 1 + ln b n f 3 o (pz b n f 4 o (p + 1)).2 := k2
      have hlow : ∀ j, j < q + P.length + ln b n f 4 o (p + 1) + 1 → emit st' q' P' j = rup st1 (q + P.length + ln b n f 4 o (p + 1)) ((1048576 * sgs (tx b n p) : Nat) : Int) j := fun j hj => k7 j hj
      refine ⟨st', wt', m', P', q', k1, by omega, k3, k4, k5, k6, fun j hj => by rw [hlow j (by omega), rup_ne (by omega), r2 j hj], fun j hj => by rw [k8 j hj, hwt j hj], fun to => ?_⟩
      rw [hcd]
      exact ⟨cdR_congr4 _ _ _ _ _ _ st1 _ (by omega) (fun j h1 h2 => by rw [hlow j (by omega), rup_ne (by omega)]) (r4 to), by rw [hlow _ (by omega), rup_same], k9 to⟩
    · have hz : pz b n (f + 1) 3 o p = pz b n f 4 o (p + 1) := by
        simp only [pz, Nat.reduceEqDiff, if_false, if_true, if_pos hsg]
        rw [if_pos hF]
      rw [hz]
      exact ⟨fun _ => hA.1 hF, fun h => absurd h hF⟩
  · have hz : pz b n (f + 1) 3 o p = (0, p) := by simp only [pz, Nat.reduceEqDiff, if_false, if_true, if_neg hsg]
    have hl : ln b n (f + 1) 3 o p = 0 := by simp only [ln, Nat.reduceEqDiff, if_false, if_true, if_neg hsg]
    rw [hz, hl]
    refine ⟨fun h => absurd rfl h, fun _ => ⟨st, wt, m, P, q, rfl, rfl, hP, hP1, ht, hsg, fun _ _ => rfl, fun _ _ => rfl, fun to => ?_⟩⟩
    simp only [cdR, Nat.reduceEqDiff, if_false, if_true, if_neg hsg]
theorem a2 {μ : Mu} {z : zZ} {e n v f : Nat} {b : Row} (hx : CX μ b n) (h4 : A4c μ z e b n v f) (h3 : ALc μ z e b n v f 3 1 4 0 (fun _ => True) ncM) : AKc μ z e b n v (f + 1) 2 2 1 4 0 ncM := by
  intro o p q s st wt m hp ho hf hq hs hv hst
  have hn := hx.2.1
  have hl : ln b n (f + 1) 2 o p = ln b n f 4 o p + ln b n f 3 o (pz b n f 4 o p).2 := by simp only [ln, Nat.reduceEqDiff, if_false, if_true]
  have hcd : ∀ st to, cdR b st n to (f + 1) 2 o p q 0 = (cdR b st n to f 4 o p q 0 ∧ cdR b st n to f 3 o (pz b n f 4 o p).2 (q + ln b n f 4 o p) 0) := fun st to => by simp only [cdR, Nat.reduceEqDiff, if_false, if_true]
  have hA := h4 o p q s st wt m hp ho (by omega) hq hs hv
  by_cases hF : (pz b n f 4 o p).1 = 0
  · have hz : pz b n (f + 1) 2 o p = pz b n f 3 o (pz b n f 4 o p).2 := by
      simp only [pz, Nat.reduceEqDiff, if_false, if_true]
      rw [if_neg (by intro h; exact h hF)]
    have zl := pz_ln f 4 o p hp hF
    obtain ⟨st1, wt1, m1, r1, r2, r3, r4⟩ := hA.2 hF
    have hB := h3 o (pz b n f 4 o p).2 (q + ln b n f 4 o p) s [] st1 wt1 m1 zl.1 ho (by omega) (by show q + ln b n f 4 o p + 0 + _ ≤ 210; omega) (by omega) hv (stp_congr r3 hst) trivial (Nat.zero_le _) (fun t h => by cases h) trivial
    rw [hz, hl, r1]
    refine ⟨hB.1, fun hG => ?_⟩
    obtain ⟨st', wt', m', P', q', k1, k2, k3, k4, k5, k6, k7, k8, k9⟩ := hB.2 hG
    have k2' : q' + P'.length = q + ln b n f 4 o p + 0 + ln b n f 3 o (pz b n f 4 o p).2 := k2
    have hlow : ∀ j, j < q + ln b n f 4 o p → emit st' q' P' j = st1 j := fun j hj => k7 j hj
    refine ⟨st', wt', m', P', q', k1, by omega, k3, k4, k5, k6, fun j hj => by rw [hlow j (by omega), r2 j hj], fun j hj => by rw [k8 j hj, r3 j hj], fun to => ?_⟩
    rw [hcd]
    exact ⟨cdR_congr4 _ _ _ _ _ _ st1 _ (by omega) (fun j h1 h2 => hlow j h2) (r4 to), k9 to⟩
  · have hz : pz b n (f + 1) 2 o p = pz b n f 4 o p := by
      simp only [pz, Nat.reduceEqDiff, if_false, if_true]
      rw [if_pos hF]
    rw [hz]
    exact ⟨fun _ => hA.1 hF, fun h => absurd h hF⟩
theorem a1 {μ : Mu} {z : zZ} {e n v f : Nat} {b : Row} (he : 4 ≤ e) (hx : CX μ b n) (h2 : AKc μ z e b n v f 2 2 1 4 0 ncM) (h1 : ALc μ z e b n v f 1 2 2 1 ncM ncS) : ALc μ z e b n v (f + 1) 1 2 2 1 ncM ncS := by
  intro o p q s P st wt m hp ho hf hq hs hv hst hP hP1 ht hnm
  have hn := hx.2.1
  by_cases hsg : tx b n p = 43 ∨ tx b n p = 45
  · have hpn : p < n := by rcases hsg with h | h <;> exact tx_lt h (by decide)
    have g2 : 2 ≤ sgs (tx b n p) := by rcases hsg with h | h <;> rw [h] <;> decide
    have g3 : sgs (tx b n p) ≤ 3 := by rcases hsg with h | h <;> rw [h] <;> decide
    have hl : ln b n (f + 1) 1 o p = ln b n f 2 o (p + 1) + 1 + ln b n f 1 o (pz b n f 2 o (p + 1)).2 := by simp only [ln, Nat.one_ne_zero, if_false, if_true, if_pos hsg]
    have hcd : ∀ st to, cdR b st n to (f + 1) 1 o p (q + P.length) 0 = (cdR b st n to f 2 o (p + 1) (q + P.length) 0 ∧ st (q + P.length + ln b n f 2 o (p + 1)) = ((1048576 * sgs (tx b n p) : Nat) : Int) ∧ cdR b st n to f 1 o (pz b n f 2 o (p + 1)).2 (q + P.length + ln b n f 2 o (p + 1) + 1) 0) := fun st to => by simp only [cdR, Nat.one_ne_zero, if_false, if_true, if_pos hsg]
    have hL := L_sign (z := z) (e := e) (v := v) (o := (o : Int)) (m := m) (st := st) (μ := μ) (q := q) he hx hp rfl g2 (by omega) hP (fun t h => ⟨(ht t h).1, (ht t h).2, fun h4 => by omega⟩) (by rw [if_neg (by omega)]; exact hst) (by omega) (by omega) (by omega)
    rw [hL]
    have hA := h2 o (p + 1) (q + P.length) (s + 1) (emit st q P) (rup wt s ((1048576 * sgs (tx b n p) : Nat) : Int)) m hpn ho (by omega) (by omega) (by omega) (by omega) (stp_add g2 g3)
    by_cases hF : (pz b n f 2 o (p + 1)).1 = 0
    · have hz : pz b n (f + 1) 1 o p = pz b n f 1 o (pz b n f 2 o (p + 1)).2 := by
        simp only [pz, Nat.one_ne_zero, if_false, if_true, if_pos hsg]
        rw [if_neg (by intro h; exact h hF)]
      have zl := pz_ln f 2 o (p + 1) hpn hF
      obtain ⟨st1, wt1, m1, P1, q1, r1, r2, r3, r4, r5, r6, r7, r8, r9⟩ := hA.2 hF
      have hwt : ∀ j, j < s → wt1 j = wt j := fun j hj => by rw [r8 j (by omega), rup_ne (by omega)]
      have hlen : (P1 ++ [sgs (tx b n p)]).length = P1.length + 1 := by simp
      have hB := h1 o (pz b n f 2 o (p + 1)).2 q1 s (P1 ++ [sgs (tx b n p)]) st1 wt1 m1 zl.1 ho (by omega) (by omega) (by omega) hv (stp_congr hwt hst) (pnd_app (by rw [r8 s (by omega), rup_same]) P1 r3) (by omega) (fun t h => by
        rcases List.mem_append.mp h with h | h
        · have := r5 t h; omega
        · cases h with
          | head => omega
          | tail _ h => cases h) r6
      rw [hz, hl, r1, show s + 1 + P1.length = s + (P1 ++ [sgs (tx b n p)]).length by omega]
      refine ⟨hB.1, fun hG => ?_⟩
      obtain ⟨st', wt', m', P', q', k1, k2, k3, k4, k5, k6, k7, k8, k9⟩ := hB.2 hG
      have eQ : q1 + (P1 ++ [sgs (tx b n p)]).length = q + P.length + ln b n f 2 o (p + 1) + 1 := by omega
      have hlow : ∀ j, j < q + P.length + ln b n f 2 o (p + 1) + 1 → emit st' q' P' j = rup (emit st1 q1 P1) (q + P.length + ln b n f 2 o (p + 1)) ((1048576 * sgs (tx b n p) : Nat) : Int) j := by
        intro j hj
        rw [k7 j (by omega), emit_app, r2]
        rfl
      refine ⟨st', wt', m', P', q', k1, by omega, k3, k4, k5, k6, fun j hj => by rw [hlow j (by omega), rup_ne (by omega), r7 j hj], fun j hj => by rw [k8 j hj, hwt j hj], fun to => ?_⟩
      rw [hcd]
      refine ⟨cdR_congr4 _ _ _ _ _ _ (emit st1 q1 P1) _ (by omega) (fun j h1 h2 => by rw [hlow j (by omega), rup_ne (by omega)]) (r9 to), by rw [hlow _ (by omega), rup_same], ?_⟩
      have := k9 to
      rw [eQ] at this
      exact this
    · have hz : pz b n (f + 1) 1 o p = pz b n f 2 o (p + 1) := by
        simp only [pz, Nat.one_ne_zero, if_false, if_true, if_pos hsg]
        rw [if_pos hF]
      rw [hz]
      exact ⟨fun _ => hA.1 hF, fun h => absurd h hF⟩
  · have hz : pz b n (f + 1) 1 o p = (0, p) := by simp only [pz, Nat.one_ne_zero, if_false, if_true, if_neg hsg]
    have hl : ln b n (f + 1) 1 o p = 0 := by simp only [ln, Nat.one_ne_zero, if_false, if_true, if_neg hsg]
    rw [hz, hl]
    refine ⟨fun h => absurd rfl h, fun _ => ⟨st, wt, m, P, q, rfl, rfl, hP, hP1, ht, ssg_no hsg hnm, fun _ _ => rfl, fun _ _ => rfl, fun to => ?_⟩⟩
    simp only [cdR, Nat.one_ne_zero, if_false, if_true, if_neg hsg]
theorem a0 {μ : Mu} {z : zZ} {e n v f : Nat} {b : Row} (hx : CX μ b n) (h2 : AKc μ z e b n v f 2 2 1 4 0 ncM) (h1 : ALc μ z e b n v f 1 2 2 1 ncM ncS) : AKc μ z e b n v (f + 1) 0 3 2 2 1 ncS := by
  intro o p q s st wt m hp ho hf hq hs hv hst
  have hn := hx.2.1
  have hl : ln b n (f + 1) 0 o p = ln b n f 2 o p + ln b n f 1 o (pz b n f 2 o p).2 := by simp only [ln, if_true]
  have hcd : ∀ st to, cdR b st n to (f + 1) 0 o p q 0 = (cdR b st n to f 2 o p q 0 ∧ cdR b st n to f 1 o (pz b n f 2 o p).2 (q + ln b n f 2 o p) 0) := fun st to => by simp only [cdR, if_true]
  have hA := h2 o p q s st wt m hp ho (by omega) hq hs hv (stp_01 hst)
  by_cases hF : (pz b n f 2 o p).1 = 0
  · have hz : pz b n (f + 1) 0 o p = pz b n f 1 o (pz b n f 2 o p).2 := by
      simp only [pz, if_true]
      rw [if_neg (by intro h; exact h hF)]
    have zl := pz_ln f 2 o p hp hF
    obtain ⟨st1, wt1, m1, P1, q1, r1, r2, r3, r4, r5, r6, r7, r8, r9⟩ := hA.2 hF
    have hB := h1 o (pz b n f 2 o p).2 q1 s P1 st1 wt1 m1 zl.1 ho (by omega) (by omega) (by omega) hv (stp_congr r8 hst) r3 (by omega) (fun t h => by have := r5 t h; omega) r6
    rw [hz, hl, r1]
    refine ⟨hB.1, fun hG => ?_⟩
    obtain ⟨st', wt', m', P', q', k1, k2, k3, k4, k5, k6, k7, k8, k9⟩ := hB.2 hG
    rw [r2] at k2 k7 k9
    refine ⟨st', wt', m', P', q', k1, by omega, k3, k4, k5, k6, fun j hj => by rw [k7 j (by omega), r7 j hj], fun j hj => by rw [k8 j hj, r8 j hj], fun to => ?_⟩
    rw [hcd]
    exact ⟨cdR_congr4 _ _ _ _ _ _ (emit st1 q1 P1) _ (by omega) (fun j h1 h2 => k7 j h2) (r9 to), k9 to⟩
  · have hz : pz b n (f + 1) 0 o p = pz b n f 2 o p := by
      simp only [pz, if_true]
      rw [if_pos hF]
    rw [hz]
    exact ⟨fun _ => hA.1 hF, fun h => absurd h hF⟩
theorem aAll {μ : Mu} {z : zZ} {e n v : Nat} {b : Row} (he : 4 ≤ e) (hx : CX μ b n) : ∀ f, AKc μ z e b n v f 0 3 2 2 1 ncS ∧ ALc μ z e b n v f 1 2 2 1 ncM ncS ∧ AKc μ z e b n v f 2 2 1 4 0 ncM ∧ ALc μ z e b n v f 3 1 4 0 (fun _ => True) ncM ∧ A4c μ z e b n v f := by
  intro f
  induction f with
  | zero =>
    refine ⟨?_, ?_, ?_, ?_, ?_⟩
    · intro o p q s st wt m hp ho hf; omega
    · intro o p q s P st wt m hp ho hf; omega
    · intro o p q s st wt m hp ho hf; omega
    · intro o p q s P st wt m hp ho hf; omega
    · intro o p q s st wt m hp ho hf; omega
  | succ f ih =>
    obtain ⟨h0, h1, h2, h3, h4⟩ := ih
    exact ⟨a0 hx h2 h1, a1 he hx h2 h1, a2 hx h4 h3, a3 he hx h4 h3, a4 he hx h0⟩
theorem hos_P {wt : Row} {s : Nat} : ∀ P : List Nat, pnd wt s P → (∀ t, t ∈ P → 2 ≤ t ∧ t ≤ 6) → ¬ hos wt s (s + P.length)
  | [], _, _ => by
    intro h
    obtain ⟨k, h1, h2, _⟩ := h
    have : s + ([] : List Nat).length = s := rfl
    omega
  | t :: P, hp, ht => by
    intro h
    obtain ⟨k, h1, h2, h3⟩ := h
    have hl : (t :: P).length = P.length + 1 := rfl
    by_cases hk : k = s + P.length
    · have h4 := ht t (List.mem_cons_self ..)
      have h5 : z_div (wt k) 1048576 = (t : Int) := by
        rw [hk, hp.1]
        exact cod_op (v := 0) (by omega) (by decide)
      omega
    · exact hos_P P hp.2 (fun x hx => ht x (List.mem_cons_of_mem _ hx)) ⟨k, h1, by omega, h3⟩
/-- a sum is read -/
theorem t_readsSum {z : zZ} {d n f o p q s : Nat} {b st wt : Row} {m : Int} {μ : Mu} (hd : 5 ≤ d) (hx : CX μ b n) (hp : p ≤ n) (ho : o ≤ 6) (hf : 8 * (n - p) + 3 ≤ f) (hq : q + (n - p) ≤ 210) (hs : s + (n - p) ≤ 210) (hst : stp 1 wt s) : ((pz b n f 0 o p).1 ≠ 0 → RF1 μ (mC z d 211 [(2, 86)] (UQ μ st wt (p : Int) (q : Int) (s : Int) (o : Int) m)) (pz b n f 0 o p).1) ∧ ((pz b n f 0 o p).1 = 0 → ∃ (st' wt' : Row) (m' : Int), mC z d 211 [(2, 86)] (UQ μ st wt (p : Int) (q : Int) (s : Int) (o : Int) m) = some (1, UQ μ st' wt' (((pz b n f 0 o p).2 : Nat) : Int) ((q + ln b n f 0 o p : Nat) : Int) (s : Int) (o : Int) m') ∧ (∀ j, j < q → st' j = st j) ∧ (∀ j, j < s → wt' j = wt j) ∧ ∀ to, cdR b st' n to f 0 o p q 0) := by
  obtain ⟨e, rfl, he⟩ := pred_of hd
  have hn := hx.2.1
  have hK : mC z (e + 1) 211 [(2, 86)] (UQ μ st wt (p : Int) (q : Int) (s : Int) (o : Int) m) = Kf z e s (UQ μ st wt (p : Int) (q : Int) (s : Int) (o : Int) m) := by
    rw [c_M_readsSum]
    rfl
  have hA := (aAll (z := z) (v := s) he hx f).1 o p q s st wt m hp ho hf hq hs (Nat.le_refl _) hst
  rw [hK]
  refine ⟨hA.1, fun hF => ?_⟩
  have zl := pz_ln f 0 o p hp hF
  obtain ⟨st1, wt1, m1, P1, q1, r1, r2, r3, r4, r5, r6, r7, r8, r9⟩ := hA.2 hF
  refine ⟨emit st1 q1 P1, wt1, m1, ?_, r7, r8, r9⟩
  rw [r1, L_end he hx r6 r3 r5 (stp_congr r8 hst) (by omega) (by omega) (Nat.le_refl _) (hos_P P1 r3 r5), r2]
