/-! a letter finds a soldier: the reference -/
def BQ (E : Nat → Nat → Bool) (U : Nat → Bool) (T : Row) (k : Nat) (C : Row) (qf : Nat → Nat) (n : Nat) : Prop := (∀ t, t < n → qf t < 24 ∧ U (qf t) = false ∧ T (qf t) ≠ -1 ∧ ((C (qf t) = -1 ∧ E k (qf t) = true) ∨ ∃ t', t' < t ∧ C (qf t) = (qf t' : Int) ∧ ∀ x : Nat, T (qf t') = (x : Int) → E x (qf t) = true)) ∧ (∀ t t', t < n → t' < n → qf t = qf t' → t = t') ∧ ∀ i, i < 24 → (C i ≠ -2 ↔ ∃ t, t < n ∧ qf t = i)
theorem inj24 {qf : Nat → Nat} {n : Nat} (h1 : ∀ t, t < n → qf t < 24) (h2 : ∀ t t', t < n → t' < n → qf t = qf t' → t = t') : n ≤ 24 := by
  have h := inj_cnt (h := qf) (p := fun _ => true) (m := 24) n (fun _ => true) (fun i hi _ => ⟨h1 i hi, rfl⟩) (fun i j hi hj _ _ e => h2 i j hi hj e)
  have h3 := cnt_le (fun _ => true) 24
  have h4 : ∀ m, cnt (fun _ : Nat => true) m = m := by
    intro m
    induction m with
    | zero => rfl
    | succ m ih => rw [cnt_succ, ih, if_pos rfl]
  rw [h4] at h
  omega
def RG (G : Row) (U : Nat → Bool) (t T : Row) : Prop := ∀ i, i < 24 → G i = if U i = true then t i else T i
/-- letters after a move -/
def MVd (E : Nat → Nat → Bool) (U : Nat → Bool) (T T' : Row) (y : Nat) : Prop := (∀ x, x < 8 → ctx T' x = ctx T x + (if x = y then 1 else 0)) ∧ ∀ i, i < 24 → T' i = T i ∨ (U i = false ∧ ∃ x : Nat, x < 8 ∧ T' i = (x : Int) ∧ E x i = true)
theorem MVd_rup {E : Nat → Nat → Bool} {U : Nat → Bool} {T T' : Row} {i j y : Nat} (hi : i < 24) (hy : y < 8) (hM : MVd E U T T' j) (hj : T' i = (j : Int)) (hne : j ≠ y) (hU : U i = false) (hE : E y i = true) : MVd E U T (rup T' i (y : Int)) y := by
  refine ⟨fun x hx => ?_, fun i' hi' => ?_⟩
  · have l1 := ctx_rup (T := T') (k := y) (x := x) hi hj (by omega)
    have l2 := hM.1 x hx
    by_cases q1 : x = y
    · rw [if_pos q1] at l1 ⊢
      rw [if_neg (show ¬ (x : Int) = (j : Int) by omega)] at l1
      rw [if_neg (show ¬ x = j by omega)] at l2
      omega
    · rw [if_neg q1] at l1 ⊢
      by_cases q2 : x = j
      · rw [if_pos (show (x : Int) = (j : Int) by omega)] at l1
        rw [if_pos q2] at l2
        omega
      · rw [if_neg (show ¬ (x : Int) = (j : Int) by omega)] at l1
        rw [if_neg q2] at l2
        omega
  · by_cases q : i' = i
    · subst q; right; exact ⟨hU, y, hy, rup_same, hE⟩
    · rw [rup_ne q]; exact hM.2 i' hi'
theorem MVd_first {E : Nat → Nat → Bool} {U : Nat → Bool} {T : Row} {i y : Nat} (hi : i < 24) (hy : y < 8) (hj : T i = -1) (hU : U i = false) (hE : E y i = true) : MVd E U T (rup T i (y : Int)) y := by
  refine ⟨fun x hx => ?_, fun i' hi' => ?_⟩
  · have l1 := ctx_rup (T := T) (k := y) (x := x) hi hj (by omega)
    rw [if_neg (show ¬ (x : Int) = -1 by omega)] at l1
    by_cases q1 : x = y
    · rw [if_pos q1] at l1 ⊢; omega
    · rw [if_neg q1] at l1 ⊢; omega
  · by_cases q : i' = i
    · subst q; right; exact ⟨hU, y, hy, rup_same, hE⟩
    · rw [rup_ne q]; left; rfl
theorem MVd_PM {E : Nat → Nat → Bool} {U : Nat → Bool} {f k : Nat} {T T' : Row} (hk : k < 8) (hfk : f ≤ k) (hP : PM E U f k T) (hM : MVd E U T T' k) : PM E U f (k + 1) T' := by
  refine ⟨fun x hx => ?_, fun i hi => ?_⟩
  · rw [hM.1 x hx, hP.1 x hx]
    by_cases q1 : x = k
    · subst q1; rw [if_neg (by omega), if_pos rfl, if_pos (by omega)]
    · rw [if_neg q1]
      by_cases q2 : f ≤ x ∧ x < k
      · rw [if_pos q2, if_pos (by omega)]
      · rw [if_neg q2, if_neg (by omega)]
  · rcases hM.2 i hi with q | ⟨q1, x, q2, q3, q4⟩
    · rw [q]; exact hP.2 i hi
    · exact Or.inr ⟨x, q2, q3, q4, q1⟩
/-- those on the way are moved -/
theorem t_moves {z : zZ} {e f k n : Nat} {E : Nat → Nat → Bool} {U : Nat → Bool} {t T : Row} {qf : Nat → Nat} {C : Row} (hk : k < 8) (hfk : f ≤ k) (hP : PM E U f k T) (hB : BQ E U T k C qf n) : ∀ (m : Nat), m < n → ∀ (M : Mu) (T' : Row) (y : Nat), T (qf m) = (y : Int) → (∀ i, i < 24 → M 138 i = C i ∨ U i = true ∨ T i = -1) → RG (M 137) U t T' → MVd E U T T' y → (∀ m', m' ≤ m → T' (qf m') = T (qf m')) → ∃ M', f_M_moves_2 z e (k : Int) (qf m : Int) M = some (0, M') ∧ (∀ a, a ≠ 137 → M' a = M a) ∧ ∃ T'', RG (M' 137) U t T'' ∧ PM E U f (k + 1) T'' := by
  intro m
  induction m using Nat.strongRecOn with
  | ind m ih =>
    intro hm M T' y hy hC hR hM hun
    obtain ⟨b1, b2, b3, b4⟩ := hB.1 m hm
    have hT'm : T' (qf m) = (y : Int) := by rw [hun m (Nat.le_refl _)]; exact hy
    have hyk : y < 8 ∧ f ≤ y ∧ y < k := by
      rcases hP.2 (qf m) b1 with q | ⟨x, q1, q2, q3, q4⟩
      · exact absurd q b3
      · have : x = y := by rw [hy] at q2; omega
        subst this
        exact ⟨q1, PM_rg hP b1 q1 q2⟩
    have hCm : M 138 (qf m) = C (qf m) := by
      rcases hC (qf m) b1 with q | q | q
      · exact q
      · rw [b2] at q; exact absurd q (by decide)
      · exact absurd q b3
    have hRup : ∀ v : Nat, RG (zup M 137 (qf m) (v : Int) 137) U t (rup T' (qf m) (v : Int)) := fun v i hi => by
      by_cases q : i = qf m
      · subst q; rw [zup_hit, if_neg (by rw [b2]; decide), rup_same]
      · rw [zup_nk q, rup_ne q]; exact hR i hi
    rcases b4 with ⟨c1, c2⟩ | ⟨m', c1, c2, c3⟩
    · rw [e_M_moves_2, gI_ok (by omega) (by omega), Int.toNat_natCast, cT (hCm.trans c1), gI_ok (by omega) (by omega)]
      exact ⟨_, rfl, fun a q => zup_ro q, _, hRup k, MVd_PM hk hfk hP (MVd_rup b1 hk hM hT'm (by omega) b2 c2)⟩
    · obtain ⟨d1, d2, d3, d4⟩ := hB.1 m' (by omega)
      obtain ⟨y', hy'⟩ : ∃ y' : Nat, T (qf m') = (y' : Int) := by
        rcases hP.2 (qf m') d1 with q | ⟨x, q1, q2, q3, q4⟩
        · exact absurd q d3
        · exact ⟨x, q2⟩
      have hyk' : y' < 8 := by
        rcases hP.2 (qf m') d1 with q | ⟨x, q1, q2, q3, q4⟩
        · exact absurd q d3
        · rw [hy'] at q2; omega
      have hne : y ≠ y' := by
        intro q
        subst q
        have h1 := ctx_inj (T := T) (x := y) (by rw [hP.1 y hyk']; split <;> omega) b1 d1 hy hy'
        have h2 := hB.2.1 m m' hm (by omega) h1
        omega
      have hqne : ∀ m'', m'' < m → qf m'' ≠ qf m := fun m'' q1 q2 => by
        have := hB.2.1 m'' m (by omega) hm q2
        omega
      have hG' : M 137 (qf m') = (y' : Int) := by
        rw [hR _ d1, if_neg (by rw [d2]; decide), hun m' (by omega)]
        exact hy'
      have hCeq : M 138 (qf m) = (qf m' : Int) := hCm.trans c2
      rw [e_M_moves_2, gI_ok (by omega) (by omega), Int.toNat_natCast, cF (show ¬ M 138 (qf m) = -1 by rw [hCeq]; omega), hCeq, gI_ok (by omega) (by omega), gI_ok (by omega) (by omega), Int.toNat_natCast, hG']
      first
        | rw [gI_ok (by omega) (by omega), gI_ok (by omega) (by omega)]
        | rw [gI_ok (by omega) (by omega)]
        | skip
      obtain ⟨M', g1, g2, g3⟩ := ih m' c1 (by omega) (zup M 137 (qf m) (y' : Int)) (rup T' (qf m) (y' : Int)) y' hy' (fun i hi => by rw [zup_ro (by omega)]; exact hC i hi) (hRup y') (MVd_rup b1 hyk' hM hT'm hne b2 (c3 y' hy')) (fun m'' hm'' => by rw [rup_ne (hqne m'' (by omega))]; exact hun m'' (by omega))
      exact ⟨M', g1, fun a q => by rw [g2 a q, zup_ro q], g3⟩
def FFm (μ M : Mu) : Prop := ∀ a, a ≠ 137 → a ≠ 138 → a ≠ 139 → M a = μ a
theorem FFm_refl (μ : Mu) : FFm μ μ := fun _ _ _ _ => rfl
theorem FFm_trans {A B C : Mu} (h1 : FFm A B) (h2 : FFm B C) : FFm A C := fun a p q r => by rw [h2 a p q r, h1 a p q r]
def edR (P : Mu) (h : Nat) (k i : Nat) : Bool := decide (P 136 (24 * k + i) ≤ (h : Int))
theorem zk24r {k i : Nat} (hk : k < 20) (hi : i < 30) : zw (zw (24 * (k : Int)) + (i : Int)) = ((24 * k + i : Nat) : Int) := by
  rw [zw_id (x := 24 * (k : Int)) (by omega) (by omega), zw_id (by omega) (by omega)]
  omega
theorem t_finds {z : zZ} {d k h f N : Nat} {U : Nat → Bool} {t T : Row} {μ : Mu} (hd : 2 ≤ d) (hk : k < N) (hN : N ≤ 8) (hfk : f ≤ k) (ht : ∀ i, i < 24 → U i = true → 0 ≤ t i ∧ t i < (f : Int)) (hP : PM (edR μ h) U f k T) (hR : RG (μ 137) U t T) : ∃ (b : Bool) (M' : Mu), mC z d 294 [(2, 86), (0, (k : Int)), (0, (h : Int)), (0, (f : Int))] μ = some (bi b, M') ∧ FFm μ M' ∧ (b = true → ∃ T', RG (M' 137) U t T' ∧ PM (edR μ h) U f (k + 1) T') ∧ (b = false → RG (M' 137) U t T ∧ ¬ MT (edR μ h) U f N) := by
  obtain ⟨e, rfl, he⟩ := pred_of (k := 1) hd
  obtain ⟨e2, rfl, he2⟩ := pred_of (k := 0) he
  rw [c_M_finds]
  -- the state of a soldier
  have hst : ∀ (M : Mu) (i : Nat), i < 24 → RG (M 137) U t T → (U i = true ∧ M 137 i ≠ -1 ∧ M 137 i < (f : Int)) ∨ (U i = false ∧ M 137 i = T i ∧ (T i = -1 ∨ ∃ x : Nat, T i = (x : Int) ∧ x < 8 ∧ f ≤ x ∧ x < k)) := fun M i hi hr => by
    cases hU : U i with
    | true =>
      left
      have := ht i hi hU
      rw [hr i hi, if_pos hU]
      exact ⟨rfl, by omega, this.2⟩
    | false =>
      right
      rw [hr i hi, if_neg (by rw [hU]; decide)]
      refine ⟨rfl, rfl, ?_⟩
      rcases hP.2 i hi with q | ⟨x, q1, q2, q3, q4⟩
      · exact Or.inl q
      · exact Or.inr ⟨x, q2, q1, PM_rg hP hi q1 q2⟩
  have stage : ∀ (j q n at' : Nat) (fr : Int) (qf : Nat → Nat) (M : Mu), j + q = 25 → q ≤ n → FFm μ M → RG (M 137) U t T → BQ (edR μ h) U T k (M 138) qf n → (∀ m, m < n → M 139 m = (qf m : Int)) → at' < 8 → (fr = -1 ∧ at' = k ∧ q = 0 ∨ ∃ q', q = q' + 1 ∧ fr = (qf q' : Int) ∧ T (qf q') = (at' : Int)) → (0 < q → ∀ i, i < 24 → edR μ h k i = true → U i = false → M 138 i ≠ -2) → (∀ m, m + 1 < q → ∀ x : Nat, T (qf m) = (x : Int) → ∀ i, i < 24 → edR μ h x i = true → U i = false → M 138 i ≠ -2) → ∃ (b : Bool) (M' : Mu), f_M_finds_37 z (e2 + 1) (k : Int) (h : Int) (f : Int) (n : Int) (at' : Int) fr (q : Int) M = some (bi b, M') ∧ FFm μ M' ∧ (b = true → ∃ T', RG (M' 137) U t T' ∧ PM (edR μ h) U f (k + 1) T') ∧ (b = false → RG (M' 137) U t T ∧ ¬ MT (edR μ h) U f N) := by
    intro j
    induction j with
    | zero =>
      intro q n at' fr qf M hj hqn hF hr hB h139 _ _ _ _
      have := inj24 (fun t ht => (hB.1 t ht).1) hB.2.1
      omega
    | succ j ihj =>
      intro q n at' fr qf M hj hqn hF hr hB h139 hat hfr hk0 hpr
      rw [e_M_finds_37]
      have inner : ∀ (jj i n : Nat) (qf' : Nat → Nat) (M : Mu), jj + i = 24 → q ≤ n → (∀ m, m < q → qf' m = qf m) → FFm μ M → RG (M 137) U t T → BQ (edR μ h) U T k (M 138) qf' n → (∀ m, m < n → M 139 m = (qf' m : Int)) → (0 < q → ∀ i, i < 24 → edR μ h k i = true → U i = false → M 138 i ≠ -2) → (∀ m, m + 1 < q → ∀ x : Nat, T (qf' m) = (x : Int) → ∀ i, i < 24 → edR μ h x i = true → U i = false → M 138 i ≠ -2) → (∀ i', i' < i → edR μ h at' i' = true → U i' = false → M 138 i' ≠ -2) → ∃ (b : Bool) (M' : Mu), f_M_finds_40 z (e2 + 1) (k : Int) (h : Int) (f : Int) (n : Int) (at' : Int) fr (q : Int) (i : Int) M = some (bi b, M') ∧ FFm μ M' ∧ (b = true → ∃ T', RG (M' 137) U t T' ∧ PM (edR μ h) U f (k + 1) T') ∧ (b = false → RG (M' 137) U t T ∧ ¬ MT (edR μ h) U f N) := by
        intro jj
        induction jj with
        | zero =>
          intro i n qf' M hjj hqn2 hqf hF hr hB h139 hk0 hpr hcur
          have hi : i = 24 := by omega
          subst hi
          have hn24 := inj24 (fun t ht => (hB.1 t ht).1) hB.2.1
          -- the stage is done
          have hcur0 : (∀ i, i < 24 → edR μ h k i = true → U i = false → M 138 i ≠ -2) ∧ (∀ m, m < q → ∀ x : Nat, T (qf' m) = (x : Int) → ∀ i, i < 24 → edR μ h x i = true → U i = false → M 138 i ≠ -2) := by
            rcases hfr with ⟨f1, f2, f3⟩ | ⟨q', f1, f2, f3⟩
            · subst f2
              exact ⟨hcur, fun m hm => absurd hm (by omega)⟩
            · refine ⟨hk0 (by omega), fun m hm x hx => ?_⟩
              by_cases e1 : m = q'
              · subst e1
                rw [hqf m (by omega), f3] at hx
                have : at' = x := by omega
                subst this
                exact hcur
              · exact hpr m (by omega) x hx
          rw [e_M_finds_40, cT (by omega)]
          by_cases hqn3 : q = n
          · rw [nT (by omega)]
            refine ⟨false, M, by rw [bi_f], hF, fun qq => absurd qq (by decide), fun _ => ⟨hr, ?_⟩⟩
            refine hall (S := fun i => decide (M 138 i ≠ -2)) hN hk hfk hP (fun i hi q1 q2 => decide_eq_true (hcur0.1 i hi q1 q2)) (fun i hi hS => ?_)
            obtain ⟨m, m1, m2⟩ := (hB.2.2 i hi).mp (of_decide_eq_true hS)
            subst m2
            exact ⟨(hB.1 m m1).2.2.1, fun x hx i' hi' q1 q2 => decide_eq_true (hcur0.2 m (by omega) x hx i' hi' q1 q2)⟩
          · have hq : q < n := by omega
            obtain ⟨b1, b2, b3, b4⟩ := hB.1 q hq
            obtain ⟨x, hx, hx8⟩ : ∃ x : Nat, T (qf' q) = (x : Int) ∧ x < 8 := by
              rcases hP.2 (qf' q) b1 with qq | ⟨x, q1, q2, q3, q4⟩
              · exact absurd qq b3
              · exact ⟨x, q2, q1⟩
            have hg : M 137 (qf' q) = (x : Int) := by rw [hr _ b1, if_neg (by rw [b2]; decide)]; exact hx
            rw [nF (by omega), gI_ok (by omega) (by omega), Int.toNat_natCast, h139 q hq, gI_ok (by omega) (by omega), Int.toNat_natCast, hg, zwc (by omega)]
            exact ihj (q + 1) n x (qf' q : Int) qf' M (by omega) (by omega) hF hr hB h139 hx8 (Or.inr ⟨q, rfl, rfl, hx⟩) (fun _ => hcur0.1) (fun m hm => hcur0.2 m (by omega))
        | succ jj ih =>
          intro i n qf' M hjj hqn2 hqf hF hr hB h139 hk0 hpr hcur
          have hi : i < 24 := by omega
          have hn24 := inj24 (fun t ht => (hB.1 t ht).1) hB.2.1
          have h145 : ∀ (n : Nat) (M : Mu), f_M_finds_145 z (e2 + 1) (k : Int) (h : Int) (f : Int) (n : Int) (at' : Int) fr (q : Int) (i : Int) M = f_M_finds_40 z (e2 + 1) (k : Int) (h : Int) (f : Int) (n : Int) (at' : Int) fr (q : Int) ((i + 1 : Nat) : Int) M := fun n M => by rw [e_M_finds_145, zwc (by omega)]
          have skip : (edR μ h at' i = true → U i = false → M 138 i ≠ -2) → ∃ (b : Bool) (M' : Mu), f_M_finds_145 z (e2 + 1) (k : Int) (h : Int) (f : Int) (n : Int) (at' : Int) fr (q : Int) (i : Int) M = some (bi b, M') ∧ FFm μ M' ∧ (b = true → ∃ T', RG (M' 137) U t T' ∧ PM (edR μ h) U f (k + 1) T') ∧ (b = false → RG (M' 137) U t T ∧ ¬ MT (edR μ h) U f N) := fun hs => by
            rw [h145]
            refine ih (i + 1) n qf' M (by omega) hqn2 hqf hF hr hB h139 hk0 hpr (fun i' hi' q1 q2 => ?_)
            by_cases e1 : i' = i
            · subst e1; exact hs q1 q2
            · exact hcur i' (by omega) q1 q2
          rw [e_M_finds_40, cF (by omega), gI_ok (by omega) (by omega), Int.toNat_natCast]
          rcases Classical.em (M 138 i = -2) with hC | hC
          · rw [nT hC, zk24r (by omega) (by omega), gI_ok (by omega) (by omega), Int.toNat_natCast]
            have e136 : M 136 (24 * at' + i) = μ 136 (24 * at' + i) := by rw [hF 136 (by omega) (by omega) (by omega)]
            by_cases hE : μ 136 (24 * at' + i) ≤ (h : Int)
            · have hEd : edR μ h at' i = true := decide_eq_true hE
              rw [cF (show ¬ (h : Int) < M 136 (24 * at' + i) by omega), gI_ok (by omega) (by omega)]
              rcases hst M i hi hr with ⟨u1, u2, u3⟩ | ⟨u1, u2, u3⟩
              · rw [cF u2, gI_ok (by omega) (by omega), cF (by omega)]
                exact skip (fun _ q2 => by rw [u1] at q2; exact absurd q2 (by decide))
              · have h101 : (bif decide (M 137 i = -1) then f_M_finds_101 z (e2 + 1) (k : Int) (h : Int) (f : Int) (n : Int) (at' : Int) fr (q : Int) (i : Int) M else gI (i : Int) 24 (bif decide ((f : Int) ≤ M 137 i) then f_M_finds_101 z (e2 + 1) (k : Int) (h : Int) (f : Int) (n : Int) (at' : Int) fr (q : Int) (i : Int) M else f_M_finds_145 z (e2 + 1) (k : Int) (h : Int) (f : Int) (n : Int) (at' : Int) fr (q : Int) (i : Int) M)) = f_M_finds_101 z (e2 + 1) (k : Int) (h : Int) (f : Int) (n : Int) (at' : Int) fr (q : Int) (i : Int) M := by
                  rcases u3 with q1 | ⟨x, q1, q2, q3, q4⟩
                  · rw [cT (u2.trans q1)]
                  · rw [cF (show ¬ M 137 i = -1 by omega), gI_ok (by omega) (by omega), cT (show (f : Int) ≤ M 137 i by omega)]
                rw [h101]
                clear h101
                rw [e_M_finds_101, gI_ok (by omega) (by omega), gI_ok (by omega) (by omega), Int.toNat_natCast]
                -- what is noted of this soldier
                have hfrv : (fr = -1 ∧ edR μ h k i = true) ∨ ∃ t', t' < q ∧ fr = (qf' t' : Int) ∧ ∀ x : Nat, T (qf' t') = (x : Int) → edR μ h x i = true := by
                  rcases hfr with ⟨f1, f2, f3⟩ | ⟨q', f1, f2, f3⟩
                  · subst f2; exact Or.inl ⟨f1, hEd⟩
                  · right
                    refine ⟨q', by omega, by rw [f2, hqf q' (by omega)], fun x hx => ?_⟩
                    rw [hqf q' (by omega), f3] at hx
                    have : at' = x := by omega
                    subst this
                    exact hEd
                have hnew : ∀ m, m < n → qf' m ≠ i := fun m hm q1 => (hB.2.2 i hi).mpr ⟨m, hm, q1⟩ hC
                rcases u3 with q1 | ⟨x, q1, q2, q3, q4⟩
                · -- a free one
                  rw [nT (u2.trans q1)]
                  have hR2 : RG (zup M 138 i fr 137) U t T := fun i' hi' => by rw [zup_ro (by omega)]; exact hr i' hi'
                  rcases hfrv with ⟨f1, f2⟩ | ⟨t', f1, f2, f3⟩
                  · refine ⟨true, zup (zup M 138 i fr) 137 i (k : Int), ?_, fun a p1 p2 p3 => by rw [zup_ro p1, zup_ro p2]; exact hF a p1 p2 p3, fun _ => ⟨rup T i (k : Int), fun i' hi' => ?_, MVd_PM (by omega) hfk hP (MVd_first hi (by omega) q1 u1 f2)⟩, fun qq => absurd qq (by decide)⟩
                    · rw [c_M_moves, e_M_moves_2, gI_ok (by omega) (by omega), Int.toNat_natCast, zup_hit, cT f1, gI_ok (by omega) (by omega)]
                      simp -implicitDefEqProofs only [ob]
                      rw [bi_t]
                    · by_cases e1 : i' = i
                      · subst e1; rw [zup_hit, if_neg (by rw [u1]; decide), rup_same]
                      · rw [zup_nk e1, rup_ne e1]; exact hR2 i' hi'
                  · obtain ⟨d1, d2, d3, d4⟩ := hB.1 t' (by omega)
                    obtain ⟨y, hy, hy8, hyf, hyk⟩ : ∃ y : Nat, T (qf' t') = (y : Int) ∧ y < 8 ∧ f ≤ y ∧ y < k := by
                      rcases hP.2 (qf' t') d1 with qq | ⟨x, p1, p2, p3, p4⟩
                      · exact absurd qq d3
                      · exact ⟨x, p2, p1, PM_rg hP d1 p1 p2⟩
                    have hg : M 137 (qf' t') = (y : Int) := by rw [hr _ d1, if_neg (by rw [d2]; decide)]; exact hy
                    obtain ⟨M', g1, g2, T'', g3, g4⟩ := t_moves (z := z) (e := e2) (f := f) (k := k) (n := n) (t := t) (C := M 138) (qf := qf') (by omega) hfk hP hB t' (by omega) (zup (zup M 138 i fr) 137 i (y : Int)) (rup T i (y : Int)) y hy (fun i' hi' => by
                      rw [zup_ro (by omega)]
                      by_cases e1 : i' = i
                      · subst e1; right; right; exact q1
                      · rw [zup_nk e1]; left; rfl) (fun i' hi' => by
                      by_cases e1 : i' = i
                      · subst e1; rw [zup_hit, if_neg (by rw [u1]; decide), rup_same]
                      · rw [zup_nk e1, rup_ne e1]; exact hR2 i' hi') (MVd_first hi hy8 q1 u1 (f3 y hy)) (fun m' hm' => rup_ne (hnew m' (by omega)))
                    refine ⟨true, M', ?_, fun a p1 p2 p3 => by rw [g2 a p1, zup_ro p1, zup_ro p2]; exact hF a p1 p2 p3, fun _ => ⟨T'', g3, g4⟩, fun qq => absurd qq (by decide)⟩
                    rw [c_M_moves, e_M_moves_2, gI_ok (by omega) (by omega), Int.toNat_natCast, zup_hit, cF (show ¬ fr = -1 by omega), f2]
                    have hq24 : (qf' t' : Int) < 24 := by omega
                    rw [f2] at g1
                    rw [gI_ok (by omega) (by omega), gI_ok (by omega) (by omega), Int.toNat_natCast, zup_ro (show (137 : Nat) ≠ 138 by omega), hg]
                    first
                      | rw [gI_ok (by omega) (by omega), gI_ok (by omega) (by omega), g1]
                      | rw [gI_ok (by omega) (by omega), g1]
                      | rw [g1]
                    simp -implicitDefEqProofs only [ob]
                    rw [bi_t]
                · -- one who has a letter
                  have hBn : BQ (edR μ h) U T k (zup (zup M 138 i fr) 139 n (i : Int) 138) (fun m => if m = n then i else qf' m) (n + 1) := by
                    have h138 : ∀ y, zup (zup M 138 i fr) 139 n (i : Int) 138 y = if y = i then fr else M 138 y := fun y => by
                      rw [zup_ro (by omega)]
                      by_cases e1 : y = i
                      · subst e1; rw [zup_hit, if_pos rfl]
                      · rw [zup_nk e1, if_neg e1]
                    refine ⟨fun m hm => ?_, fun m m' hm hm' => ?_, fun y hy => ?_⟩
                    · by_cases e1 : m = n
                      · subst e1
                        simp only [if_true]
                        refine ⟨hi, u1, by omega, ?_⟩
                        rw [h138 i, if_pos rfl]
                        rcases hfrv with ⟨f1, f2⟩ | ⟨t', f1, f2, f3⟩
                        · exact Or.inl ⟨f1, f2⟩
                        · right
                          refine ⟨t', by omega, ?_, fun x hx => ?_⟩
                          · rw [if_neg (by omega)]; exact f2
                          · rw [if_neg (by omega)] at hx; exact f3 x hx
                      · obtain ⟨b1, b2, b3, b4⟩ := hB.1 m (by omega)
                        simp only [if_neg e1]
                        refine ⟨b1, b2, b3, ?_⟩
                        rw [h138 _, if_neg (hnew m (by omega))]
                        rcases b4 with b4 | ⟨t', b5, b6, b7⟩
                        · exact Or.inl b4
                        · right
                          refine ⟨t', b5, ?_, fun x hx => ?_⟩
                          · rw [if_neg (by omega)]; exact b6
                          · rw [if_neg (by omega)] at hx; exact b7 x hx
                    · by_cases e1 : m = n
                      · by_cases e2 : m' = n
                        · intro _; omega
                        · simp only [if_pos e1, if_neg e2]
                          intro qq
                          exact absurd qq.symm (hnew m' (by omega))
                      · by_cases e2 : m' = n
                        · simp only [if_neg e1, if_pos e2]
                          intro qq
                          exact absurd qq (hnew m (by omega))
                        · simp only [if_neg e1, if_neg e2]
                          exact hB.2.1 m m' (by omega) (by omega)
                    · rw [h138 y]
                      by_cases e1 : y = i
                      · subst e1
                        rw [if_pos rfl]
                        refine ⟨fun _ => ⟨n, by omega, if_pos rfl⟩, fun _ => ?_⟩
                        rcases hfrv with ⟨f1, f2⟩ | ⟨t', f1, f2, f3⟩ <;> omega
                      · rw [if_neg e1, hB.2.2 y hy]
                        constructor
                        · rintro ⟨m, m1, m2⟩
                          exact ⟨m, by omega, (if_neg (show ¬ m = n by omega)).trans m2⟩
                        · rintro ⟨m, m1, m2⟩
                          by_cases e2 : m = n
                          · simp only [if_pos e2] at m2; omega
                          · simp only [if_neg e2] at m2; exact ⟨m, by omega, m2⟩
                  have hn23 := inj24 (fun t ht => (hBn.1 t ht).1) hBn.2.1
                  rw [nF (show ¬ M 137 i = -1 by omega), gI_ok (by omega) (by omega), Int.toNat_natCast, zwc (by omega), h145]
                  have hup : ∀ i', M 138 i' ≠ -2 → zup (zup M 138 i fr) 139 n (i : Int) 138 i' ≠ -2 := fun i' hh => by
                    rw [zup_ro (by omega)]
                    by_cases e1 : i' = i
                    · subst e1; exact absurd hC hh
                    · rw [zup_nk e1]; exact hh
                  refine ih (i + 1) (n + 1) (fun m => if m = n then i else qf' m) _ (by omega) (by omega) (fun m hm => by
                    show (if m = n then i else qf' m) = qf m
                    rw [if_neg (by omega)]; exact hqf m hm) (fun a p1 p2 p3 => by rw [zup_ro p3, zup_ro p2]; exact hF a p1 p2 p3) (fun i' hi' => by rw [zup_ro (by omega), zup_ro (by omega)]; exact hr i' hi') hBn (fun m hm => ?_) (fun hq i' hi' p1 p2 => hup i' (hk0 hq i' hi' p1 p2)) (fun m hm x hx i' hi' p1 p2 => ?_) (fun i' hi' p1 p2 => ?_)
                  · by_cases e1 : m = n
                    · subst e1; rw [zup_hit, if_pos rfl]
                    · rw [zup_nk e1, zup_ro (by omega), if_neg e1]; exact h139 m (by omega)
                  · have hx' : T (qf' m) = (x : Int) := by
                      have : T (if m = n then i else qf' m) = (x : Int) := hx
                      rw [if_neg (by omega)] at this
                      exact this
                    exact hup i' (hpr m hm x hx' i' hi' p1 p2)
                  · by_cases e1 : i' = i
                    · subst e1
                      rw [zup_ro (by omega), zup_hit]
                      rcases hfrv with ⟨f1, f2⟩ | ⟨t', f1, f2, f3⟩ <;> omega
                    · exact hup i' (hcur i' (by omega) p1 p2)
            · rw [cT (show (h : Int) < M 136 (24 * at' + i) by omega)]
              refine skip (fun qq _ => ?_)
              exact absurd (of_decide_eq_true qq) hE
          · rw [nF hC]
            exact skip (fun _ _ => hC)
      have := inner 24 0 n qf M (by omega) hqn (fun _ _ => rfl) hF hr hB h139 hk0 hpr (fun i' hi' => absurd hi' (by omega))
      exact this
  have init : ∀ (j i : Nat) (M : Mu), j + i = 24 → (∀ a, a ≠ 138 → M a = μ a) → (∀ i', i' < i → M 138 i' = -2) → ∃ M', f_M_finds_3 z (e2 + 1) (k : Int) (h : Int) (f : Int) (i : Int) M = f_M_finds_37 z (e2 + 1) (k : Int) (h : Int) (f : Int) 0 (k : Int) (-1) 0 M' ∧ (∀ a, a ≠ 138 → M' a = μ a) ∧ ∀ i', i' < 24 → M' 138 i' = -2 := by
    intro j
    induction j with
    | zero =>
      intro i M hj h1 h2
      have : i = 24 := by omega
      subst this
      exact ⟨M, by rw [e_M_finds_3, cT (by omega)], h1, h2⟩
    | succ j ih =>
      intro i M hj h1 h2
      rw [e_M_finds_3, cF (by omega), gI_ok (by omega) (by omega), Int.toNat_natCast, zwc (by omega)]
      refine ih (i + 1) _ (by omega) (fun a q => by rw [zup_ro q]; exact h1 a q) (fun i' hi' => ?_)
      by_cases e1 : i' = i
      · subst e1; rw [zup_hit]
      · rw [zup_nk e1]; exact h2 i' (by omega)
  obtain ⟨M0, i1, i2, i3⟩ := init 24 0 μ (by omega) (fun _ _ => rfl) (fun i' hi' => absurd hi' (by omega))
  rw [show ((0 : Nat) : Int) = 0 from rfl] at i1
  rw [i1]
  have := stage 25 0 0 k (-1) (fun _ => 0) M0 (by omega) (by omega) (fun a p1 p2 p3 => i2 a p2) (fun i' hi' => by rw [i2 137 (by omega)]; exact hR i' hi') ⟨fun m hm => absurd hm (by omega), fun m m' hm => absurd hm (by omega), fun i' hi' => ⟨fun hh => absurd (i3 i' hi') hh, fun ⟨m, hm, _⟩ => absurd hm (by omega)⟩⟩ (fun m hm => absurd hm (by omega)) (by omega) (Or.inl ⟨rfl, rfl, rfl⟩) (fun hq => absurd hq (by omega)) (fun m hm => absurd hm (by omega))
  exact this
