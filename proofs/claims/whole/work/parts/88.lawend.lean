/-! law, both sides -/
theorem dz_congr {b tl tl' : Row} {n : Nat} (h : ∀ i, i < 10 → tl i = tl' i) : ∀ (f m o p : Nat) (x : Int), dz b tl n f m o p x = dz b tl' n f m o p x := by
  intro f
  induction f with
  | zero => intro m o p x; rfl
  | succ f ih =>
    intro m o p x
    have e : ∀ m o p, dz b tl n f m o p = dz b tl' n f m o p := fun m o p => funext fun x => ih m o p x
    have ht : tl (tlx (tx b n p)).toNat = tl' (tlx (tx b n p)).toNat := h _ (by have := tlx_lt (tx b n p); omega)
    simp only [dz, e, ht]
def ltL (b : Row) (n : Nat) (c : Nat) : Int := tx b n (stC b n c)
def DvL (b : Row) (n : Nat) (c : Nat) (tl : Row) : Option Int := dz b tl n fuL 0 0 (stC b n c + 1) 0
def DcL (b : Row) (n : Nat) (c : Nat) (tl : Row) : Option Int := dz b tl n fuL 5 1 ((clS b n (stC b n c)).2 + 1) 0
def dep10 (D : Nat → Row → Option Int) : Prop := ∀ q (tl tl' : Row), (∀ i, i < 10 → tl i = tl' i) → D q tl = D q tl'
theorem dep_v (b : Row) (n : Nat) : dep10 (DvL b n) := fun _ _ _ h => dz_congr h _ _ _ _ _
theorem dep_c (b : Row) (n : Nat) : dep10 (DcL b n) := fun _ _ _ h => dz_congr h _ _ _ _ _
theorem evl_congr {N : Nat} {lt : Nat → Int} {Dv Dc : Nat → Row → Option Int} {tl tl' : Row} {c hi : Int} (hv : dep10 Dv) (hc : dep10 Dc) (h : ∀ i, i < 10 → tl i = tl' i) : ∀ j q, evl N lt Dv Dc tl c hi j q = evl N lt Dv Dc tl' c hi j q := by
  intro j
  induction j with
  | zero => intro q; rfl
  | succ j ih =>
    intro q
    simp only [evl]
    rw [hv q tl tl' h, hc q tl tl' h, ih (q + 1)]
theorem law_C {w n N : Nat} {b : Row} {M : Mu} (hw : isLw w) (hn : n ≤ 200) (hL : LCk w b n N M) (hN : N ≤ 14) (hs : szC b n N ≤ n) (hcl : ∀ c, c < N → clF b n (stC b n c) = 0 ∧ stC b n c < n) : lawC w M N (ltL b n) (DvL b n) (DcL b n) := by
  refine ⟨hL.1, hN, szC b n N, by omega, hL.2.1, fun q hq => ?_⟩
  obtain ⟨c1, c2, c3, c4, c5, c6, c7⟩ := hL.2.2 q hq
  obtain ⟨g1, g2⟩ := hcl q hq
  obtain ⟨k1, k2, k3, k4⟩ := clF_0 g1
  have hm := szC_mono (b := b) (n := n) N hq
  have hz : szC b n (q + 1) = szC b n q + cl1 b n (stC b n q) + 1 + cl2 b n (stC b n q) + 1 := rfl
  have l1 : ln b n fuL 0 0 (stC b n q + 1) = cl1 b n (stC b n q) := rfl
  have l2 : ln b n fuL 5 1 ((clS b n (stC b n q)).2 + 1) = cl2 b n (stC b n q) := rfl
  refine ⟨c1, ⟨szC b n q, szC b n q + cl1 b n (stC b n q), c2, by omega, c5, fun tl => ?_⟩, ⟨szC b n q + cl1 b n (stC b n q) + 1, szC b n q + cl1 b n (stC b n q) + 1 + cl2 b n (stC b n q), c3, by omega, c7, fun tl => ?_⟩⟩
  · have h := (cdC_seg (tl := tl) (sz := szC b n N) hw (by omega) fuL 0 0 (stC b n q + 1) (szC b n q) 0 k1 (by omega) c4 (by rw [l1]; omega)).1 rfl
    exact segC_mono h (by decide)
  · have h := (cdC_seg (tl := tl) (sz := szC b n N) hw (by omega) fuL 5 1 ((clS b n (stC b n q)).2 + 1) (szC b n q + cl1 b n (stC b n q) + 1) 0 k3 (by omega) c6 (by rw [l2]; omega)).2.2.2.2.2.1 (Or.inl rfl)
    exact segC_mono h (by decide)
theorem lwcp_104 {μ : Mu} {k : Nat} {a : Nat} (h : a ≠ 105 ∧ a ≠ 106 ∧ a ≠ 107 ∧ a ≠ 108) : lwcp μ k a = μ a := by
  unfold lwcp
  rw [zrow_ne h.2.2.2, zrow_ne h.2.2.1, zrow_ne h.2.1, zrow_ne h.1]
theorem law_R {n N : Nat} {b : Row} {M K : Mu} (hn : n ≤ 200) (hL : LRk b n N M) (hN : N ≤ 14) (hs : ssC b n N ≤ n) (hcl : ∀ c, c < N → clF b n (stC b n c) = 0 ∧ stC b n c < n) (h27 : K 86 27 = (N : Int)) (h104 : ∀ j, j < ssC b n N → K 104 j = M 98 j) (h105 : ∀ c, c < N → K 105 c = M 100 c) (h106 : ∀ c, c < N → K 106 c = M 101 c) (h107 : ∀ c, c < N → K 107 c = M 102 c) (h108 : ∀ c, c < N → K 108 c = M 103 c) : lawR K N (ltL b n) (DvL b n) (DcL b n) := by
  refine ⟨h27, hN, fun q hq => ?_⟩
  obtain ⟨c1, c2, c3, c4, c5⟩ := hL.2.2 q hq
  obtain ⟨g1, g2⟩ := hcl q hq
  obtain ⟨k1, k2, k3, k4⟩ := clF_0 g1
  have hm := ssC_mono (b := b) (n := n) N hq
  have hz : ssC b n (q + 1) = ssC b n q + cl1 b n (stC b n q) + cl2 b n (stC b n q) := rfl
  have l1 : ln b n fuL 0 0 (stC b n q + 1) = cl1 b n (stC b n q) := rfl
  have l2 : ln b n fuL 5 1 ((clS b n (stC b n q)).2 + 1) = cl2 b n (stC b n q) := rfl
  obtain ⟨r1, r2⟩ := c5 (K 104) (fun j h1 h2 => h104 j (by omega))
  refine ⟨by rw [h105 q hq]; exact c1, ssC b n q, ssC b n q + cl1 b n (stC b n q), ssC b n q + cl1 b n (stC b n q) + cl2 b n (stC b n q), by rw [h106 q hq]; exact c2, by rw [h107 q hq]; exact c3, by rw [h108 q hq]; exact c4, by omega, by omega, fun tl => ⟨?_, ?_, ?_⟩⟩
  · have h := (cdR_seg (tl := tl) (to := ssC b n q + cl1 b n (stC b n q)) (by omega) fuL 0 0 (stC b n q + 1) (ssC b n q) 0 k1 (by omega) (r1 _) (by rw [l1]; omega)).1 rfl
    exact segR_mono h (by decide)
  · have h := (cdR_seg (tl := tl) (to := ssC b n q + cl1 b n (stC b n q) + cl2 b n (stC b n q)) (by omega) fuL 5 1 ((clS b n (stC b n q)).2 + 1) (ssC b n q + cl1 b n (stC b n q)) 0 k3 (by omega) r2 (by rw [l2]; omega)).2.2.2.2.2.1 (Or.inl rfl)
    exact segR_mono h (by decide)
  · exact (dz01 (tl := tl) fuL 5 1 ((clS b n (stC b n q)).2 + 1) 0 k3).1 (Or.inl rfl)
/-- the class takes a law -/
theorem s_law_no {z : zZ} {d sz : Nat} {v : Int} {μ : Mu} (hd : 2 ≤ d) (h1 : μ 1 1 = (sz : Int)) (hv : ¬ (1 ≤ v ∧ v ≤ 200 ∧ v ≤ sz)) : mC z d 44 [(2, 0), (0, v)] μ = some (-1, μ) := by
  obtain ⟨e, rfl, he⟩ := pred_of hd
  rw [c_W_law, s_holdsText he h1]
  simp -implicitDefEqProofs only [ob]
  rw [nB, cF hv]
theorem s_law {z : zZ} {d n sz wl ws : Nat} {μ : Mu} (hd : 68 ≤ d) (hwl : isLw wl) (hws : isLw ws) (hne : wl ≠ ws) (h6 : μ 0 6 = (wl : Int) + 1) (h7 : μ 0 7 = (ws : Int) + 1) (h1 : μ 1 1 = (sz : Int)) (hn1 : 1 ≤ n) (hn2 : n ≤ 200) (hns : n ≤ sz) (hb : byt (μ 2)) : ∃ M, mC z d 44 [(2, 0), (0, (n : Int))] μ = some (lawS (μ 2) n 15 0, M) ∧ (∀ a, a ≠ 0 → a ≠ 1 → a ≠ 40 → a ≠ ws → a ≠ ws + 1 → a ≠ ws + 2 → a ≠ ws + 3 → a ≠ ws + 4 → M a = μ a) ∧ M 1 1 = 0 ∧ (∀ k, k ≠ 6 → k ≠ 7 → M 0 k = μ 0 k) ∧ ((lawS (μ 2) n 15 0 < 0 ∧ M 0 6 = (wl : Int) + 1 ∧ M 0 7 = (ws : Int) + 1) ∨ (∃ N : Nat, lawS (μ 2) n 15 0 = (N : Int) ∧ 1 ≤ N ∧ M 0 6 = (ws : Int) + 1 ∧ M 0 7 = (wl : Int) + 1 ∧ lawC ws M N (ltL (μ 2) n) (DvL (μ 2) n) (DcL (μ 2) n))) := by
  obtain ⟨e, rfl, he⟩ := pred_of (k := 67) hd
  have w1 : 0 ≠ ws ∧ 1 ≠ ws ∧ 2 ≠ ws ∧ 40 ≠ ws ∧ ws ≠ 0 ∧ ws ≠ 1 ∧ ws ≠ 40 := by rcases hws with h | h <;> omega
  have wi : ∀ i, i ≤ 4 → 0 ≠ ws + i ∧ 1 ≠ ws + i ∧ 40 ≠ ws + i := by intro i hi; rcases hws with h | h <;> omega
  rw [c_W_law, s_holdsText (by omega) h1]
  simp -implicitDefEqProofs only [ob]
  rw [nB, cT (by omega), s_open (by omega) (by omega)]
  simp -implicitDefEqProofs only [ob]
  have o0 : opM μ (n : Int) 0 = μ 0 := opM_r (by omega)
  rw [e_W_law_25 _ _ _ _ ws hws (by rw [o0]; exact h7)]
  obtain ⟨e, rfl, he'⟩ := pred_of (k := 66) he
  obtain ⟨e, rfl, he2⟩ := pred_of (k := 65) he'
  rw [c_Rdr_read _ _ _ _ hws, c_Law_clear _ _ _ _ hws]
  simp -implicitDefEqProofs only [ob]
  generalize hX : zup (zup (zup (zup (opM μ (n : Int)) 40 0 2) 40 1 ((ws : Int) + 1)) ws 3 0) ws 5 0 = X
  have x40 : X 40 0 = 2 := by subst hX; rw [zup_ro (by omega), zup_ro (by omega), zup_nk (by omega)]; exact zup_hit
  have x41 : X 40 1 = (ws : Int) + 1 := by subst hX; rw [zup_ro (by omega), zup_ro (by omega)]; exact zup_hit
  have x1 : X 1 = opM μ (n : Int) 1 := by subst hX; rw [zup_ro (by omega), zup_ro (by omega), zup_ro (by omega), zup_ro (by omega)]
  have x2 : X 2 = μ 2 := by subst hX; rw [zup_ro (by omega), zup_ro (by omega), zup_ro (by omega), zup_ro (by omega)]; exact opM_r (by omega)
  have x0 : X 0 = μ 0 := by subst hX; rw [zup_ro (by omega), zup_ro (by omega), zup_ro (by omega), zup_ro (by omega)]; exact o0
  have xw3 : X ws 3 = 0 := by subst hX; rw [zup_nk (by omega)]; exact zup_hit
  have xw5 : X ws 5 = 0 := by subst hX; exact zup_hit
  have xr : ∀ a, a ≠ 1 → a ≠ 40 → a ≠ ws → X a = μ a := fun a q1 q2 q3 => by subst hX; rw [zup_ro q3, zup_ro q3, zup_ro q2, zup_ro q2]; exact opM_r q1
  clear hX
  have hs : RS ws X (μ 2) n (stC (μ 2) n 0) (szC (μ 2) n 0) := ⟨x40, x41, by rw [x1]; exact opM_2, by rw [x1]; exact opM_3, by rw [x1]; exact opM_4, xw5, x2⟩
  have hL0 : LCk ws (μ 2) n 0 X := ⟨xw3, xw5, fun c hc => by omega⟩
  obtain ⟨M, r1, f1, hM⟩ := s_lawgo (z := z) (e := e + 1) (by omega) hws hn2 hb 14 0 X rfl hs (Nat.zero_le _) (Nat.le_refl _) hL0 (fun c hc => by omega)
  simp -implicitDefEqProofs only [Int.natCast_zero] at r1
  rw [e_Rdr_read_19 _ _ _ _ x40, cF (by decide), nT (by rw [x1]; exact opM_4), cT (by decide), e_Rdr_read_50 _ _ _ _ x40, cT (by decide), r1]
  simp -implicitDefEqProofs only [ob]
  have m0 : M 0 = μ 0 := by rw [f1.1 0 (by omega) w1.1 (wi 1 (by omega)).1 (wi 2 (by omega)).1 (wi 3 (by omega)).1 (wi 4 (by omega)).1]; exact x0
  rw [e_W_law_40 _ _ _ _ wl hwl (by rw [m0]; exact h6) ws hws (by rw [m0]; exact h7)]
  have fr : ∀ a, a ≠ 1 → a ≠ 40 → a ≠ ws → a ≠ ws + 1 → a ≠ ws + 2 → a ≠ ws + 3 → a ≠ ws + 4 → M a = μ a := fun a q1 q2 q3 q4 q5 q6 q7 => by rw [f1.1 a q1 q3 q4 q5 q6 q7]; exact xr a q1 q2 q3
  have m11 : M 1 1 = 0 := by rw [f1.2 1 (by omega) (by omega), x1]; exact opM_1
  rcases hM with ⟨hneg, h4⟩ | ⟨N, hN, hN1, hN2, h4, hLN, hsN, hcl⟩
  · rw [cF (by rw [h4]; omega), h4]
    exact ⟨M, rfl, fun a _ q1 q2 q3 q4 q5 q6 q7 => fr a q1 q2 q3 q4 q5 q6 q7, m11, fun k _ _ => by rw [m0], Or.inl ⟨hneg, by rw [m0]; exact h6, by rw [m0]; exact h7⟩⟩
  · rw [cT h4, hLN.1, hN]
    have hC := law_C hws hn2 hLN hN2 hsN hcl
    refine ⟨_, rfl, fun a q0 q1 q2 q3 q4 q5 q6 q7 => by rw [zup_ro q0, zup_ro q0]; exact fr a q1 q2 q3 q4 q5 q6 q7, by rw [zup_ro (by omega), zup_ro (by omega)]; exact m11, fun k q1 q2 => by rw [zup_nk q2, zup_nk q1, m0], Or.inr ⟨N, rfl, hN1, by rw [zup_nk (by omega)]; exact zup_hit, zup_hit, lawC_congr hC (by rw [zup_ro w1.2.2.2.2.1, zup_ro w1.2.2.2.2.1]) (by rw [zup_ro w1.2.2.2.2.1, zup_ro w1.2.2.2.2.1]) (by rw [zup_ro (by omega), zup_ro (by omega)]) (by rw [zup_ro (by omega), zup_ro (by omega)]) (by rw [zup_ro (by omega), zup_ro (by omega)]) (by rw [zup_ro (by omega), zup_ro (by omega)])⟩⟩
/-- the reference takes a law -/
theorem t_law_no {z : zZ} {d sz : Nat} {v : Int} {μ : Mu} (hd : 2 ≤ d) (h1 : μ 86 9 = (sz : Int)) (hv : ¬ (1 ≤ v ∧ v ≤ 200 ∧ v ≤ sz)) : mC z d 208 [(2, 86), (0, v)] μ = some (-1, μ) := by
  obtain ⟨e, rfl, he⟩ := pred_of hd
  rw [c_M_law, t_in he]
  simp -implicitDefEqProofs only [ob]
  rw [cB, e_M_law_19]
  by_cases h : 1 ≤ v ∧ v ≤ 200
  · rw [cT h, cF (by omega)]
  · rw [cF h]
theorem t_law {z : zZ} {d n sz : Nat} {b : Row} {μ : Mu} (hd : 10 ≤ d) (h1 : μ 86 9 = (sz : Int)) (hn1 : 1 ≤ n) (hn2 : n ≤ 200) (hns : n ≤ sz) (hb : tpe μ b) : ∃ M, mC z d 208 [(2, 86), (0, (n : Int))] μ = some (lawS b n 15 0, M) ∧ (∀ a, a ≠ 86 → (a < 98 ∨ 108 < a) → M a = μ a) ∧ M 86 9 = 0 ∧ (∀ i, i ≠ 9 → i ≠ 10 → i ≠ 11 → i ≠ 12 → i ≠ 13 → i ≠ 23 → i ≠ 24 → i ≠ 25 → i ≠ 26 → i ≠ 27 → M 86 i = μ 86 i) ∧ ((lawS b n 15 0 < 0 ∧ M 86 27 = μ 86 27 ∧ M 104 = μ 104 ∧ M 105 = μ 105 ∧ M 106 = μ 106 ∧ M 107 = μ 107 ∧ M 108 = μ 108) ∨ (∃ N : Nat, lawS b n 15 0 = (N : Int) ∧ 1 ≤ N ∧ lawR M N (ltL b n) (DvL b n) (DcL b n))) := by
  obtain ⟨e, rfl, he⟩ := pred_of (k := 9) hd
  rw [c_M_law, t_in (by omega)]
  simp -implicitDefEqProofs only [ob]
  rw [cB, cT (by omega), cT (by omega)]
  generalize hX : zup (zup (zup (zup μ 86 10 0) 86 11 (n : Int)) 86 24 0) 86 26 0 = X
  have x10 : X 86 10 = ((stC b n 0 : Nat) : Int) := by subst hX; rw [zup_nk (by omega), zup_nk (by omega), zup_nk (by omega)]; exact zup_hit
  have x11 : X 86 11 = (n : Int) := by subst hX; rw [zup_nk (by omega), zup_nk (by omega)]; exact zup_hit
  have x24 : X 86 24 = ((ssC b n 0 : Nat) : Int) := by subst hX; rw [zup_nk (by omega)]; exact zup_hit
  have x26 : X 86 26 = ((0 : Nat) : Int) := by subst hX; exact zup_hit
  have xr : ∀ a, a ≠ 86 → X a = μ a := fun a q => by subst hX; rw [zup_ro q, zup_ro q, zup_ro q, zup_ro q]
  have xk : ∀ i, i ≠ 10 → i ≠ 11 → i ≠ 24 → i ≠ 26 → X 86 i = μ 86 i := fun i q1 q2 q3 q4 => by subst hX; rw [zup_nk q4, zup_nk q3, zup_nk q2, zup_nk q1]
  clear hX
  have hx : CX X b n := ⟨x11, hn2, tpe_congr hb (xr 93 (by omega))⟩
  have h := t_lawgo (z := z) (e := e) he 14 0 X rfl hx x10 ⟨x26, x24, fun c hc => by omega⟩ (Nat.le_refl _) (Nat.zero_le _) (fun c hc => by omega) (fun q2 => f_M_law_46 z e q2.1 q2.2) (fun _ => rfl) (fun _ => rfl)
  rcases h with ⟨hneg, M, r1, f1⟩ | ⟨N, M, hN, hN1, hN2, r1, f1, hLN, hsN, hcl⟩
  · refine ⟨_, r1, fun a q1 q2 => ?_, zup_hit, fun i q1 q2 q3 q4 q5 q6 q7 q8 q9 q10 => ?_, Or.inl ⟨hneg, ?_, ?_, ?_, ?_, ?_, ?_⟩⟩
    · rw [zup_ro q1, f1.1 a q1 (by omega) (by omega) (by omega) (by omega) (by omega) (by omega)]; exact xr a q1
    · rw [zup_nk q1, f1.2 i q2 q4 q5 q6 q7 q8 q9]; exact xk i q2 q3 q7 q9
    · rw [zup_nk (by omega), f1.2 27 (by omega) (by omega) (by omega) (by omega) (by omega) (by omega) (by omega)]; exact xk 27 (by omega) (by omega) (by omega) (by omega)
    all_goals (rw [zup_ro (by omega), f1.1 _ (by omega) (by omega) (by omega) (by omega) (by omega) (by omega) (by omega)]; exact xr _ (by omega))
  · have hy24 : zup (zup M 86 9 0) 86 27 (N : Int) 86 24 = ((ssC b n N : Nat) : Int) := by rw [zup_nk (by omega), zup_nk (by omega)]; exact hLN.2.1
    have hy26 : zrow (zup (zup M 86 9 0) 86 27 (N : Int)) 104 (cpy (zup (zup M 86 9 0) 86 27 (N : Int) 98) (zup (zup M 86 9 0) 86 27 (N : Int) 104) (ssC b n N)) 86 26 = (N : Int) := by rw [zrow_ne (by omega), zup_nk (by omega), zup_nk (by omega)]; exact hLN.1
    have r2 : ((mC z e 209 [(2, 86)] X).bind fun q2 => f_M_law_46 z e q2.1 q2.2) = some ((N : Int), lwcp (zrow (zup (zup M 86 9 0) 86 27 (N : Int)) 104 (cpy (zup (zup M 86 9 0) 86 27 (N : Int) 98) (zup (zup M 86 9 0) 86 27 (N : Int) 104) (ssC b n N))) N) := by
      rw [r1, t_law110 hy24 (by omega), t_law138 hy26 hN2]
    generalize hY : zrow (zup (zup M 86 9 0) 86 27 (N : Int)) 104 (cpy (zup (zup M 86 9 0) 86 27 (N : Int) 98) (zup (zup M 86 9 0) 86 27 (N : Int) 104) (ssC b n N)) = Y at r2 hy26
    have yr : ∀ a, a ≠ 86 → a ≠ 104 → Y a = M a := fun a q1 q2 => by subst hY; rw [zrow_ne q2, zup_ro q1, zup_ro q1]
    have yk : ∀ i, i ≠ 9 → i ≠ 27 → Y 86 i = M 86 i := fun i q1 q2 => by subst hY; rw [zrow_ne (by omega), zup_nk q2, zup_nk q1]
    have y9 : Y 86 9 = 0 := by subst hY; rw [zrow_ne (by omega), zup_nk (by omega)]; exact zup_hit
    have y27 : Y 86 27 = (N : Int) := by subst hY; rw [zrow_ne (by omega)]; exact zup_hit
    have y104 : ∀ j, j < ssC b n N → Y 104 j = M 98 j := fun j hj => by
      subst hY
      rw [zrow_same]
      unfold cpy
      rw [if_pos hj, zup_ro (by omega), zup_ro (by omega)]
    have k86 : lwcp Y N 86 = Y 86 := lwcp_104 (by omega)
    refine ⟨lwcp Y N, by rw [hN]; exact r2, fun a q1 q2 => ?_, by rw [k86]; exact y9, fun i q1 q2 q3 q4 q5 q6 q7 q8 q9 q10 => ?_, Or.inr ⟨N, hN, hN1, law_R hn2 hLN hN2 hsN hcl (by rw [k86]; exact y27) (fun j hj => by rw [lwcp_104 (by omega)]; exact y104 j hj) ?_ ?_ ?_ ?_⟩⟩
    · rw [lwcp_104 (by omega), yr a q1 (by omega), f1.1 a q1 (by omega) (by omega) (by omega) (by omega) (by omega) (by omega)]; exact xr a q1
    · rw [k86, yk i q1 q10, f1.2 i q2 q4 q5 q6 q7 q8 q9]; exact xk i q2 q3 q7 q9
    · intro c hc
      unfold lwcp
      rw [zrow_ne (by omega), zrow_ne (by omega), zrow_ne (by omega), zrow_same]
      unfold cpy
      rw [if_pos hc, yr 100 (by omega) (by omega)]
    · intro c hc
      unfold lwcp
      rw [zrow_ne (by omega), zrow_ne (by omega), zrow_same]
      unfold cpy
      rw [if_pos hc, yr 101 (by omega) (by omega)]
    · intro c hc
      unfold lwcp
      rw [zrow_ne (by omega), zrow_same]
      unfold cpy
      rw [if_pos hc, yr 102 (by omega) (by omega)]
    · intro c hc
      unfold lwcp
      rw [zrow_same]
      unfold cpy
      rw [if_pos hc, yr 103 (by omega) (by omega)]
