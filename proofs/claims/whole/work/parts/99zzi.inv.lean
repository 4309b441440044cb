/-! WHAT HOLDS BETWEEN TWO CALLS; every call keeps it -/
def IV (μ ρ : Mu) : Prop := (∃ N F L wl, BT μ ρ N F L wl ∧ SP μ wl) ∧ TI μ ρ ∧ (∃ A B n, FIc A B n μ ∧ FIr A B n ρ) ∧ SOr (μ 67) (ρ 132) (ρ 133) (ρ 134) (ρ 135) ∧ KT μ ρ
def CL (z : zZ) (d d' ic ir : Nat) (a : List (Nat × Int)) (μ ρ : Mu) : Prop := ∃ (r : Int) (M P : Mu), mC z d ic ((2, 0) :: a) μ = some (r, M) ∧ mC z d' ir ((2, 86) :: a) ρ = some (r, P) ∧ IV M P ∧ (∀ a, 86 ≤ a → M a = μ a) ∧ ∀ a, a < 86 → P a = ρ a
theorem SP_7 {μ M : Mu} {wl : Nat} (h : M 0 7 = μ 0 7) (hS : SP μ wl) : SP M wl := by
  obtain ⟨ws, s1, s2, s3⟩ := hS
  exact ⟨ws, s1, s2, by rw [h]; exact s3⟩
theorem FIc_rows {A B : Nat → Nat} {n : Nat} {μ M : Mu} (r : ∀ a, (58 ≤ a ∧ a ≤ 59) ∨ (61 ≤ a ∧ a ≤ 64) → M a = μ a) (h : FIc A B n μ) : FIc A B n M := by
  obtain ⟨f1, f2, f3, f4, f5⟩ := h
  refine ⟨f1, by rw [r 58 (by omega)]; exact f2, by rw [r 59 (by omega)]; exact f3, ?_, ?_⟩
  · rw [r 58 (by omega)]
    rcases f4 with f4 | ⟨f4, f6, f7⟩
    · exact Or.inl f4
    · exact Or.inr ⟨f4, fun x hx => by rw [r 61 (by omega)]; exact f6 x hx, fun s hs => by rw [r 62 (by omega)]; exact f7 s hs⟩
  · rw [r 58 (by omega)]
    rcases f5 with f5 | ⟨f5, f6⟩
    · exact Or.inl f5
    · exact Or.inr ⟨f5, fun a b q1 q2 => by rw [r 64 (by omega)]; exact f6 a b q1 q2⟩
theorem FIr_rows {A B : Nat → Nat} {n : Nat} {ρ P : Mu} (h67 : P 86 67 = ρ 86 67) (r : ∀ a, 128 ≤ a → a ≤ 129 → P a = ρ a) (h : FIr A B n ρ) : FIr A B n P := by
  obtain ⟨f1, f2, f3, f4⟩ := h
  exact ⟨f1, by rw [h67]; exact f2, f3, fun i hi => by rw [r 128 (by omega) (by omega), r 129 (by omega) (by omega)]; exact f4 i hi⟩
theorem SOr_rows {μ ρ M P : Mu} (h67 : M 67 = μ 67) (r : ∀ a, 132 ≤ a → a ≤ 135 → P a = ρ a) (h : SOr (μ 67) (ρ 132) (ρ 133) (ρ 134) (ρ 135)) : SOr (M 67) (P 132) (P 133) (P 134) (P 135) := by
  rw [h67, r 132 (by omega) (by omega), r 133 (by omega) (by omega), r 134 (by omega) (by omega), r 135 (by omega) (by omega)]
  exact h
/-- fights, soldiers and what is kept, outside the frame of a call on the sides -/
theorem rest_KF {μ ρ M P : Mu} (hK : KF μ M) (hR : KR ρ P) (h3 : ∃ A B n, FIc A B n μ ∧ FIr A B n ρ) (h4 : SOr (μ 67) (ρ 132) (ρ 133) (ρ 134) (ρ 135)) (h5 : KT μ ρ) : (∃ A B n, FIc A B n M ∧ FIr A B n P) ∧ SOr (M 67) (P 132) (P 133) (P 134) (P 135) ∧ KT M P := by
  obtain ⟨A, B, n, g1, g2⟩ := h3
  exact ⟨⟨A, B, n, FIc_rows (fun a q => hK.1 a (by omega) (by omega)) g1, FIr_rows (hR.2.1 67 (by omega)) (fun a q1 q2 => hR.1 a (by omega)) g2⟩, SOr_rows (hK.1 67 (by omega) (by omega)) (fun a q1 q2 => hR.1 a (by omega)) h4, KT_rows (fun k q1 q2 => hK.2.1 k (by omega) (by omega)) (by rw [hK.1 58 (by omega) (by omega)]) (fun a q => hK.1 a (by omega) (by omega)) (fun k q1 q2 => hR.2.1 k (by omega)) (fun a q => hR.1 a (by omega)) h5⟩
theorem cl_go {z : zZ} {d d' ic ir wl : Nat} {a : List (Nat × Int)} {μ ρ : Mu} {Q : Mu → Mu → Prop} (h : GO z d d' ic ir a a μ ρ Q) (hS : SP μ wl) (h3 : ∃ A B n, FIc A B n μ ∧ FIr A B n ρ) (h4 : SOr (μ 67) (ρ 132) (ρ 133) (ρ 134) (ρ 135)) (h5 : KT μ ρ) (hQ : ∀ M P, Q M P → (∃ N F L, BT M P N F L wl) ∧ TI M P) : CL z d d' ic ir a μ ρ := by
  obtain ⟨r, M, P, m1, p1, q, hK, hR⟩ := h
  obtain ⟨⟨N, F, L, hB⟩, hT⟩ := hQ M P q
  obtain ⟨g1, g2, g3⟩ := rest_KF hK hR h3 h4 h5
  exact ⟨r, M, P, m1, p1, ⟨⟨N, F, L, wl, hB, SP_7 (hK.2.1 7 (by omega) (by omega)) hS⟩, hT, g1, g2, g3⟩, fun a q => hK.2.2 a q, fun a q => hR.2.2 a q⟩
theorem QC_KF {μ M : Mu} (h : QC μ M) : KF μ M := ⟨fun a q1 q2 => h.1 a (by omega) (by omega) (by omega) (by omega) (by omega) (by omega) (by omega), fun k q1 q2 => by rw [h.1 0 (by omega) (by omega) (by omega) (by omega) (by omega) (by omega) (by omega)], fun a q => h.1 a (by omega) (by omega) (by omega) (by omega) (by omega) (by omega) (by omega)⟩
theorem QR_KR {ρ P : Mu} (h : QR ρ P) : KR ρ P := ⟨fun a q => h.1 a (by omega) (by omega) (by omega) (by omega), fun k q => h.2 k (by omega), fun a q => h.1 a (by omega) (by omega) (by omega) (by omega)⟩
theorem cl_qu {z : zZ} {d d' ic ir : Nat} {a : List (Nat × Int)} {μ ρ : Mu} (hI : IV μ ρ) (h : QU z d d' ic ir ((2, 0) :: a) ((2, 86) :: a) μ ρ) : CL z d d' ic ir a μ ρ := by
  obtain ⟨⟨N, F, L, wl, hB, hS⟩, hT, h3, h4, h5⟩ := hI
  obtain ⟨r, M, P, m1, p1, hQ, hR⟩ := h
  have hK := QC_KF hQ
  have hR2 := QR_KR hR
  obtain ⟨g1, g2, g3⟩ := rest_KF hK hR2 h3 h4 h5
  exact ⟨r, M, P, m1, p1, ⟨⟨N, F, L, wl, bt_q hB hQ hR, SP_7 (hK.2.1 7 (by omega) (by omega)) hS⟩, TI_rows (hQ.1 1 (by omega) (by omega) (by omega) (by omega) (by omega) (by omega) (by omega)) (hQ.1 2 (by omega) (by omega) (by omega) (by omega) (by omega) (by omega) (by omega)) (hR.2 9 (by omega)) (hR.1 93 (by omega) (by omega) (by omega) (by omega)) hT, g1, g2, g3⟩, fun a q => hK.2.2 a q, fun a q => hR2.2.2 a q⟩
theorem cl_lq {z : zZ} {d d' ic ir n : Nat} {A B : Nat → Nat} {a : List (Nat × Int)} {μ ρ : Mu} (hI : IV μ ρ) (hR0 : FIr A B n ρ) (h : LQ z d d' ic ir ((2, 0) :: a) ((2, 86) :: a) A B n μ ρ) : CL z d d' ic ir a μ ρ := by
  obtain ⟨⟨N, F, L, wl, hB, hS⟩, hT, h3, h4, h5⟩ := hI
  obtain ⟨r, M, P, m1, p1, f1, hL, hR⟩ := h
  have e0 : M 0 = μ 0 := hL.1 0 (by omega) (by omega)
  refine ⟨r, M, P, m1, p1, ⟨⟨N, F, L, wl, bt_rows hB ⟨by rw [e0], by rw [e0], by rw [e0]⟩ (fun a q => hL.1 a (by omega) (by omega)) (fun a q => hR a (by omega) (by omega)) (fun k q => by rw [hR 86 (by omega) (by omega)]), SP_7 (by rw [e0]) hS⟩, TI_rows (hL.1 1 (by omega) (by omega)) (hL.1 2 (by omega) (by omega)) (by rw [hR 86 (by omega) (by omega)]) (hR 93 (by omega) (by omega)) hT, ⟨A, B, n, f1, FIr_LR hR0 hR⟩, SOr_rows (hL.1 67 (by omega) (by omega)) (fun a q1 q2 => hR a (by omega) (by omega)) h4, KT_rows (fun k _ _ => by rw [e0]) (hL.2 1 (by omega) (by omega)) (fun a q => hL.1 a (by omega) (by omega)) (fun k _ _ => by rw [hR 86 (by omega) (by omega)]) (fun a q => hR a (by omega) (by omega)) h5⟩, fun a q => hL.1 a (by omega) (by omega), fun a q => hR a (by omega) (by omega)⟩
theorem cl_fq {z : zZ} {d d' ic ir wl : Nat} {a : List (Nat × Int)} {μ ρ : Mu} {N F : Nat → Nat} {L : Nat → Nat → Nat} (hS : SP μ wl) (h4 : SOr (μ 67) (ρ 132) (ρ 133) (ρ 134) (ρ 135)) (h5 : KT μ ρ) (h : FQ z d d' ic ir ((2, 0) :: a) ((2, 86) :: a) μ ρ N F L wl) : CL z d d' ic ir a μ ρ := by
  obtain ⟨r, M, P, m1, p1, ⟨hB, hT⟩, h3, ⟨c1, c2⟩, r1, r2⟩ := h
  have e0 : M 0 = μ 0 := c1 0 (by omega) (by omega) (by omega)
  exact ⟨r, M, P, m1, p1, ⟨⟨N, F, L, wl, hB, SP_7 (by rw [e0]) hS⟩, hT, h3, SOr_rows (c1 67 (by omega) (by omega) (by omega)) (fun a q1 q2 => r1 a (by omega) (by omega) (by omega) (by omega)) h4, KT_rows (fun k _ _ => by rw [e0]) (c2 1 (by omega) (by omega) (by omega)) (fun a q => c1 a (by omega) (by omega) (by omega)) (fun k q1 q2 => r2 k (by omega) (by omega) (by omega) (by omega) (by omega) (by omega) (by omega)) (fun a q => r1 a (by omega) (by omega) (by omega) (by omega)) h5⟩, fun a q => c1 a (by omega) (by omega) (by omega), fun a q => r1 a (by omega) (by omega) (by omega) (by omega)⟩
section
variable {z : zZ} {d d' : Nat} {μ ρ : Mu} {v1 v2 v3 v4 v5 : Int}
theorem C_strength (hd : 80 ≤ d) (hd' : 80 ≤ d') (hI : IV μ ρ) : CL z d d' 12 181 [(0, v1), (0, v2)] μ ρ := by
  obtain ⟨⟨N, F, L, wl, hB, hS⟩, hT, h3, h4, h5⟩ := hI
  exact cl_go (strength_both (by omega) (by omega) hB hT) hS h3 h4 h5 (fun M P q => ⟨⟨_, _, _, q.1⟩, q.2⟩)
theorem C_reserve (hd : 80 ≤ d) (hd' : 80 ≤ d') (hI : IV μ ρ) : CL z d d' 14 184 [(0, v1), (0, v2), (0, v3)] μ ρ := by
  obtain ⟨⟨N, F, L, wl, hB, hS⟩, hT, h3, h4, h5⟩ := hI
  exact cl_go (reserve_both (by omega) (by omega) hB hT) hS h3 h4 h5 (fun M P q => ⟨⟨_, _, _, q.1⟩, q.2⟩)
theorem C_feed (hd : 80 ≤ d) (hd' : 80 ≤ d') (r1 : rg v1) (r2 : rg v2) (r3 : rg v3) (r4 : rg v4) (r5 : rg v5) (hI : IV μ ρ) : CL z d d' 16 186 [(0, v1), (0, v2), (0, v3), (0, v4), (0, v5)] μ ρ := by
  obtain ⟨⟨N, F, L, wl, hB, hS⟩, hT, h3, h4, h5⟩ := hI
  exact cl_go (feed_both (by omega) (by omega) r1 r2 r3 r4 r5 hB hT) hS h3 h4 h5 (fun M P q => ⟨⟨_, _, _, q.1⟩, q.2⟩)
theorem C_order (hd : 80 ≤ d) (hd' : 80 ≤ d') (hI : IV μ ρ) : CL z d d' 18 188 [(0, v1)] μ ρ := by
  obtain ⟨⟨N, F, L, wl, hB, hS⟩, hT, h3, h4, h5⟩ := hI
  exact cl_go (order_both (by omega) (by omega) hB hT) hS h3 h4 h5 (fun M P q => ⟨⟨_, _, _, q.1⟩, q.2.1⟩)
theorem C_lexicon (hd : 80 ≤ d) (hd' : 80 ≤ d') (hI : IV μ ρ) : CL z d d' 24 190 [(0, v1), (0, v2)] μ ρ := by
  obtain ⟨⟨N, F, L, wl, hB, hS⟩, hT, h3, h4, h5⟩ := hI
  exact cl_go (lexicon_both (by omega) (by omega) hB hT) hS h3 h4 h5 (fun M P q => ⟨q.1, q.2.1⟩)
theorem C_law (hd : 80 ≤ d) (hd' : 80 ≤ d') (hI : IV μ ρ) : CL z d d' 44 208 [(0, v1)] μ ρ := by
  obtain ⟨⟨N, F, L, wl, hB, hS⟩, hT, h3, h4, h5⟩ := hI
  obtain ⟨r, M, P, m1, p1, ⟨wl', hB', hS'⟩, hT', c1, c2, hR⟩ := law_both (z := z) (d := d) (d' := d') (v := v1) (by omega) (by omega) hB hT hS
  obtain ⟨A, B, n, g1, g2⟩ := h3
  exact ⟨r, M, P, m1, p1, ⟨⟨N, F, L, wl', hB', hS'⟩, hT', ⟨A, B, n, FIc_rows (fun a q => c1 a (by omega)) g1, FIr_rows (hR.2.1 67 (by omega)) (fun a q1 q2 => hR.1 a (by omega)) g2⟩, SOr_rows (c1 67 (by omega)) (fun a q1 q2 => hR.1 a (by omega)) h4, KT_rows c2 (by rw [c1 58 (by omega)]) (fun a q => c1 a (by omega)) (fun k q1 q2 => hR.2.1 k (by omega)) (fun a q => hR.1 a (by omega)) h5⟩, fun a q => c1 a (by omega), fun a q => hR.2.2 a q⟩
theorem C_orders (hd : 80 ≤ d) (hd' : 80 ≤ d') (hI : IV μ ρ) : CL z d d' 63 227 [(0, v1), (0, v2)] μ ρ := by
  obtain ⟨⟨N, F, L, wl, hB, hS⟩, hT, h3, h4, h5⟩ := hI
  exact cl_go (orders_both (by omega) (by omega) hB hT) hS h3 h4 h5 (fun M P q => ⟨⟨_, q.1.choose, _, q.1.choose_spec⟩, q.2⟩)
theorem C_judged (hd : 80 ≤ d) (hd' : 80 ≤ d') (hI : IV μ ρ) : CL z d d' 96 251 [(0, v1), (0, v2)] μ ρ := by
  obtain ⟨⟨N, F, L, wl, hB, hS⟩, hT, h3, h4, h5⟩ := hI
  exact cl_go (judged_both (by omega) (by omega) hB hT) hS h3 h4 h5 (fun M P q => ⟨⟨_, _, _, q.1⟩, q.2⟩)
theorem C_turn (hd : 80 ≤ d) (hd' : 80 ≤ d') (hI : IV μ ρ) : CL z d d' 97 255 [] μ ρ := by
  obtain ⟨⟨N, F, L, wl, hB, hS⟩, hT, h3, h4, h5⟩ := hI
  exact cl_go (turn_both (by omega) (by omega) hB hT) hS h3 h4 h5 (fun M P q => ⟨⟨_, _, _, q.1⟩, q.2⟩)
theorem C_word (hd : 80 ≤ d) (hd' : 80 ≤ d') (r3 : rg v3) (hI : IV μ ρ) : CL z d d' 99 256 [(0, v1), (0, v2), (0, v3)] μ ρ := by
  obtain ⟨⟨N, F, L, wl, hB, hS⟩, hT, h3, h4, h5⟩ := id hI
  exact cl_qu hI (word_both (by omega) (by omega) r3.2 hB)
theorem C_beats (hd : 80 ≤ d) (hd' : 80 ≤ d') (hI : IV μ ρ) : CL z d d' 101 259 [(0, v1), (0, v2)] μ ρ := by
  obtain ⟨⟨N, F, L, wl, hB, hS⟩, hT, h3, h4, h5⟩ := id hI
  exact cl_qu hI (beats_both (by omega) (by omega) hB)
theorem C_place (hd : 80 ≤ d) (hd' : 80 ≤ d') (hI : IV μ ρ) : CL z d d' 103 261 [(0, v1), (0, v2), (0, v3)] μ ρ := by
  obtain ⟨⟨N, F, L, wl, hB, hS⟩, hT, h3, h4, h5⟩ := id hI
  exact cl_qu hI (place_both (by omega) (by omega) hB)
theorem C_best (hd : 80 ≤ d) (hd' : 80 ≤ d') (hI : IV μ ρ) : CL z d d' 104 262 [(0, v1), (0, v2)] μ ρ := by
  obtain ⟨⟨N, F, L, wl, hB, hS⟩, hT, h3, h4, h5⟩ := id hI
  exact cl_qu hI (best_both (by omega) (by omega) hB)
theorem C_against (hd : 80 ≤ d) (hd' : 80 ≤ d') (hI : IV μ ρ) : CL z d d' 115 265 [(0, v1), (0, v2)] μ ρ := by
  obtain ⟨⟨N, F, L, wl, hB, hS⟩, hT, h3, h4, h5⟩ := id hI
  exact cl_qu hI (against_both (by omega) (by omega) hB)
theorem C_atOnce (hd : 80 ≤ d) (hd' : 80 ≤ d') (hI : IV μ ρ) : CL z d d' 117 267 [(0, v1)] μ ρ := by
  obtain ⟨⟨N, F, L, wl, hB, hS⟩, hT, h3, h4, h5⟩ := id hI
  exact cl_qu hI (atOnce_both (by omega) (by omega) hB)
theorem C_exchange (hd : 80 ≤ d) (hd' : 80 ≤ d') (hI : IV μ ρ) : CL z d d' 122 270 [(0, v1), (0, v2)] μ ρ := by
  obtain ⟨⟨N, F, L, wl, hB, hS⟩, hT, h3, h4, h5⟩ := id hI
  exact cl_qu hI (exchange_both (by omega) (by omega) hB)
theorem C_exchanged (hd : 80 ≤ d) (hd' : 80 ≤ d') (hI : IV μ ρ) : CL z d d' 126 273 [(0, v1), (0, v2), (0, v3)] μ ρ := by
  obtain ⟨⟨N, F, L, wl, hB, hS⟩, hT, h3, h4, h5⟩ := hI
  exact cl_go (exchanged_both (by omega) (by omega) hB hT) hS h3 h4 h5 (fun M P q => ⟨⟨_, _, _, q.1⟩, q.2⟩)
theorem C_home (hd : 80 ≤ d) (hd' : 80 ≤ d') (hI : IV μ ρ) : CL z d d' 127 274 [(0, v1), (0, v2)] μ ρ := by
  obtain ⟨⟨N, F, L, wl, hB, hS⟩, hT, h3, h4, h5⟩ := hI
  exact cl_go (home_both (by omega) (by omega) hB hT) hS h3 h4 h5 (fun M P q => ⟨⟨_, _, _, q.1⟩, q.2⟩)
theorem C_peace (hd : 80 ≤ d) (hd' : 80 ≤ d') (hI : IV μ ρ) : CL z d d' 128 275 [(0, v1), (0, v2), (0, v3)] μ ρ := by
  obtain ⟨⟨N, F, L, wl, hB, hS⟩, hT, h3, h4, h5⟩ := id hI
  exact cl_qu hI (peace_both (by omega) (by omega) hB)
theorem C_spy (hd : 80 ≤ d) (hd' : 80 ≤ d') (hI : IV μ ρ) : CL z d d' 134 278 [(0, v1), (0, v2), (0, v3)] μ ρ := by
  obtain ⟨⟨N, F, L, wl, hB, hS⟩, hT, h3, h4, h5⟩ := id hI
  exact cl_qu hI (spy_both (by omega) (by omega) hB)
theorem C_fight (hd : 80 ≤ d) (hd' : 80 ≤ d') (hI : IV μ ρ) : CL z d d' 137 281 [(0, v1)] μ ρ := by
  obtain ⟨⟨N, F, L, wl, hB, hS⟩, hT, ⟨A, B, n, g1, g2⟩, h4, h5⟩ := hI
  exact cl_fq hS h4 h5 (fight_both (by omega) (by omega) hB hT g1 g2)
theorem C_learnt (hd : 80 ≤ d) (hd' : 80 ≤ d') (hI : IV μ ρ) : CL z d d' 140 282 [(0, v1)] μ ρ := by
  obtain ⟨_, _, ⟨A, B, n, g1, g2⟩, _, _⟩ := id hI
  exact cl_lq hI g2 (learnt_both (by omega) (by omega) g1 g2)
theorem C_ahead (hd : 80 ≤ d) (hd' : 80 ≤ d') (hI : IV μ ρ) : CL z d d' 145 285 [(0, v1), (0, v2)] μ ρ := by
  obtain ⟨_, _, ⟨A, B, n, g1, g2⟩, _, _⟩ := id hI
  exact cl_lq hI g2 (ahead_both (by omega) (by omega) g1 g2)
theorem C_skirmish (hd : 80 ≤ d) (hd' : 80 ≤ d') (hI : IV μ ρ) : CL z d d' 151 287 [(0, v1)] μ ρ := by
  obtain ⟨_, _, ⟨A, B, n, g1, g2⟩, _, _⟩ := id hI
  exact cl_lq hI g2 (skirmish_both (by omega) (by omega) g1 g2)
theorem C_forget (hd : 80 ≤ d) (hd' : 80 ≤ d') (hI : IV μ ρ) : CL z d d' 152 288 [] μ ρ := by
  obtain ⟨⟨N, F, L, wl, hB, hS⟩, hT, ⟨A, B, n, g1, g2⟩, h4, h5⟩ := hI
  exact cl_fq hS h4 h5 (forget_both (by omega) (by omega) hB hT g1 g2)
theorem C_soldier (hd : 80 ≤ d) (hd' : 80 ≤ d') (hI : IV μ ρ) : CL z d d' 154 289 [(0, v1), (0, v2), (0, v3), (0, v4), (0, v5)] μ ρ := by
  obtain ⟨⟨N, F, L, wl, hB, hS⟩, hT, ⟨A, B, n, g1, g2⟩, h4, h5⟩ := hI
  obtain ⟨r, M, P, m1, p1, hS', c1, r1⟩ := soldier_both (z := z) (d := d) (d' := d') (v1 := v1) (v2 := v2) (v3 := v3) (v4 := v4) (v5 := v5) (by omega) (by omega) h4
  have e0 : M 0 = μ 0 := c1 0 (by omega)
  have e86 : P 86 = ρ 86 := r1 86 (by omega)
  exact ⟨r, M, P, m1, p1, ⟨⟨N, F, L, wl, bt_rows hB ⟨by rw [e0], by rw [e0], by rw [e0]⟩ (fun a q => c1 a (by omega)) (fun a q => r1 a (by omega)) (fun k q => by rw [e86]), SP_7 (by rw [e0]) hS⟩, TI_rows (c1 1 (by omega)) (c1 2 (by omega)) (by rw [e86]) (r1 93 (by omega)) hT, ⟨A, B, n, FIc_rows (fun a q => c1 a (by omega)) g1, FIr_rows (by rw [e86]) (fun a q1 q2 => r1 a (by omega)) g2⟩, hS', KT_rows (fun k _ _ => by rw [e0]) (by rw [c1 58 (by omega)]) (fun a q => c1 a (by omega)) (fun k _ _ => by rw [e86]) (fun a q => r1 a (by omega)) h5⟩, fun a q => c1 a (by omega), fun a q => r1 a (by omega)⟩
theorem C_march (hd : 80 ≤ d) (hd' : 80 ≤ d') (r3 : rg v3) (hI : IV μ ρ) : CL z d d' 157 290 [(0, v1), (0, v2), (0, v3), (0, v4), (0, v5)] μ ρ := by
  obtain ⟨⟨N, F, L, wl, hB, hS⟩, hT, ⟨A, B, n, g1, g2⟩, h4, h5⟩ := hI
  obtain ⟨r, M, P, m1, p1, c1, r1⟩ := march_both (z := z) (d := d) (d' := d') (s := v1) (w := v2) (x := v3) (y := v4) (v := v5) (by omega) (by omega) r3 hB h4
  have c2 : ∀ a, (a < 65 ∨ a = 67 ∨ a = 68 ∨ 71 < a) → M a = μ a := fun a q => c1 a (by omega) (by omega) (by omega) (by omega) (by omega)
  have e0 : M 0 = μ 0 := c2 0 (by omega)
  have e86 : P 86 = ρ 86 := r1 86 (by omega)
  exact ⟨r, M, P, m1, p1, ⟨⟨N, F, L, wl, bt_rows hB ⟨by rw [e0], by rw [e0], by rw [e0]⟩ (fun a q => c2 a (by omega)) (fun a q => r1 a (by omega)) (fun k q => by rw [e86]), SP_7 (by rw [e0]) hS⟩, TI_rows (c2 1 (by omega)) (c2 2 (by omega)) (by rw [e86]) (r1 93 (by omega)) hT, ⟨A, B, n, FIc_rows (fun a q => c2 a (by omega)) g1, FIr_rows (by rw [e86]) (fun a q1 q2 => r1 a (by omega)) g2⟩, SOr_rows (c2 67 (by omega)) (fun a q1 q2 => r1 a (by omega)) h4, KT_rows (fun k _ _ => by rw [e0]) (by rw [c2 58 (by omega)]) (fun a q => c2 a (by omega)) (fun k _ _ => by rw [e86]) (fun a q => r1 a (by omega)) h5⟩, fun a q => c2 a (by omega), fun a q => r1 a (by omega)⟩
theorem C_dead (hd : 80 ≤ d) (hd' : 80 ≤ d') (hI : IV μ ρ) : CL z d d' 164 298 [(0, v1), (0, v2)] μ ρ := by
  obtain ⟨⟨N, F, L, wl, hB, hS⟩, hT, h3, h4, h5⟩ := id hI
  exact cl_qu hI (dead_both (by omega) (by omega) hB)
theorem C_seed (hd : 80 ≤ d) (hd' : 80 ≤ d') (hI : IV μ ρ) : CL z d d' 62 300 [(0, v1)] μ ρ := by
  obtain ⟨⟨N, F, L, wl, hB, hS⟩, hT, h3, h4, h5⟩ := hI
  exact cl_go (seed_both (by omega) (by omega) hB hT) hS h3 h4 h5 (fun M P q => ⟨⟨_, _, _, q.1⟩, q.2⟩)
theorem C_keep (hd : 80 ≤ d) (hd' : 80 ≤ d') (hI : IV μ ρ) : CL z d d' 168 301 [] μ ρ := by
  obtain ⟨⟨N, F, L, wl, hB, hS⟩, hT, ⟨A, B, n, g1, g2⟩, h4, h5⟩ := hI
  obtain ⟨r, M, P, m1, p1, hK, c0, c58, c1, p86, r1⟩ := keep_both (z := z) (d := d) (d' := d') (by omega) (by omega) hB g1 g2 h4
  refine ⟨r, M, P, m1, p1, ⟨⟨N, F, L, wl, bt_rows hB ⟨c0 6 (by omega) (by omega) (by omega), c0 18 (by omega) (by omega) (by omega), c0 19 (by omega) (by omega) (by omega)⟩ (fun a q => c1 a (by omega) (by omega) (by omega) (by omega) (by omega)) (fun a q => r1 a (by omega) (by omega)) (fun k q => p86 k (by omega)), SP_7 (c0 7 (by omega) (by omega) (by omega)) hS⟩, TI_rows (c1 1 (by omega) (by omega) (by omega) (by omega) (by omega)) (c1 2 (by omega) (by omega) (by omega) (by omega) (by omega)) (p86 9 (by omega)) (r1 93 (by omega) (by omega)) hT, ⟨A, B, n, ?_, FIr_rows (p86 67 (by omega)) (fun a q1 q2 => r1 a (by omega) (by omega)) g2⟩, SOr_rows (c1 67 (by omega) (by omega) (by omega) (by omega) (by omega)) (fun a q1 q2 => r1 a (by omega) (by omega)) h4, hK⟩, fun a q => c1 a (by omega) (by omega) (by omega) (by omega) (by omega), fun a q => r1 a (by omega) (by omega)⟩
  have cr : ∀ a, a = 59 ∨ (61 ≤ a ∧ a ≤ 64) → M a = μ a := fun a q => c1 a (by omega) (by omega) (by omega) (by omega) (by omega)
  obtain ⟨f1, f2, f3, f4, f5⟩ := g1
  refine ⟨f1, by rw [c58 0 (by omega)]; exact f2, by rw [cr 59 (by omega)]; exact f3, ?_, ?_⟩
  · rw [c58 8 (by omega)]
    rcases f4 with f4 | ⟨f4, f6, f7⟩
    · exact Or.inl f4
    · exact Or.inr ⟨f4, fun x hx => by rw [cr 61 (by omega)]; exact f6 x hx, fun s hs => by rw [cr 62 (by omega)]; exact f7 s hs⟩
  · rw [c58 9 (by omega)]
    rcases f5 with f5 | ⟨f5, f6⟩
    · exact Or.inl f5
    · exact Or.inr ⟨f5, fun a b q1 q2 => by rw [cr 64 (by omega)]; exact f6 a b q1 q2⟩
theorem C_undo (hd : 80 ≤ d) (hd' : 80 ≤ d') (hI : IV μ ρ) : CL z d d' 171 304 [] μ ρ := by
  obtain ⟨⟨N, F, L, wl, hB, hS⟩, hT, ⟨A, B, n, g1, g2⟩, h4, h5⟩ := hI
  obtain ⟨r, M, P, m1, p1, ⟨F', hB'⟩, hT', h3', h4', h5', c7, c1, r1⟩ := undo_both (z := z) (d := d) (d' := d') (by omega) (by omega) hB hT g1 g2 h4 h5
  exact ⟨r, M, P, m1, p1, ⟨⟨N, F', L, wl, hB', SP_7 c7 hS⟩, hT', h3', h4', h5'⟩, c1, r1⟩
theorem C_check (hd : 80 ≤ d) (hd' : 80 ≤ d') (hI : IV μ ρ) : CL z d d' 174 306 [(0, v1), (0, v2)] μ ρ := by
  obtain ⟨⟨N, F, L, wl, hB, hS⟩, hT, h3, h4, h5⟩ := hI
  exact cl_go (check_both (by omega) (by omega) hB hT) hS h3 h4 h5 (fun M P q => ⟨⟨_, _, _, q.1⟩, q.2.1⟩)
theorem C_count (hd : 80 ≤ d) (hd' : 80 ≤ d') (r1 : rg v1) (hI : IV μ ρ) : CL z d d' 176 308 [(0, v1)] μ ρ := by
  obtain ⟨⟨N, F, L, wl, hB, hS⟩, hT, ⟨A, B, n, g1, g2⟩, h4, h5⟩ := id hI
  exact cl_qu hI (count_both (by omega) (by omega) hB hT r1 (by rw [g1.2.1, g2.2.1]) (SOr_cnt h4))
end
