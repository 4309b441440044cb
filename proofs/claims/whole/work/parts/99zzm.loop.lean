/-! the law's loop -/
abbrev zcase : Type := Nat × Nat × Nat × List Int × Bool
def ltb : List zcase := [(180, 12, 181, [1, 2], false),
  (213, 14, 184, [1, 2, 3], false),
  (256, 16, 186, [1, 2, 3, 4, 5], false),
  (319, 18, 188, [1], false),
  (342, 24, 190, [1, 2], false),
  (375, 44, 208, [1], false),
  (398, 63, 227, [1, 2], false),
  (431, 96, 251, [1, 2], false),
  (464, 97, 255, [], false),
  (477, 99, 256, [1, 2, 3], false),
  (520, 101, 259, [1, 2], false),
  (553, 103, 261, [1, 2, 3], false),
  (596, 104, 262, [1, 2], false),
  (629, 115, 265, [1, 2], false),
  (662, 117, 267, [1], false),
  (685, 122, 270, [1, 2], false),
  (718, 126, 273, [1, 2, 3], false),
  (761, 127, 274, [1, 2], false),
  (794, 128, 275, [1, 2, 3], false),
  (837, 134, 278, [1, 2, 3], false),
  (880, 137, 281, [1], false),
  (903, 140, 282, [1], true),
  (927, 145, 285, [1, 2], true),
  (961, 151, 287, [1], true),
  (985, 152, 288, [], false),
  (998, 154, 289, [1, 2, 3, 4, 5], false),
  (1061, 157, 290, [1, 2, 3, 4, 5], false),
  (1124, 164, 298, [1, 2], false),
  (1157, 62, 300, [1], false),
  (1180, 168, 301, [], false),
  (1193, 171, 304, [], false),
  (1206, 174, 306, [1, 2], false),
  (1239, 176, 308, [1], false)]
set_option maxRecDepth 100000 in
theorem ltb_ok : ∀ q ∈ ltb, cutC q.2.1 q.2.2.1 q.2.2.2.1 q.2.2.2.2 (zfind q_L_law.2.2.2 q.1) = true := by decide +kernel
set_option maxRecDepth 100000 in
theorem ltb_pr : ∀ q ∈ ltb, zprm q.2.1 = true ∧ zprm q.2.2.1 = true := by decide +kernel
set_option maxRecDepth 100000 in
theorem ltb_k : ∀ q ∈ ltb, ∀ k ∈ q.2.2.2.1, 1 ≤ k ∧ k ≤ 5 := by decide +kernel
def lof : List Int := [147, 180, 223, 286, 309, 342, 365, 398, 431, 444, 487, 520, 563, 596, 629, 652, 685, 728, 761, 804, 847, 870, 894, 928, 952, 965, 1028, 1091, 1124, 1147, 1160, 1173, 1206]
set_option maxRecDepth 100000 in
theorem lof_in : ∀ q ∈ zsl 33 0 lof, ∃ r ∈ ltb, r.1 = q.2 := by decide +kernel
theorem ltb_co {X : Nat → Int} {XL : Nat} {i : Int} {μ : Mu} (hX : ∀ j, rg (X j)) (hI : IV μ μ) : ∀ q ∈ ltb, CO (X, XL) 100 q.2.1 q.2.2.1 (q.2.2.2.1.map (aX X i)) μ := by
  intro q hq
  simp only [ltb, List.mem_cons, List.not_mem_nil, or_false] at hq
  rcases hq with rfl | rfl | rfl | rfl | rfl | rfl | rfl | rfl | rfl | rfl | rfl | rfl | rfl | rfl | rfl | rfl | rfl | rfl | rfl | rfl | rfl | rfl | rfl | rfl | rfl | rfl | rfl | rfl | rfl | rfl | rfl | rfl | rfl
  · exact D_strength (Nat.le_of_ble_eq_true rfl) hI
  · exact D_reserve (Nat.le_of_ble_eq_true rfl) hI
  · exact D_feed (Nat.le_of_ble_eq_true rfl) (hX _) (hX _) (hX _) (hX _) (hX _) hI
  · exact D_order (Nat.le_of_ble_eq_true rfl) hI
  · exact D_lexicon (Nat.le_of_ble_eq_true rfl) hI
  · exact D_law (Nat.le_of_ble_eq_true rfl) hI
  · exact D_orders (Nat.le_of_ble_eq_true rfl) hI
  · exact D_judged (Nat.le_of_ble_eq_true rfl) hI
  · exact D_turn (Nat.le_of_ble_eq_true rfl) hI
  · exact D_word (Nat.le_of_ble_eq_true rfl) (hX _) hI
  · exact D_beats (Nat.le_of_ble_eq_true rfl) hI
  · exact D_place (Nat.le_of_ble_eq_true rfl) hI
  · exact D_best (Nat.le_of_ble_eq_true rfl) hI
  · exact D_against (Nat.le_of_ble_eq_true rfl) hI
  · exact D_atOnce (Nat.le_of_ble_eq_true rfl) hI
  · exact D_exchange (Nat.le_of_ble_eq_true rfl) hI
  · exact D_exchanged (Nat.le_of_ble_eq_true rfl) hI
  · exact D_home (Nat.le_of_ble_eq_true rfl) hI
  · exact D_peace (Nat.le_of_ble_eq_true rfl) hI
  · exact D_spy (Nat.le_of_ble_eq_true rfl) hI
  · exact D_fight (Nat.le_of_ble_eq_true rfl) hI
  · exact D_learnt (Nat.le_of_ble_eq_true rfl) hI
  · exact D_ahead (Nat.le_of_ble_eq_true rfl) hI
  · exact D_skirmish (Nat.le_of_ble_eq_true rfl) hI
  · exact D_forget (Nat.le_of_ble_eq_true rfl) hI
  · exact D_soldier (Nat.le_of_ble_eq_true rfl) hI
  · exact D_march (Nat.le_of_ble_eq_true rfl) (hX _) hI
  · exact D_dead (Nat.le_of_ble_eq_true rfl) hI
  · exact D_seed (Nat.le_of_ble_eq_true rfl) hI
  · exact D_keep (Nat.le_of_ble_eq_true rfl) hI
  · exact D_undo (Nat.le_of_ble_eq_true rfl) hI
  · exact D_check (Nat.le_of_ble_eq_true rfl) hI
  · exact D_count (Nat.le_of_ble_eq_true rfl) (hX _) hI
section
variable {X : Nat → Int} {XL : Nat}
theorem L_one {i : Int} {μ : Mu} {q : zcase} (hX : ∀ j, rg (X j)) (hL : XL ≤ 3072) (h0 : 0 ≤ i) (h6 : i + 6 ≤ (XL : Int)) (hI : IV μ μ) (hq : q ∈ ltb) : ∃ P, IV P P ∧ zE zP X XL 100 q_L_law q.1 (lsL i) [] (zLAY, μ) = zE zP X XL 100 q_L_law 1262 (lsL i) [] (zLAY, P) := by
  obtain ⟨r, M, P, m1, m2, hP⟩ := ltb_co (XL := XL) (i := i) hX hI q hq
  have p := ltb_pr q hq
  refine ⟨P, hP, L_case (fun k hk => ?_) (ltb_ok q hq) (mC_zC p.1 m1) (mC_zC p.2 m2)⟩
  have k1 := ltb_k q hq k hk
  refine ⟨k1, ?_⟩
  rw [zw_id (by omega) (by omega)]
  omega
theorem zswk_all {α : Type} {Q : α → Prop} {x : Int} {k : Nat → α} : ∀ (l : List (Int × Nat)) (d : Nat), (∀ q ∈ l, Q (k q.2)) → Q (k d) → Q (zswk x k l d)
  | [], d, _, h => h
  | (v, t) :: l, d, hl, h => by
    unfold zswk
    cases decide (x = v) with
    | true => exact hl (v, t) List.mem_cons_self
    | false => exact zswk_all l d (fun q hq => hl q (List.mem_cons_of_mem _ hq)) h
set_option maxRecDepth 100000 in
theorem L_inc : zinc q_L_law.2.2.2 = true := by decide +kernel
abbrev ls0 : List zv := [(9, 0), (9, 0), (9, 0), (9, 0)]
set_option maxRecDepth 100000 in
theorem L_head {i : Int} {h : zh} : zE zP X XL 100 q_L_law 18 (lsL i) [] h = bif decide (zw ((XL : Int) - 6) < i) then zE zP X XL 100 q_L_law 1268 ls0 [] h else bif (decide (0 ≤ i) && decide (i < (XL : Int))) then zE zP X XL 100 q_L_law 33 (lsL i) [(0, z_and (X i.toNat) 63)] h else none := by
  rw [zE_bk L_inc [33, 1268] 20]
  have key : ∀ (C : Nat → List zv → zh → zR) (E : Nat → List zv → List zv → zh → zR), zbk C E q_L_law.1 q_L_law.2.1 X XL q_L_law.2.2.2 [33, 1268] 20 (zfind q_L_law.2.2.2 18) (lsL i) [] h = bif decide (zw ((XL : Int) - 6) < i) then E 1268 ls0 [] h else bif (decide (0 ≤ i) && decide (i < (XL : Int))) then E 33 (lsL i) [(0, z_and (X i.toNat) 63)] h else none := by
    intro C E
    rfl
  exact key _ _
set_option maxRecDepth 100000 in
theorem L_next {i : Int} {h : zh} : zE zP X XL 100 q_L_law 1262 (lsL i) [] h = zE zP X XL 100 q_L_law 18 (lsL (zw (i + 6))) [] h := by
  rw [zE_bk L_inc [18] 20]
  have key : ∀ (C : Nat → List zv → zh → zR) (E : Nat → List zv → List zv → zh → zR), zbk C E q_L_law.1 q_L_law.2.1 X XL q_L_law.2.2.2 [18] 20 (zfind q_L_law.2.2.2 1262) (lsL i) [] h = E 18 (lsL (zw (i + 6))) [] h := by
    intro C E
    rfl
  exact key _ _
set_option maxRecDepth 100000 in
theorem L_exit {h : zh} : zE zP X XL 100 q_L_law 1268 ls0 [] h = some (1, h) := by
  rw [zE_bk L_inc [18] 20]
  have key : ∀ (C : Nat → List zv → zh → zR) (E : Nat → List zv → List zv → zh → zR), zbk C E q_L_law.1 q_L_law.2.1 X XL q_L_law.2.2.2 [18] 20 (zfind q_L_law.2.2.2 1268) ls0 [] h = some (1, h) := by
    intro C E
    rfl
  exact key _ _
set_option maxRecDepth 100000 in
theorem L_sw {i x : Int} {h : zh} : zE zP X XL 100 q_L_law 33 (lsL i) [(0, x)] h = zswk x (fun t => zE zP X XL 100 q_L_law t (lsL i) [] h) (zsl 33 0 lof) 1262 := by
  have hf : zfind q_L_law.2.2.2 33 = (33, [], .tableswitch 1229 0 32 #[147, 180, 223, 286, 309, 342, 365, 398, 431, 444, 487, 520, 563, 596, 629, 652, 685, 728, 761, 804, 847, 870, 894, 928, 952, 965, 1028, 1091, 1124, 1147, 1160, 1173, 1206], 147, (0, 0, 0, 0)) :: zfind q_L_law.2.2.2 180 := rfl
  show zEs zP X XL 100 q_L_law (zfind q_L_law.2.2.2 33) (lsL i) [(0, x)] h = _
  rw [hf, zEs_cons]
  rfl
theorem law_loop (hX : ∀ j, rg (X j)) (hL : XL ≤ 3072) : ∀ (n i : Nat) (μ : Mu), XL ≤ i + n → IV μ μ → ∃ P, zE zP X XL 100 q_L_law 18 (lsL (i : Int)) [] (zLAY, μ) = some (1, (zLAY, P)) := by
  intro n
  induction n using Nat.strongRecOn with
  | ind n ih =>
    intro i μ hn hI
    have hw : zw ((XL : Int) - 6) = (XL : Int) - 6 := zw_id (by omega) (by omega)
    rw [L_head, hw]
    clear hw
    by_cases h : (XL : Int) - 6 < i
    · rw [decide_eq_true h]
      exact ⟨μ, L_exit⟩
    · rw [decide_eq_false h, decide_eq_true (show (0 : Int) ≤ i by omega), decide_eq_true (show (i : Int) < (XL : Int) by omega)]
      show ∃ P, zE zP X XL 100 q_L_law 33 (lsL (i : Int)) [(0, z_and (X (i : Int).toNat) 63)] (zLAY, μ) = some (1, (zLAY, P))
      rw [L_sw]
      have nx : ∀ P, IV P P → ∃ Q, zE zP X XL 100 q_L_law 1262 (lsL (i : Int)) [] (zLAY, P) = some (1, (zLAY, Q)) := by
        intro P hP
        have e : zw ((i : Int) + 6) = ((i + 6 : Nat) : Int) := by rw [zw_id (by omega) (by omega)]; omega
        rw [L_next, e]
        clear e
        exact ih (n - 6) (by omega) (i + 6) P (by omega) hP
      refine zswk_all (Q := fun o : zR => ∃ P, o = some (1, (zLAY, P))) _ _ (fun q hq => ?_) (nx μ hI)
      obtain ⟨r, hr, hrq⟩ := lof_in q hq
      obtain ⟨P, hP, e⟩ := L_one (i := (i : Int)) hX hL (by omega) (by omega) hI hr
      show ∃ Q, zE zP X XL 100 q_L_law q.2 (lsL (i : Int)) [] (zLAY, μ) = some (1, (zLAY, Q))
      rw [← hrq, e]
      exact nx P hP
end
