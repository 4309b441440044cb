/-! the class reads a law's text: tools -/
theorem zpl1 (c : Int) : zpl 1 c = tlx c := by
  have e : zpl 1 c = zplf c [116, 105, 109, 115, 110, 113, 114, 120, 104, 121] 0 := rfl
  unfold tlx
  by_cases h0 : c = 116
  · subst h0; decide
  rw [if_neg h0]
  by_cases h1 : c = 105
  · subst h1; decide
  rw [if_neg h1]
  by_cases h2 : c = 109
  · subst h2; decide
  rw [if_neg h2]
  by_cases h3 : c = 115
  · subst h3; decide
  rw [if_neg h3]
  by_cases h4 : c = 110
  · subst h4; decide
  rw [if_neg h4]
  by_cases h5 : c = 113
  · subst h5; decide
  rw [if_neg h5]
  by_cases h6 : c = 114
  · subst h6; decide
  rw [if_neg h6]
  by_cases h7 : c = 120
  · subst h7; decide
  rw [if_neg h7]
  by_cases h8 : c = 104
  · subst h8; decide
  rw [if_neg h8]
  by_cases h9 : c = 121
  · subst h9; decide
  rw [if_neg h9]
  rw [e]
  simp only [zplf]
  rw [if_neg (Ne.symm h0), if_neg (Ne.symm h1), if_neg (Ne.symm h2), if_neg (Ne.symm h3), if_neg (Ne.symm h4), if_neg (Ne.symm h5), if_neg (Ne.symm h6), if_neg (Ne.symm h7), if_neg (Ne.symm h8), if_neg (Ne.symm h9)]
theorem zpl2 (c : Int) : zpl 2 c = -1 ↔ ¬ (c = 60 ∨ c = 62 ∨ c = 61) := by
  have e : zpl 2 c = zplf c [60, 62, 61] 0 := rfl
  rw [e]
  simp only [zplf]
  repeat' split
  all_goals omega
theorem zpl3 (c : Int) : zpl 3 c = -1 ↔ ¬ (c = 43 ∨ c = 45) := by
  have e : zpl 3 c = zplf c [43, 45] 0 := rfl
  rw [e]
  simp only [zplf]
  repeat' split
  all_goals omega
theorem zpl4 (c : Int) : zpl 4 c = -1 ↔ ¬ (c = 42 ∨ c = 47 ∨ c = 37) := by
  have e : zpl 4 c = zplf c [42, 47, 37] 0 := rfl
  rw [e]
  simp only [zplf]
  repeat' split
  all_goals omega
theorem zpl0 (c : Int) : zpl 0 c = -1 ↔ ¬ (c = 102 ∨ c = 112 ∨ c = 118 ∨ c = 100 ∨ c = 119) := by
  have e : zpl 0 c = zplf c [102, 112, 118, 100, 119] 0 := rfl
  rw [e]
  simp only [zplf]
  repeat' split
  all_goals omega
theorem s_aim_any {z : zZ} {e w : Nat} (hw : isLw w) : ∀ (j i : Nat) (x : Int) (μ : Mu) (sz : Nat), i + j = 256 → sz ≤ 256 → μ w 5 = (sz : Int) → ∃ h, f_Law_aimHere_4 z e w x (i : Int) μ = some (0, zrow μ (w + 4) h)
  | 0, i, x, μ, sz, hi, hs, h5 => by
    refine ⟨μ (w + 4), ?_⟩
    rw [e_Law_aimHere_4 _ _ _ _ _ _ hw, cT (by omega), e_Law_aimHere_66, zrow_id]
  | j + 1, i, x, μ, sz, hi, hs, h5 => by
    rw [e_Law_aimHere_4 _ _ _ _ _ _ hw, cF (by omega)]
    by_cases h0 : x < 0
    · rw [cT h0, e_Law_aimHere_66]
      exact ⟨μ (w + 4), by rw [zrow_id]⟩
    · rw [cF h0, h5]
      by_cases h1 : (sz : Int) ≤ x
      · rw [cT h1, e_Law_aimHere_66]
        exact ⟨μ (w + 4), by rw [zrow_id]⟩
      · rw [cF h1, gI_ok (by omega) (by omega), gI_ok (by omega) (by omega), gI_ok (by omega) (by omega), zwc (by omega), zupr]
        generalize zw (z_ushr (μ (w + 4) x.toNat) 4 - 1) = y
        generalize z_or (z_and (μ (w + 4) x.toNat) 15) (z_shl (sz : Int) 4) = v
        obtain ⟨h, hh⟩ := s_aim_any hw (z := z) (e := e) j (i + 1) y (zrow μ (w + 4) (rup (μ (w + 4)) x.toNat v)) sz (by omega) hs (by rw [zrow_ne (by omega)]; exact h5)
        exact ⟨h, by rw [hh, zrow_zrow]⟩
theorem s_aimHere_any {z : zZ} {d w sz : Nat} {x : Int} {μ : Mu} (hd : 1 ≤ d) (hw : isLw w) (hs : sz ≤ 256) (h5 : μ w 5 = (sz : Int)) : ∃ h, mC z d 61 [(2, (w : Int)), (0, x)] μ = some (0, zrow μ (w + 4) h) := by
  obtain ⟨e, rfl, he⟩ := pred_of hd
  rw [c_Law_aimHere _ _ _ _ _ hw]
  exact s_aim_any hw 256 0 x μ sz (by omega) hs h5
theorem s_putJump {z : zZ} {d w q k l : Nat} {μ : Mu} (hd : 2 ≤ d) (hw : isLw w) (hq : μ w 5 = (q : Int)) (hq2 : q < 256) (hk : k < 16) (hl : l ≤ 256) : mC z d 60 [(2, (w : Int)), (0, (k : Int)), (0, (l : Int) - 1)] μ = some ((q : Int), ptM μ w q ((k + 16 * l : Nat) : Int)) := by
  obtain ⟨e, rfl, he⟩ := pred_of hd
  rw [c_Law_putJump _ _ _ _ _ _ hw, show zw ((l : Int) - 1 + 1) = (l : Int) by rw [zw_id (by omega) (by omega)]; omega, s_put he hw hq hq2 hk (by omega)]
  simp -implicitDefEqProofs only [ob]
  rw [ptM_w5, zw_id (by omega) (by omega)]
  congr 2
  omega
theorem s_passF {z : zZ} {d p n : Nat} {c : Int} {μ : Mu} (hd : 2 ≤ d) (h2 : μ 1 2 = (p : Int)) (h3 : μ 1 3 = (n : Int)) (h4 : μ 1 4 ≠ 0) (hn : n ≤ 220) (hp : p ≤ n) (hc : c ≠ -1) : ∃ (r : Int) (q : Nat), q ≤ n ∧ mC z d 43 [(2, 1), (0, c)] μ = some (r, zup μ 1 2 (q : Int)) := by
  obtain ⟨e, rfl, he⟩ := pred_of hd
  rw [c_Tape_pass, s_peek he h2 h3 hn]
  simp -implicitDefEqProofs only [ob]
  by_cases h : tx (μ 2) n p = c
  · have hlt := tx_lt h hc
    rw [nT h, h2, zwc (by omega)]
    exact ⟨1, p + 1, hlt, rfl⟩
  · rw [nF h, s_fail1 he h4]
    simp -implicitDefEqProofs only [ob]
    exact ⟨0, p, hp, by rw [zup_self h2]⟩
theorem chn_mono {k : Nat} {st : Row} {sz sz' : Nat} (h : sz ≤ sz') : ∀ js : List Nat, chn k st sz js → chn k st sz' js
  | [], _ => trivial
  | j :: js, hc => ⟨hc.1, by have := hc.2.1; omega, hc.2.2.1, chn_mono h js hc.2.2.2⟩
theorem chn_mem {k : Nat} {st : Row} {sz : Nat} : ∀ (js : List Nat) (x : Nat), x ∈ js → chn k st sz js → x < sz
  | [], _, h, _ => by cases h
  | j :: js, x, h, hc => by
    cases h with
    | head => exact hc.2.1
    | tail _ q => exact chn_mem js x q hc.2.2.2
theorem chn_sorted {k : Nat} {st : Row} {sz : Nat} {js : List Nat} (hc : chn k st sz js) : ∀ (a : Nat) (l : List Nat), js = a :: l → ∀ y, y ∈ l → y < a := by
  intro a l hl y hy
  subst hl
  exact hc.2.2.1 y hy
/-- the class's steps depend on their own places alone -/
theorem cdC_congr {b : Row} {n : Nat} : ∀ (f m o p base tgt : Nat) (st st' : Row), (∀ j, base ≤ j → j < base + ln b n f m o p → st' j = st j) → cdC b st n f m o p base tgt → cdC b st' n f m o p base tgt := by
  intro f
  induction f with
  | zero => intro m o p base tgt st st' _ h; exact absurd h (by simp [cdC])
  | succ f ih =>
    intro m o p base tgt st st' h hc
    by_cases m0 : m = 0
    · subst m0
      simp only [cdC, ln, if_true] at h hc ⊢
      exact ⟨ih _ _ _ _ _ st st' (fun j h1 h2 => h j h1 (by omega)) hc.1, ih _ _ _ _ _ st st' (fun j h1 h2 => h j (by omega) (by omega)) hc.2⟩
    by_cases m1 : m = 1
    · subst m1
      simp only [cdC, ln, Nat.one_ne_zero, if_false, if_true] at h hc ⊢
      by_cases hs : tx b n p = 43 ∨ tx b n p = 45
      · simp only [if_pos hs] at h hc ⊢
        exact ⟨ih _ _ _ _ _ st st' (fun j h1 h2 => h j h1 (by omega)) hc.1, by rw [h _ (by omega) (by omega)]; exact hc.2.1, ih _ _ _ _ _ st st' (fun j h1 h2 => h j (by omega) (by omega)) hc.2.2⟩
      · simp only [if_neg hs]
    by_cases m2 : m = 2
    · subst m2
      simp only [cdC, ln, Nat.reduceEqDiff, if_false, if_true] at h hc ⊢
      exact ⟨ih _ _ _ _ _ st st' (fun j h1 h2 => h j h1 (by omega)) hc.1, ih _ _ _ _ _ st st' (fun j h1 h2 => h j (by omega) (by omega)) hc.2⟩
    by_cases m3 : m = 3
    · subst m3
      simp only [cdC, ln, Nat.reduceEqDiff, if_false, if_true] at h hc ⊢
      by_cases hs : tx b n p = 42 ∨ tx b n p = 47 ∨ tx b n p = 37
      · simp only [if_pos hs] at h hc ⊢
        exact ⟨ih _ _ _ _ _ st st' (fun j h1 h2 => h j h1 (by omega)) hc.1, by rw [h _ (by omega) (by omega)]; exact hc.2.1, ih _ _ _ _ _ st st' (fun j h1 h2 => h j (by omega) (by omega)) hc.2.2⟩
      · simp only [if_neg hs]
    by_cases m4 : m = 4
    · subst m4
      simp only [cdC, ln, Nat.reduceEqDiff, if_false, if_true] at h hc ⊢
      by_cases h91 : tx b n p = 91
      · simp only [if_pos h91] at h hc ⊢
        exact ih _ _ _ _ _ st st' h hc
      · simp only [if_neg h91] at h hc ⊢
        by_cases hg : isg b n p = true
        · simp only [if_pos hg] at hc ⊢
          exact ⟨hc.1, by rw [h _ (by omega) (by omega)]; exact hc.2⟩
        · simp only [if_neg hg] at hc ⊢
          exact ⟨hc.1, by rw [h _ (by omega) (by omega)]; exact hc.2⟩
    by_cases m5 : m = 5
    · subst m5
      simp only [cdC, ln, Nat.reduceEqDiff, if_false, if_true] at h hc ⊢
      exact ⟨ih _ _ _ _ _ st st' (fun j h1 h2 => h j h1 (by omega)) hc.1, ih _ _ _ _ _ st st' (fun j h1 h2 => h j (by omega) (by omega)) hc.2⟩
    by_cases m6 : m = 6
    · subst m6
      simp only [cdC, ln, Nat.reduceEqDiff, if_false, if_true] at h hc ⊢
      by_cases hs : tx b n p = 124
      · simp only [if_pos hs] at h hc ⊢
        exact ⟨by rw [h _ (by omega) (by omega)]; exact hc.1, ih _ _ _ _ _ st st' (fun j h1 h2 => h j (by omega) (by omega)) hc.2.1, ih _ _ _ _ _ st st' (fun j h1 h2 => h j (by omega) (by omega)) hc.2.2⟩
      · simp only [if_neg hs]
    by_cases m7 : m = 7
    · subst m7
      simp only [cdC, ln, Nat.reduceEqDiff, if_false, if_true] at h hc ⊢
      exact ⟨ih _ _ _ _ _ st st' (fun j h1 h2 => h j h1 (by omega)) hc.1, ih _ _ _ _ _ st st' (fun j h1 h2 => h j (by omega) (by omega)) hc.2⟩
    by_cases m8 : m = 8
    · subst m8
      simp only [cdC, ln, Nat.reduceEqDiff, if_false, if_true] at h hc ⊢
      by_cases hs : tx b n p = 38
      · simp only [if_pos hs] at h hc ⊢
        exact ⟨by rw [h _ (by omega) (by omega)]; exact hc.1, ih _ _ _ _ _ st st' (fun j h1 h2 => h j (by omega) (by omega)) hc.2.1, ih _ _ _ _ _ st st' (fun j h1 h2 => h j (by omega) (by omega)) hc.2.2⟩
      · simp only [if_neg hs]
    simp only [cdC, ln, if_neg m0, if_neg m1, if_neg m2, if_neg m3, if_neg m4, if_neg m5, if_neg m6, if_neg m7, if_neg m8] at h hc ⊢
    by_cases h33 : tx b n p = 33
    · simp only [if_pos h33] at h hc ⊢
      exact ⟨ih _ _ _ _ _ st st' (fun j h1 h2 => h j h1 (by omega)) hc.1, by rw [h _ (by omega) (by omega)]; exact hc.2⟩
    · simp only [if_neg h33] at h hc ⊢
      by_cases h40 : tx b n p = 40
      · simp only [if_pos h40] at h hc ⊢
        exact ih _ _ _ _ _ st st' h hc
      · simp only [if_neg h40] at h hc ⊢
        exact ⟨ih _ _ _ _ _ st st' (fun j h1 h2 => h j h1 (by omega)) hc.1, ih _ _ _ _ _ st st' (fun j h1 h2 => h j (by omega) (by omega)) hc.2.1, hc.2.2.1, by rw [h _ (by omega) (by omega)]; exact hc.2.2.2⟩
/-- the state of a reader, what it leaves alone, what it ends with -/
def RS (w : Nat) (μ : Mu) (b : Row) (n p q : Nat) : Prop := μ 40 0 = 2 ∧ μ 40 1 = (w : Int) + 1 ∧ μ 1 2 = (p : Int) ∧ μ 1 3 = (n : Int) ∧ μ 1 4 = 0 ∧ μ w 5 = (q : Int) ∧ μ 2 = b
def RF (w n : Nat) (μ M : Mu) : Prop := (∀ a, a ≠ 1 → a ≠ w → a ≠ w + 4 → M a = μ a) ∧ (∀ k, k ≠ 5 → M w k = μ w k) ∧ (∀ k, k ≠ 2 → k ≠ 4 → M 1 k = μ 1 k) ∧ (∃ q : Nat, q ≤ 256 ∧ M w 5 = (q : Int)) ∧ ∃ p : Nat, p ≤ n ∧ M 1 2 = (p : Int)
theorem RF_trans {w n : Nat} {A B C : Mu} (h1 : RF w n A B) (h2 : RF w n B C) : RF w n A C := ⟨fun a p q r => by rw [h2.1 a p q r, h1.1 a p q r], fun k p => by rw [h2.2.1 k p, h1.2.1 k p], fun k p q => by rw [h2.2.2.1 k p q, h1.2.2.1 k p q], h2.2.2.2⟩
theorem RF_refl {w n p q : Nat} {μ : Mu} {b : Row} (h : RS w μ b n p q) (hp : p ≤ n) (hq : q ≤ 256) : RF w n μ μ := ⟨fun _ _ _ _ => rfl, fun _ _ => rfl, fun _ _ _ => rfl, ⟨q, hq, h.2.2.2.2.2.1⟩, ⟨p, hp, h.2.2.1⟩⟩
theorem RF_pfr {w n p : Nat} {A B : Mu} (hw : isLw w) (h : pfr w A B) (hp : p ≤ n) (h2 : A 1 2 = (p : Int)) : RF w n A B := by
  have w1 : 1 ≠ w ∧ 1 ≠ w + 4 := by rcases hw with h | h <;> omega
  exact ⟨fun a _ q r => h.1 a q r, h.2.1, fun k _ _ => by rw [h.1 1 w1.1 w1.2], h.2.2, ⟨p, hp, by rw [h.1 1 w1.1 w1.2]; exact h2⟩⟩
theorem RF_1 {w n p q k : Nat} {v : Int} {A : Mu} (hw : isLw w) (hk : k = 2 ∨ k = 4) (hq : q ≤ 256) (h5 : A w 5 = (q : Int)) (hp : p ≤ n) (h2 : zup A 1 k v 1 2 = (p : Int)) : RF w n A (zup A 1 k v) := by
  have w1 : w ≠ 1 := by rcases hw with h | h <;> omega
  exact ⟨fun a q _ _ => zup_ro q, fun j _ => by rw [zup_ro w1], fun j p q => zup_nk (by omega), ⟨q, hq, by rw [zup_ro w1]; exact h5⟩, ⟨p, hp, h2⟩⟩
theorem RF_st {w n p q : Nat} {h : Row} {A : Mu} (hw : isLw w) (hq : q ≤ 256) (h5 : A w 5 = (q : Int)) (hp : p ≤ n) (h2 : A 1 2 = (p : Int)) : RF w n A (zrow A (w + 4) h) := by
  have w1 : 1 ≠ w + 4 := by rcases hw with h | h <;> omega
  exact ⟨fun a _ _ r => zrow_ne r, fun j _ => by rw [zrow_ne (by omega)], fun j _ _ => by rw [zrow_ne w1], ⟨q, hq, by rw [zrow_ne (by omega)]; exact h5⟩, ⟨p, hp, by rw [zrow_ne w1]; exact h2⟩⟩
theorem RF_RS {w n p q p' q' : Nat} {b : Row} {A B : Mu} (hw : isLw w) (h : RF w n A B) (hs : RS w A b n p q) (h4 : B 1 4 = 0) (h2 : B 1 2 = (p' : Int)) (h5 : B w 5 = (q' : Int)) : RS w B b n p' q' := by
  have w40 : 40 ≠ w ∧ 40 ≠ w + 4 ∧ 2 ≠ w ∧ 2 ≠ w + 4 := by rcases hw with h | h <;> omega
  obtain ⟨a1, a2, a3, a4, a5, a6, a7⟩ := hs
  exact ⟨by rw [h.1 40 (by omega) w40.1 w40.2.1]; exact a1, by rw [h.1 40 (by omega) w40.1 w40.2.1]; exact a2, h2, by rw [h.2.2.1 3 (by omega) (by omega)]; exact a4, h4, h5, by rw [h.1 2 (by omega) w40.2.2.1 w40.2.2.2]; exact a7⟩
def RP (w n : Nat) (μ M : Mu) (F : Int) (E q L : Nat) (js : List Nat) (C : Row → Prop) : Prop := RF w n μ M ∧ M 1 4 = F ∧ (F = 0 → M 1 2 = (E : Int) ∧ M w 5 = ((q + L : Nat) : Int) ∧ (∀ j, j < q → ¬ j ∈ js → M (w + 4) j = μ (w + 4) j) ∧ C (M (w + 4)))
