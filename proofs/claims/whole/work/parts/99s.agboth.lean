/-! against in both -/
theorem s_beatenBy {z : zZ} {d t N F : Nat} {c : Int} {L : Nat → Nat} {μ : Mu} (hd : 4 ≤ d) (ht : t < 2) (hS : SDc μ t N F L) : mC z d 116 [(0, c), (2, ((4 + 9 * t : Nat) : Int))] μ = some (((nb1 N F (μ (4 + 9 * t + 4)) (μ (4 + 9 * t + 2)) c : Nat) : Int), μ) := by
  obtain ⟨e, rfl, he⟩ := pred_of (k := 3) hd
  obtain ⟨a1, a2, a3, a4, a5, a6, a7, a8, _⟩ := hS
  have H := down (n := N) (P := fun k => f_W_beatenBy_4 z e c (4 + 9 * t) ((cnt (fun v => F.testBit v && ahd c (μ (4 + 9 * t + 4) v) (μ (4 + 9 * t + 2))) k : Nat) : Int) (k : Int) μ = some (((nb1 N F (μ (4 + 9 * t + 4)) (μ (4 + 9 * t + 2)) c : Nat) : Int), μ))
    (by rw [e_W_beatenBy_4 _ _ _ _ _ _ _ (o9 ht), a1, cT (by omega)]; rfl)
    (by
      intro k hk ih
      have hl := cnt_le (fun v => F.testBit v && ahd c (μ (4 + 9 * t + 4) v) (μ (4 + 9 * t + 2))) k
      rw [cnt_succ] at ih
      rw [e_W_beatenBy_4 _ _ _ _ _ _ _ (o9 ht), a1, cF (by omega), s_stands (by omega) (o9 ht) a1 a2 a3 (f4096 a4 a2)]
      simp -implicitDefEqProofs only [ob]
      rw [decide_eq_true (show (0 : Int) ≤ (k : Int) ∧ (k : Int) < (N : Int) by omega), Bool.true_and, Int.toNat_natCast, cB]
      by_cases hst : F.testBit k = true
      · rw [hst, Bool.true_and] at ih
        rw [hst, cond_true, gI_ok (by omega) (by omega), s_isAhead he (o9 ht) a8]
        simp -implicitDefEqProofs only [ob]
        rw [cB]
        by_cases hb : ahd c (μ (4 + 9 * t + 4) k) (μ (4 + 9 * t + 2)) = true
        · rw [if_pos hb] at ih
          rw [hb, cond_true, e_W_beatenBy_37 _ _ _ _ _ _ _ (o9 ht), zwc (by omega), zwc (by omega)]
          exact ih
        · have hb' : ahd c (μ (4 + 9 * t + 4) k) (μ (4 + 9 * t + 2)) = false := by simpa using hb
          rw [hb', if_neg (by decide), Nat.add_zero] at ih
          rw [hb', cond_false, e_W_beatenBy_37 _ _ _ _ _ _ _ (o9 ht), zwc (by omega)]
          exact ih
      · have hst' : F.testBit k = false := by simpa using hst
        rw [hst', Bool.false_and, if_neg (by decide), Nat.add_zero] at ih
        rw [hst', cond_false, e_W_beatenBy_37 _ _ _ _ _ _ _ (o9 ht), zwc (by omega)]
        exact ih) 0 (by omega)
  rw [c_W_beatenBy _ _ _ _ _ (o9 ht)]
  exact H
def agV (v : Int) (q : Nat × Nat) : Int := if v = 0 then (q.1 : Int) else (q.2 : Int)
theorem s_agloop {z : zZ} {e s : Nat} {v : Int} {N F : Nat → Nat} {L : Nat → Nat → Nat} {μ : Mu} (he : 4 ≤ e) (hs : s < 2) (hS : ∀ t, t < 2 → SDc μ t (N t) (F t) (L t)) : f_W_against_34 z e (s : Int) v (4 + 9 * s) 0 0 0 μ = some (agV v (agL (fun w => cfb (F s) w (μ (4 + 9 * s + 4) w) (μ (4 + 9 * s + 3)) 0) (fun w => nb1 (N (1 - s)) (F (1 - s)) (μ (4 + 9 * (1 - s) + 4)) (μ (4 + 9 * (1 - s) + 2)) (μ (4 + 9 * s + 4) w)) (N s)), μ) := by
  have hs' : 1 - s < 2 := by omega
  obtain ⟨a1, a2, a3, a4, a5, a6, a7, a8, _⟩ := hS s hs
  have hbt := fun c => s_beatenBy (z := z) (d := e) (c := c) he hs' (hS (1 - s) hs')
  have hg12 : ∀ c, nb1 (N (1 - s)) (F (1 - s)) (μ (4 + 9 * (1 - s) + 4)) (μ (4 + 9 * (1 - s) + 2)) c ≤ 12 := fun c => Nat.le_trans (cnt_le _ _) (hS (1 - s) hs').2.1
  have hcf : ∀ k, k < N s → mC z e 72 [(2, ((4 + 9 * s : Nat) : Int)), (0, (k : Int))] μ = some (bi (cfb (F s) k (μ (4 + 9 * s + 4) k) (μ (4 + 9 * s + 3)) 0), μ) := fun k hk => s_canForm (by omega) (o9 hs) a1 a2 a3 (f4096 a4 a2) hk
  have H := down (n := N s) (P := fun k => f_W_against_34 z e (s : Int) v (4 + 9 * s) (((agL (fun w => cfb (F s) w (μ (4 + 9 * s + 4) w) (μ (4 + 9 * s + 3)) 0) (fun w => nb1 (N (1 - s)) (F (1 - s)) (μ (4 + 9 * (1 - s) + 4)) (μ (4 + 9 * (1 - s) + 2)) (μ (4 + 9 * s + 4) w)) k).1 : Nat) : Int) (((agL (fun w => cfb (F s) w (μ (4 + 9 * s + 4) w) (μ (4 + 9 * s + 3)) 0) (fun w => nb1 (N (1 - s)) (F (1 - s)) (μ (4 + 9 * (1 - s) + 4)) (μ (4 + 9 * (1 - s) + 2)) (μ (4 + 9 * s + 4) w)) k).2 : Nat) : Int) (k : Int) μ = some (agV v (agL (fun w => cfb (F s) w (μ (4 + 9 * s + 4) w) (μ (4 + 9 * s + 3)) 0) (fun w => nb1 (N (1 - s)) (F (1 - s)) (μ (4 + 9 * (1 - s) + 4)) (μ (4 + 9 * (1 - s) + 2)) (μ (4 + 9 * s + 4) w)) (N s)), μ))
    (by
      rw [e_W_against_34 _ _ _ _ _ _ _ _ _ (o9 hs), a1, cT (by omega)]
      unfold agV
      by_cases h : v = 0
      · rw [nT h, if_pos h, e_W_against_106]
      · rw [nF h, if_neg h, e_W_against_104, e_W_against_106])
    (by
      intro k hk ih
      have hag : ∀ (p : Nat → Bool) (g : Nat → Nat), agL p g (k + 1) = if p k = true ∧ (agL p g k).1 < g k then (g k, 2 ^ k) else agL p g k := fun _ _ => rfl
      rw [hag] at ih
      rw [e_W_against_34 _ _ _ _ _ _ _ _ _ (o9 hs), a1, cF (by omega), hcf k hk]
      simp -implicitDefEqProofs only [ob]
      rw [cB]
      generalize agL (fun w => cfb (F s) w (μ (4 + 9 * s + 4) w) (μ (4 + 9 * s + 3)) 0) (fun w => nb1 (N (1 - s)) (F (1 - s)) (μ (4 + 9 * (1 - s) + 4)) (μ (4 + 9 * (1 - s) + 2)) (μ (4 + 9 * s + 4) w)) k = q at ih ⊢
      by_cases hp : cfb (F s) k (μ (4 + 9 * s + 4) k) (μ (4 + 9 * s + 3)) 0 = true
      · rw [hp, cond_true, e_W_against_52 _ _ _ _ _ _ _ _ _ (o9 hs) (by omega), gI_ok (by omega) (by omega), Int.toNat_natCast, z1s hs, Int.toNat_natCast, hbt]
        simp -implicitDefEqProofs only [ob]
        by_cases hc : q.1 < nb1 (N (1 - s)) (F (1 - s)) (μ (4 + 9 * (1 - s) + 4)) (μ (4 + 9 * (1 - s) + 2)) (μ (4 + 9 * s + 4) k)
        · rw [if_pos ⟨hp, hc⟩] at ih
          rw [cF (by omega), e_W_against_89 _ _ _ _ _ _ _ _ _ (o9 hs), zwc (by omega), z_shl1 (by omega)]
          exact ih
        · rw [if_neg (fun h => hc h.2)] at ih
          rw [cT (by omega), e_W_against_89 _ _ _ _ _ _ _ _ _ (o9 hs), zwc (by omega)]
          exact ih
      · have hp' : cfb (F s) k (μ (4 + 9 * s + 4) k) (μ (4 + 9 * s + 3)) 0 = false := by simpa using hp
        rw [if_neg (fun h => hp h.1)] at ih
        rw [hp', cond_false, e_W_against_89 _ _ _ _ _ _ _ _ _ (o9 hs), zwc (by omega)]
        exact ih) 0 (by omega)
  exact H
theorem cnt_bset {p : Nat → Bool} {n : Nat} (h : n ≤ 12) : cnt (bset p n).testBit 12 = cnt p n := by
  rw [cnt_ext (p := (bset p n).testBit) h (fun k hk => by rw [bset_bit, decide_eq_false (by omega)]; rfl)]
  exact cnt_congr (fun k hk => by rw [bset_bit, decide_eq_true hk]; rfl)
theorem t_beatenBy {z : zZ} {d s T N N' F' : Nat} {W W' r : Row} {L L' : Nat → Nat} {ρ : Mu} (hd : 3 ≤ d) (hs : s < 2) (hx : lexR ρ s N W L) (hx' : lexR ρ (1 - s) N' W' L') (hF : ρ 86 (16 + (1 - s)) = (F' : Int)) (h4 : F' < 4096) (hT : T < 4096) (hr : rkr r) (hrr : ∀ k, k < 12 → ρ 89 (12 * (1 - s) + k) = r k) : mC z d 266 [(2, 86), (0, (s : Int)), (0, (T : Int))] ρ = some (((nbT N N' F' W W' r T : Nat) : Int), ρ) := by
  obtain ⟨e, rfl, he⟩ := pred_of (k := 2) hd
  have hs' : 1 - s < 2 := by omega
  have h12 := hx.2.1
  have h12' := hx'.2.1
  have hin : ∀ v, v < N' → F'.testBit v = true → f_M_beatenBy_35 z e (s : Int) (T : Int) ((bset (fun v => F'.testBit v && btT N W W' r T v N) v : Nat) : Int) (v : Int) ρ = f_M_beatenBy_82 z e (s : Int) (T : Int) ((bset (fun v => F'.testBit v && btT N W W' r T v N) (v + 1) : Nat) : Int) (v : Int) ρ := by
    intro v hv hf
    have hlt := f4096 (bset_lt (fun v => F'.testBit v && btT N W W' r T v N) v) (show v ≤ 12 by omega)
    have hn := or_bset (p := fun v => F'.testBit v && btT N W W' r T v N) (k := v)
    rw [hf, Bool.true_and] at hn
    rw [hn]
    generalize bset (fun v => F'.testBit v && btT N W W' r T v N) v = b at hlt ⊢
    have H := down (n := N) (P := fun w => f_M_beatenBy_38 z e (s : Int) (T : Int) (((if btT N W W' r T v w = true then b ||| 2 ^ v else b : Nat)) : Int) (v : Int) (w : Int) ρ = f_M_beatenBy_82 z e (s : Int) (T : Int) (((if btT N W W' r T v N = true then b ||| 2 ^ v else b : Nat)) : Int) (v : Int) ρ)
      (by
        rw [e_M_beatenBy_38, t_manyOf (by omega) hs, hx.1]
        simp -implicitDefEqProofs only [ob]
        rw [cT (by omega)])
      (by
        intro w hw ih
        have hlt2 : b ||| 2 ^ v < 4096 := or_lt2 (N := 12) hlt (by omega)
        have hbs : btT N W W' r T v (w + 1) = (btT N W W' r T v w || (T.testBit w && ahd (W w) (W' v) r)) := by
          unfold btT
          rw [allb_s]
          cases allb (fun w => !(T.testBit w && ahd (W w) (W' v) r)) w <;> cases (T.testBit w && ahd (W w) (W' v) r) <;> rfl
        rw [e_M_beatenBy_38, t_manyOf (by omega) hs, hx.1]
        simp -implicitDefEqProofs only [ob]
        rw [cF (by omega), t_has (by omega) (by omega) (by omega)]
        simp -implicitDefEqProofs only [ob]
        rw [cB]
        by_cases ht : T.testBit w = true
        · rw [ht, Bool.true_and] at hbs
          rw [ht, cond_true, t_isBeating (by omega) hs hx hx' hw hv hr hrr]
          simp -implicitDefEqProofs only [ob]
          rw [cB]
          by_cases ha : ahd (W w) (W' v) r = true
          · rw [ha, Bool.or_true] at hbs
            rw [hbs, if_pos rfl] at ih
            rw [ha, cond_true]
            have e1 : z_or (((if btT N W W' r T v w = true then b ||| 2 ^ v else b : Nat)) : Int) (z_shl 1 (v : Int)) = ((b ||| 2 ^ v : Nat) : Int) := by
              by_cases hq : btT N W W' r T v w = true
              · rw [if_pos hq, s_or1 (by omega) (by omega), Nat.or_assoc, Nat.or_self]
              · rw [if_neg hq, s_or1 (by omega) (by omega)]
            rw [e1, e_M_beatenBy_76, zwc (by omega)]
            exact ih
          · have ha' : ahd (W w) (W' v) r = false := by simpa using ha
            rw [ha', Bool.or_false] at hbs
            rw [hbs] at ih
            rw [ha', cond_false, e_M_beatenBy_76, zwc (by omega)]
            exact ih
        · have ht' : T.testBit w = false := by simpa using ht
          rw [ht', Bool.false_and, Bool.or_false] at hbs
          rw [hbs] at ih
          rw [ht', cond_false, e_M_beatenBy_76, zwc (by omega)]
          exact ih) 0 (by omega)
    have h0 : btT N W W' r T v 0 = false := rfl
    rw [h0, if_neg (by decide)] at H
    rw [e_M_beatenBy_35]
    exact H
  have H := down (n := N') (P := fun v => f_M_beatenBy_5 z e (s : Int) (T : Int) ((bset (fun v => F'.testBit v && btT N W W' r T v N) v : Nat) : Int) (v : Int) ρ = some (((nbT N N' F' W W' r T : Nat) : Int), ρ))
    (by
      have hlt := f4096 (bset_lt (fun v => F'.testBit v && btT N W W' r T v N) N') h12'
      rw [e_M_beatenBy_5, z1s hs, t_manyOf (by omega) hs', hx'.1]
      simp -implicitDefEqProofs only [ob]
      rw [cT (by omega), t_bits (by omega) (by omega), cnt_bset h12']
      rfl)
    (by
      intro v hv ih
      rw [e_M_beatenBy_5, z1s hs, t_manyOf (by omega) hs', hx'.1]
      simp -implicitDefEqProofs only [ob]
      rw [cF (by omega), t_fieldOf (by omega) hs', hF]
      simp -implicitDefEqProofs only [ob]
      rw [t_has (by omega) (by omega) (by omega)]
      simp -implicitDefEqProofs only [ob]
      rw [nB]
      by_cases hf : F'.testBit v = true
      · rw [hf, cond_true, hin v hv hf, e_M_beatenBy_82, zwc (by omega)]
        exact ih
      · have hf' : F'.testBit v = false := by simpa using hf
        have hn := or_bset (p := fun v => F'.testBit v && btT N W W' r T v N) (k := v)
        rw [hf', Bool.false_and, if_neg (by decide)] at hn
        rw [hn] at ih
        rw [hf', cond_false, e_M_beatenBy_82, zwc (by omega)]
        exact ih) 0 (by omega)
  rw [c_M_beatenBy]
  exact H
