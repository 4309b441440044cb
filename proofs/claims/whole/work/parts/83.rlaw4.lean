/-! the reference reads a law's text: small methods of conditions -/
theorem u_endsgo {z : zZ} {e : Nat} {p m : Int} {μ : Mu} (he : 1 ≤ e) : ∀ (P : List Nat) (st wt : Row) (q s o : Nat), (∀ t, t ∈ P → t = 10) → pnd wt s P → wtop wt s ≠ 10 → q + P.length ≤ 220 → s + P.length ≤ 220 → o + P.length ≤ 100 → f_M_endsPiece_0 z e (UQ μ st wt p (q : Int) ((s + P.length : Nat) : Int) ((o + P.length : Nat) : Int) m) = some (0, UQ μ (emit st q P) wt p ((q + P.length : Nat) : Int) (s : Int) (o : Int) m)
  | [], st, wt, q, s, o, ht, hp, hs, hq, hs2, ho => by
    have hl : s + ([] : List Nat).length = s := rfl
    have hl2 : q + ([] : List Nat).length = q := rfl
    have hl3 : o + ([] : List Nat).length = o := rfl
    rw [hl] at hs2 ⊢
    rw [hl2, hl3, e_M_endsPiece_0, u_waitTop (by omega) hs2]
    simp -implicitDefEqProofs only [ob]
    rw [nF hs]
    rfl
  | t :: P, st, wt, q, s, o, ht, hp, hs, hq, hs2, ho => by
    have hl : (t :: P).length = P.length + 1 := rfl
    have t10 := ht t (List.mem_cons_self ..)
    subst t10
    rw [hl] at hq hs2 ho ⊢
    have hw : wtop wt (s + (P.length + 1)) = 10 := wtop_s (s := s + P.length) (t := 10) (v := 0) (by decide) (by decide) hp.1
    have hn := u_notes0 (z := z) (d := e) (q := q) (t := 10) (st := st) (wt := wt) (p := p) (s := ((s + (P.length + 1) : Nat) : Int)) (o := ((o + (P.length + 1) : Nat) : Int)) (m := m) (μ := μ) he (by omega) (by decide)
    simp -implicitDefEqProofs only [Int.cast_ofNat_Int] at hn
    rw [e_M_endsPiece_0, u_waitTop (by omega) hs2, hw]
    simp -implicitDefEqProofs only [ob]
    rw [nTt, hn]
    simp -implicitDefEqProofs only [ob]
    rw [UQ_25, UQ_u25, UQ_23, UQ_u23, show zw (((s + (P.length + 1) : Nat) : Int) - 1) = ((s + P.length : Nat) : Int) by rw [zw_id (by omega) (by omega)]; omega, show zw (((o + (P.length + 1) : Nat) : Int) - 1) = ((o + P.length : Nat) : Int) by rw [zw_id (by omega) (by omega)]; omega, u_endsgo he P _ wt (q + 1) s o (fun x hx => ht x (List.mem_cons_of_mem _ hx)) hp.2 hs (by omega) (by omega) (by omega)]
    rw [show q + 1 + P.length = q + (P.length + 1) by omega]
    rfl
theorem u_ends {z : zZ} {d q s o : Nat} {p m : Int} {P : List Nat} {st wt : Row} {μ : Mu} (hd : 2 ≤ d) (ht : ∀ t, t ∈ P → t = 10) (hp : pnd wt s P) (hs : wtop wt s ≠ 10) (hq : q + P.length ≤ 220) (hs2 : s + P.length ≤ 220) (ho : o + P.length ≤ 100) : mC z d 224 [(2, 86)] (UQ μ st wt p (q : Int) ((s + P.length : Nat) : Int) ((o + P.length : Nat) : Int) m) = some (0, UQ μ (emit st q P) wt p ((q + P.length : Nat) : Int) (s : Int) (o : Int) m) := by
  obtain ⟨e, rfl, he⟩ := pred_of hd
  rw [c_M_endsPiece, ← e_M_endsPiece_0]
  exact u_endsgo he P st wt q s o ht hp hs hq hs2 ho
theorem emit_at : ∀ (P : List Nat) (st : Row) (q i : Nat), (∀ t, t ∈ P → t = 10) → i < P.length → emit st q P (q + i) = ((1048576 * 10 : Nat) : Int)
  | [], _, _, _, _, h => by cases h
  | t :: P, st, q, i, ht, h => by
    have t10 := ht t (List.mem_cons_self ..)
    subst t10
    have hl : (10 :: P).length = P.length + 1 := rfl
    rw [hl] at h
    show emit _ (q + 1) P (q + i) = _
    cases i with
    | zero => rw [emit_lo P _ (q + 1) _ (by omega), Nat.add_zero, rup_same]
    | succ i => rw [show q + (i + 1) = q + 1 + i by omega, emit_at P _ (q + 1) i (fun x hx => ht x (List.mem_cons_of_mem _ hx)) (by omega)]
/-- jumps that wait -/
def oz : Option Nat → Nat
  | none => 0
  | some _ => 1
def PJ (t : Nat) (st wt : Row) (s q : Nat) (j : Option Nat) : Prop := ∀ y, j = some y → wt s = ((1048576 * t + y : Nat) : Int) ∧ y < q ∧ st y = ((1048576 * t : Nat) : Int)
def pat1 (st : Row) (t q : Nat) : Option Nat → Row
  | none => st
  | some y => rup st y ((1048576 * t + q : Nat) : Int)
theorem pat1_ne {st : Row} {t q x : Nat} {j : Option Nat} (h : j ≠ some x) : pat1 st t q j x = st x := by
  cases j with
  | none => rfl
  | some y => exact rup_ne (fun e => h (by rw [e]))
theorem u_land22 {z : zZ} {e q s t y : Nat} {v p o m : Int} {st wt : Row} {μ : Mu} (hs : s < 220) (ht : t < 100) (hy : y < 220) (hq : q < 220 ∨ q = 220) (hw : wt s = ((1048576 * t + y : Nat) : Int)) (hst : st y = ((1048576 * t : Nat) : Int)) : f_M_lands_22 z e v (UQ μ st wt p (q : Int) ((s + 1 : Nat) : Int) o m) = f_M_lands_0 z e v (UQ μ (rup st y ((1048576 * t + q : Nat) : Int)) wt p (q : Int) (s : Int) o m) := by
  have h1 : z_rem (wt s) 1048576 = (y : Int) := by rw [hw]; exact cod_v ht (by omega)
  have h2 : z_div (st y) 1048576 = (t : Int) := by rw [hst]; exact cod_op (v := 0) ht (by decide)
  rw [e_M_lands_22, UQ_25, zn1 (by omega), UQ_99, Int.toNat_natCast, h1, UQ_98, Int.toNat_natCast, h2, UQ_24, gI_ok (by omega) (by omega), gI_ok (by omega) (by omega), gI_ok (by omega) (by omega), UQ_u98, UQ_u25, show zw (zw (1048576 * (t : Int)) + (q : Int)) = ((1048576 * t + q : Nat) : Int) by rw [zw_id (x := 1048576 * (t : Int)) (by omega) (by omega), zw_id (by omega) (by omega)]; omega]
theorem u_landstop {z : zZ} {e s : Nat} {v p q o m : Int} {st wt : Row} {μ : Mu} (he : 1 ≤ e) (hs : s ≤ 220) (h11 : wtop wt s ≠ 11) (h12 : v = 0 ∨ wtop wt s ≠ 12) : f_M_lands_0 z e v (UQ μ st wt p q (s : Int) o m) = some (0, UQ μ st wt p q (s : Int) o m) := by
  rw [e_M_lands_0, u_waitTop he hs]
  simp -implicitDefEqProofs only [ob]
  rw [cF h11, e_M_lands_76]
  by_cases hv : v = 0
  · rw [cT hv]
  · rw [cF hv, u_waitTop he hs]
    simp -implicitDefEqProofs only [ob]
    rw [nF (by rcases h12 with h | h; exact absurd h hv; exact h), e_M_lands_76]
theorem u_land11 {z : zZ} {e s : Nat} {v p q o m : Int} {st wt : Row} {μ : Mu} (he : 1 ≤ e) (hs : s ≤ 220) (h11 : wtop wt s = 11) : f_M_lands_0 z e v (UQ μ st wt p q (s : Int) o m) = f_M_lands_22 z e v (UQ μ st wt p q (s : Int) o m) := by
  rw [e_M_lands_0, u_waitTop he hs, h11]
  simp -implicitDefEqProofs only [ob]
  rw [cTt]
theorem u_land12 {z : zZ} {e s : Nat} {p q o m : Int} {st wt : Row} {μ : Mu} (he : 1 ≤ e) (hs : s ≤ 220) (h12 : wtop wt s = 12) : f_M_lands_0 z e 1 (UQ μ st wt p q (s : Int) o m) = f_M_lands_22 z e 1 (UQ μ st wt p q (s : Int) o m) := by
  rw [e_M_lands_0, u_waitTop he hs, h12]
  simp -implicitDefEqProofs only [ob]
  rw [cF (by decide), cF (by decide), u_waitTop he hs, h12]
  simp -implicitDefEqProofs only [ob]
  rw [nTt]
theorem u_lands0 {z : zZ} {d q s : Nat} {p o m : Int} {jn : Option Nat} {st wt : Row} {μ : Mu} (hd : 2 ≤ d) (hs : s < 220) (hq : q ≤ 220) (hj : PJ 11 st wt s q jn) (h11 : wtop wt s ≠ 11) : mC z d 225 [(2, 86), (0, 0)] (UQ μ st wt p (q : Int) ((s + oz jn : Nat) : Int) o m) = some (0, UQ μ (pat1 st 11 q jn) wt p (q : Int) (s : Int) o m) := by
  obtain ⟨e, rfl, he⟩ := pred_of hd
  rw [c_M_lands, ← e_M_lands_0]
  cases jn with
  | none => exact u_landstop (s := s) he (by omega) h11 (Or.inl rfl)
  | some y =>
    obtain ⟨h1, h2, h3⟩ := hj y rfl
    show f_M_lands_0 z e 0 (UQ μ st wt p (q : Int) ((s + 1 : Nat) : Int) o m) = _
    rw [u_land11 he (by omega) (wtop_s (t := 11) (by decide) (by omega) h1), u_land22 hs (by decide) (by omega) (by omega) h1 h3, u_landstop he (by omega) h11 (Or.inl rfl)]
    rfl
theorem u_lands1 {z : zZ} {d q s : Nat} {p o m : Int} {ji jn : Option Nat} {st wt : Row} {μ : Mu} (hd : 2 ≤ d) (hs : s < 219) (hq : q ≤ 220) (hi : PJ 12 st wt s q ji) (hj : PJ 11 st wt (s + oz ji) q jn) (hij : ∀ y, ji = some y → jn ≠ some y) (h11 : wtop wt s ≠ 11) (h12 : wtop wt s ≠ 12) : mC z d 225 [(2, 86), (0, 1)] (UQ μ st wt p (q : Int) ((s + oz ji + oz jn : Nat) : Int) o m) = some (0, UQ μ (pat1 (pat1 st 11 q jn) 12 q ji) wt p (q : Int) (s : Int) o m) := by
  obtain ⟨e, rfl, he⟩ := pred_of hd
  have hI : ∀ st' : Row, (∀ y, ji = some y → st' y = st y) → f_M_lands_0 z e 1 (UQ μ st' wt p (q : Int) ((s + oz ji : Nat) : Int) o m) = some (0, UQ μ (pat1 st' 12 q ji) wt p (q : Int) (s : Int) o m) := by
    intro st' hst
    cases ji with
    | none => exact u_landstop (s := s) he (by omega) h11 (Or.inr h12)
    | some y =>
      obtain ⟨h1, h2, h3⟩ := hi y rfl
      show f_M_lands_0 z e 1 (UQ μ st' wt p (q : Int) ((s + 1 : Nat) : Int) o m) = _
      rw [u_land12 he (by omega) (wtop_s (t := 12) (by decide) (by omega) h1), u_land22 (by omega) (by decide) (by omega) (by omega) h1 (by rw [hst y rfl]; exact h3), u_landstop he (by omega) h11 (Or.inr h12)]
      rfl
  rw [c_M_lands, ← e_M_lands_0]
  have hoz : oz ji ≤ 1 := by cases ji <;> simp [oz]
  cases jn with
  | none => exact hI st (fun _ _ => rfl)
  | some y =>
    obtain ⟨h1, h2, h3⟩ := hj y rfl
    show f_M_lands_0 z e 1 (UQ μ st wt p (q : Int) ((s + oz ji + 1 : Nat) : Int) o m) = _
    rw [u_land11 he (by omega) (wtop_s (t := 11) (by decide) (by omega) h1), u_land22 (by omega) (by decide) (by omega) (by omega) h1 h3, hI _ (fun x hx => rup_ne (fun e => hij x hx (by rw [e])))]
    rfl
theorem u_jumps {z : zZ} {d p q s t : Nat} {o m : Int} {st wt : Row} {μ : Mu} (hd : 2 ≤ d) (hs : s < 220) (hq : q < 220) (hp : p < 1000) (ht : t < 100) : mC z d 226 [(2, 86), (0, (t : Int))] (UQ μ st wt (p : Int) (q : Int) (s : Int) o m) = some (0, UQ μ (rup st q ((1048576 * t : Nat) : Int)) (rup wt s ((1048576 * t + q : Nat) : Int)) ((p + 1 : Nat) : Int) ((q + 1 : Nat) : Int) ((s + 1 : Nat) : Int) o m) := by
  obtain ⟨e, rfl, he⟩ := pred_of hd
  rw [c_M_jumps, UQ_25, gI_ok (by omega) (by omega), Int.toNat_natCast, UQ_24, UQ_u99, UQ_u25, zwc (by omega), show zw (zw (1048576 * (t : Int)) + (q : Int)) = ((1048576 * t + q : Nat) : Int) by rw [zw_id (x := 1048576 * (t : Int)) (by omega) (by omega), zw_id (by omega) (by omega)]; omega, u_notes0 he hq ht]
  simp -implicitDefEqProofs only [ob]
  rw [UQ_10, UQ_u10, zwc (by omega)]
noncomputable def C40 (z : zZ) (e : Nat) (X : Mu) : mR := f_M_readsCondition_40 z e X
noncomputable def C92 (z : zZ) (e : Nat) (X : Mu) : mR := f_M_readsCondition_92 z e X
theorem C92_jump {z : zZ} {e p n q s t : Nat} {v o m : Int} {S : Int} {b st st1 wt : Row} {μ : Mu} (he : 6 ≤ e) (hx : CX μ b n) (hp : p ≤ n) (hq : q < 220) (hs : s < 220) (ht : t = 11 ∨ t = 12) (hv : v = if t = 11 then 0 else 1) (hc : tx b n p = if t = 11 then 38 else 124) (hl : mC z e 225 [(2, 86), (0, v)] (UQ μ st wt (p : Int) (q : Int) S o m) = some (0, UQ μ st1 wt (p : Int) (q : Int) (s : Int) o m)) : C92 z e (UQ μ st wt (p : Int) (q : Int) S o m) = C40 z e (UQ μ (rup st1 q ((1048576 * t : Nat) : Int)) (rup wt s ((1048576 * t + q : Nat) : Int)) ((p + 1 : Nat) : Int) ((q + 1 : Nat) : Int) ((s + 1 : Nat) : Int) o m) := by
  have hn := hx.2.1
  have hj := u_jumps (z := z) (d := e) (p := p) (q := q) (s := s) (t := t) (o := o) (m := m) (st := st1) (wt := wt) (μ := μ) (by omega) hs hq (by omega) (by omega)
  unfold C92 C40
  rw [e_M_readsCondition_92, u_here (by omega) hx]
  simp -implicitDefEqProofs only [ob]
  rcases ht with h | h
  · subst h
    rw [if_pos rfl] at hc hv
    subst hv
    simp -implicitDefEqProofs only [Int.cast_ofNat_Int] at hj
    rw [nF (by omega), u_here (by omega) hx]
    simp -implicitDefEqProofs only [ob]
    rw [cT hc, e_M_readsCondition_180, u_here (by omega) hx]
    simp -implicitDefEqProofs only [ob]
    rw [nF (by omega), e_M_readsCondition_195, hl]
    simp -implicitDefEqProofs only [ob]
    rw [u_here (by omega) hx]
    simp -implicitDefEqProofs only [ob]
    rw [nT hc, e_M_readsCondition_215, hj]
    rfl
  · subst h
    rw [if_neg (by decide)] at hc hv
    subst hv
    simp -implicitDefEqProofs only [Int.cast_ofNat_Int] at hj
    rw [nF (by omega), u_here (by omega) hx]
    simp -implicitDefEqProofs only [ob]
    rw [cF (by omega), u_here (by omega) hx]
    simp -implicitDefEqProofs only [ob]
    rw [cT hc, e_M_readsCondition_180, u_here (by omega) hx]
    simp -implicitDefEqProofs only [ob]
    rw [nT hc, e_M_readsCondition_195, hl]
    simp -implicitDefEqProofs only [ob]
    rw [u_here (by omega) hx]
    simp -implicitDefEqProofs only [ob]
    rw [nF (by omega), e_M_readsCondition_215, hj]
    rfl
theorem C92_amp {z : zZ} {e p n q s : Nat} {o m : Int} {jn : Option Nat} {b st wt : Row} {μ : Mu} (he : 6 ≤ e) (hx : CX μ b n) (hp : p ≤ n) (hq : q < 220) (hs : s < 220) (hc : tx b n p = 38) (hj : PJ 11 st wt s q jn) (h11 : wtop wt s ≠ 11) : C92 z e (UQ μ st wt (p : Int) (q : Int) ((s + oz jn : Nat) : Int) o m) = C40 z e (UQ μ (rup (pat1 st 11 q jn) q ((1048576 * 11 : Nat) : Int)) (rup wt s ((1048576 * 11 + q : Nat) : Int)) ((p + 1 : Nat) : Int) ((q + 1 : Nat) : Int) ((s + 1 : Nat) : Int) o m) := C92_jump (t := 11) (v := 0) he hx hp hq hs (Or.inl rfl) rfl hc (u_lands0 (by omega) hs (by omega) hj h11)
theorem C92_bar {z : zZ} {e p n q s : Nat} {o m : Int} {ji jn : Option Nat} {b st wt : Row} {μ : Mu} (he : 6 ≤ e) (hx : CX μ b n) (hp : p ≤ n) (hq : q < 220) (hs : s < 219) (hc : tx b n p = 124) (hi : PJ 12 st wt s q ji) (hj : PJ 11 st wt (s + oz ji) q jn) (hij : ∀ y, ji = some y → jn ≠ some y) (h11 : wtop wt s ≠ 11) (h12 : wtop wt s ≠ 12) : C92 z e (UQ μ st wt (p : Int) (q : Int) ((s + oz ji + oz jn : Nat) : Int) o m) = C40 z e (UQ μ (rup (pat1 (pat1 st 11 q jn) 12 q ji) q ((1048576 * 12 : Nat) : Int)) (rup wt s ((1048576 * 12 + q : Nat) : Int)) ((p + 1 : Nat) : Int) ((q + 1 : Nat) : Int) ((s + 1 : Nat) : Int) o m) := C92_jump (t := 12) (v := 1) he hx hp hq (by omega) (Or.inr rfl) rfl hc (u_lands1 (by omega) hs (by omega) hi hj hij h11 h12)
theorem C92_no {z : zZ} {e p n : Nat} {q s o m : Int} {b st wt : Row} {μ : Mu} (he : 6 ≤ e) (hx : CX μ b n) (hp : p ≤ n) (h1 : tx b n p ≠ 41) (h2 : tx b n p ≠ 38) (h3 : tx b n p ≠ 124) : C92 z e (UQ μ st wt (p : Int) q s o m) = some (0, zup (UQ μ st wt (p : Int) q s o m) 86 12 (-1000 - (p : Int))) := by
  have hn := hx.2.1
  unfold C92
  rw [e_M_readsCondition_92, u_here (by omega) hx]
  simp -implicitDefEqProofs only [ob]
  rw [nF h1, u_here (by omega) hx]
  simp -implicitDefEqProofs only [ob]
  rw [cF h2, u_here (by omega) hx]
  simp -implicitDefEqProofs only [ob]
  rw [cF h3, UQ_10, t_wrongAt (by omega) (by omega) (by omega)]
  simp -implicitDefEqProofs only [ob]
  rw [g01_ok (Or.inl rfl), show (-1000 * 1 - (p : Int)) = -1000 - (p : Int) by omega]
theorem C92_par {z : zZ} {e p n q s o : Nat} {m : Int} {ji jn : Option Nat} {b st wt : Row} {μ : Mu} (he : 6 ≤ e) (hx : CX μ b n) (hp : p ≤ n) (hq : q ≤ 220) (hs : s + 1 < 219) (ho : o ≤ 100) (hc : tx b n p = 41) (hi : PJ 12 st wt (s + 1) q ji) (hj : PJ 11 st wt (s + 1 + oz ji) q jn) (hij : ∀ y, ji = some y → jn ≠ some y) (h13 : wtop wt (s + 1) = 13) : C92 z e (UQ μ st wt (p : Int) (q : Int) ((s + 1 + oz ji + oz jn : Nat) : Int) ((o + 1 : Nat) : Int) m) = if s = 0 then some (1, UQ μ (pat1 (pat1 st 11 q jn) 12 q ji) wt ((p + 1 : Nat) : Int) (q : Int) (s : Int) (o : Int) m) else f_M_readsCondition_145 z e (UQ μ (pat1 (pat1 st 11 q jn) 12 q ji) wt ((p + 1 : Nat) : Int) (q : Int) (s : Int) (o : Int) m) := by
  have hn := hx.2.1
  unfold C92
  rw [e_M_readsCondition_92, u_here (by omega) hx]
  simp -implicitDefEqProofs only [ob]
  rw [nT hc, u_lands1 (by omega) hs hq hi hj hij (by omega) (by omega)]
  simp -implicitDefEqProofs only [ob]
  have hs1 : zw (UQ μ (pat1 (pat1 st 11 q jn) 12 q ji) wt (p : Int) (q : Int) ((s + 1 : Nat) : Int) ((o + 1 : Nat) : Int) m 86 25 - 1) = (s : Int) := by rw [UQ_25, zn1 (by omega)]
  by_cases h : s = 0
  · rw [nT (by rw [hs1]; omega), if_pos h, hs1, UQ_u25, UQ_23, UQ_u23, UQ_10, UQ_u10, zn1 (by omega), zwc (by omega)]
  · rw [nF (by rw [hs1]; omega), if_neg h, hs1, UQ_u25, UQ_23, UQ_u23, UQ_10, UQ_u10, zn1 (by omega), zwc (by omega)]
