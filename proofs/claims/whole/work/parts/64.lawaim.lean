/-! jumps that wait for their aim -/
def lk : List Nat → Nat
  | [] => 0
  | j :: _ => j + 1
def chn (k : Nat) (st : Row) (sz : Nat) : List Nat → Prop
  | [] => True
  | j :: js => st j = ((k + 16 * lk js : Nat) : Int) ∧ j < sz ∧ (∀ x, x ∈ js → x < j) ∧ chn k st sz js
def pat (k sz : Nat) (st : Row) : List Nat → Row
  | [] => st
  | j :: js => pat k sz (rup st j ((k + 16 * sz : Nat) : Int)) js
theorem chn_congr {k sz : Nat} {st st' : Row} : ∀ js : List Nat, (∀ x, x ∈ js → st' x = st x) → chn k st sz js → chn k st' sz js
  | [], _, _ => trivial
  | j :: js, h, hc => ⟨by rw [h j (List.mem_cons_self ..)]; exact hc.1, hc.2.1, hc.2.2.1, chn_congr js (fun x hx => h x (List.mem_cons_of_mem _ hx)) hc.2.2.2⟩
theorem chn_len {k sz : Nat} {st : Row} : ∀ js : List Nat, chn k st sz js → js.length ≤ lk js ∧ lk js ≤ sz
  | [], _ => ⟨Nat.le_refl _, Nat.zero_le _⟩
  | j :: js, hc => by
    obtain ⟨h1, h2⟩ := chn_len js hc.2.2.2
    have h3 : lk js ≤ j := by
      cases js with
      | nil => exact Nat.zero_le _
      | cons x xs => exact hc.2.2.1 x (List.mem_cons_self ..)
    have h4 := hc.2.1
    show js.length + 1 ≤ j + 1 ∧ j + 1 ≤ sz
    omega
theorem pat_out {k sz : Nat} : ∀ (js : List Nat) (st : Row) (x : Nat), ¬ x ∈ js → pat k sz st js x = st x
  | [], _, _, _ => rfl
  | j :: js, st, x, h => by
    show pat k sz (rup st j _) js x = st x
    rw [pat_out js _ x (fun q => h (List.mem_cons_of_mem _ q)), rup_ne (fun q => h (by rw [q]; exact List.mem_cons_self ..))]
theorem pat_in {k sz : Nat} : ∀ (js : List Nat) (st : Row) (x : Nat), x ∈ js → (∀ (a : Nat) (l : List Nat), js = a :: l → ∀ y, y ∈ l → y < a) → chn k st sz js → pat k sz st js x = ((k + 16 * sz : Nat) : Int)
  | [], _, _, h, _, _ => by cases h
  | j :: js, st, x, h, hs, hc => by
    show pat k sz (rup st j _) js x = _
    by_cases hx : x ∈ js
    · refine pat_in js _ x hx (fun a l hl y hy => ?_) (chn_congr js (fun y hy => rup_ne (by have := hc.2.2.1 y hy; omega)) hc.2.2.2)
      subst hl
      exact hc.2.2.2.2.2.1 y hy
    · rw [pat_out js _ x hx]
      have : x = j := by
        cases h with
        | head => rfl
        | tail _ q => exact absurd q hx
      rw [this, rup_same]
theorem s_aim {z : zZ} {e w k sz : Nat} (hw : isLw w) (hk : k < 16) (hsz : sz ≤ 256) : ∀ (js : List Nat) (i : Nat) (μ : Mu), i + js.length ≤ 256 → μ w 5 = (sz : Int) → chn k (μ (w + 4)) sz js → f_Law_aimHere_4 z e w ((lk js : Int) - 1) (i : Int) μ = some (0, zrow μ (w + 4) (pat k sz (μ (w + 4)) js))
  | [], i, μ, hi, h5, _ => by
    have e1 : ((lk [] : Nat) : Int) - 1 = -1 := rfl
    rw [e1, e_Law_aimHere_4 _ _ _ _ _ _ hw]
    have e2 : zrow μ (w + 4) (pat k sz (μ (w + 4)) []) = μ := zrow_id
    rw [e2]
    by_cases h : (256 : Int) ≤ (i : Int)
    · rw [cT h, e_Law_aimHere_66]
    · rw [cF h, cT (by omega), e_Law_aimHere_66]
  | j :: js, i, μ, hi, h5, hc => by
    have hl : i + js.length + 1 ≤ 256 := hi
    have hj := hc.2.1
    have hlen := chn_len js hc.2.2.2
    have e1 : ((lk (j :: js) : Nat) : Int) - 1 = (j : Int) := by show ((j + 1 : Nat) : Int) - 1 = _; omega
    rw [e1, e_Law_aimHere_4 _ _ _ _ _ _ hw, cF (by omega), cF (by omega), h5, cF (by omega), gI_ok (by omega) (by omega), gI_ok (by omega) (by omega), gI_ok (by omega) (by omega)]
    simp -implicitDefEqProofs only [Int.toNat_natCast, hc.1]
    rw [stp_kind hk (by omega), stp_num hk (by omega), z_put hk (by omega), zwc (by omega), zw_id (x := ((lk js : Nat) : Int) - 1) (by omega) (by omega), zupr]
    have ih := s_aim hw hk hsz (z := z) (e := e) js (i + 1) (zrow μ (w + 4) (rup (μ (w + 4)) j ((k + 16 * sz : Nat) : Int))) (by omega) (by rw [zrow_ne (by omega)]; exact h5) (by
      rw [zrow_same]
      exact chn_congr js (fun y hy => rup_ne (by have := hc.2.2.1 y hy; omega)) hc.2.2.2)
    rw [ih, zrow_same, zrow_zrow]
    rfl
theorem s_aimHere {z : zZ} {d w k sz : Nat} {js : List Nat} {μ : Mu} (hd : 1 ≤ d) (hw : isLw w) (hk : k < 16) (hsz : sz ≤ 256) (h5 : μ w 5 = (sz : Int)) (hc : chn k (μ (w + 4)) sz js) : mC z d 61 [(2, (w : Int)), (0, (lk js : Int) - 1)] μ = some (0, zrow μ (w + 4) (pat k sz (μ (w + 4)) js)) := by
  obtain ⟨e, rfl, he⟩ := pred_of hd
  have hlen := chn_len js hc
  rw [c_Law_aimHere _ _ _ _ _ hw]
  exact s_aim hw hk hsz js 0 μ (by omega) h5 hc
