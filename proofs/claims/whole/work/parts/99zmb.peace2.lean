/-- one letter more: the reference -/
theorem t_mkstep {z : zZ} {e w v i j k N0 N1 : Nat} {many : Int} {W0 W1 r1 r2 : Row} {L0 L1 : Nat → Nat} {P : Mu} (he : 1 ≤ e) (hx : lexR P 0 N0 W0 L0) (hx' : lexR P 1 N1 W1 L1) (hw : w < N0) (hv : v < N1) (hi : i ≤ L0 w) (hj : j ≤ L1 v) (h : i < L0 w ∨ j < L1 v) (hk : k < 16) (hm1 : many ≤ 16) (hT : TBL (fun k => letc (W0 w) (k : Int)) (fun k => letc (W1 v) (k : Int)) (L0 w) (L1 v) (P 126)) (hmany : many = (k : Int) + scs (fun k => letc (W0 w) (k : Int)) (fun k => letc (W1 v) (k : Int)) (L0 w) (L1 v) (L0 w - i) (L1 v - j)) (h88 : ∀ q, q < 12 → P 88 q = r1 q) (hr1 : rkr r1) (hr2 : rkr r2) (h12 : ∀ q, q < 12 → r2 (r1 q).toNat = (q : Int)) (h21 : ∀ x, x < 12 → r1 (r2 x).toNat = (x : Int)) : f_M_laysPeace_38 z e (w : Int) (v : Int) (L0 w : Int) (L1 v : Int) (i : Int) (j : Int) many (k : Int) P = f_M_laysPeace_38 z e (w : Int) (v : Int) (L0 w : Int) (L1 v : Int) ((pcI (fun k => letc (W0 w) (k : Int)) (fun k => letc (W1 v) (k : Int)) r2 (L0 w) (L1 v) i j : Nat) : Int) ((pcJ (fun k => letc (W0 w) (k : Int)) (fun k => letc (W1 v) (k : Int)) r2 (L0 w) (L1 v) i j : Nat) : Int) many ((k + 1 : Nat) : Int) (zup P 127 k (pcL (fun k => letc (W0 w) (k : Int)) (fun k => letc (W1 v) (k : Int)) r2 (L0 w) (L1 v) i j)) := by
  obtain ⟨x1, x2, x3⟩ := hx.2.2 w hw
  obtain ⟨y1, y2, y3⟩ := hx'.2.2 v hv
  have m8 := x3.1.2.1
  have n8 := y3.1.2.1
  have lr : ∀ {x : Int} {t : Nat}, isW x t → ∀ q, q < t → 0 ≤ letc x (q : Int) ∧ letc x (q : Int) < 12 := fun {x t} hx q hq => by
    have h1 := hx.2.2.1 q hq
    have h2 := hx.2.1
    rw [letc_nat (by omega)]
    omega
  have hp1 := pc_le (a := fun k => letc (W0 w) (k : Int)) (b := fun k => letc (W1 v) (k : Int)) (r := r2) hi hj h
  have hp2 := pc_at (a := fun k => letc (W0 w) (k : Int)) (b := fun k => letc (W1 v) (k : Int)) (r := r2) h
  have hp3 := fun x => pc_not (a := fun k => letc (W0 w) (k : Int)) (b := fun k => letc (W1 v) (k : Int)) (r := r2) (m := L0 w) (n := L1 v) (i := i) (j := j) (x := x)
  have hl : 0 ≤ pcL (fun k => letc (W0 w) (k : Int)) (fun k => letc (W1 v) (k : Int)) r2 (L0 w) (L1 v) i j ∧ pcL (fun k => letc (W0 w) (k : Int)) (fun k => letc (W1 v) (k : Int)) r2 (L0 w) (L1 v) i j < 12 := by
    have hp := hp2
    unfold pcL
    split
    · rename_i hc
      refine lr x3.1 i ?_
      cases hE : pcE (fun k => letc (W0 w) (k : Int)) (fun k => letc (W1 v) (k : Int)) (L0 w) (L1 v) i j with
      | true =>
        unfold pcE at hE
        rw [Bool.and_eq_true, decide_eq_true_eq] at hE
        exact hE.1
      | false =>
        rw [hE, Bool.false_or] at hc
        unfold pcF at hc
        rw [Bool.and_eq_true, decide_eq_true_eq] at hc
        exact hc.1
    · rename_i hc
      refine lr y3.1 j ?_
      by_cases h2 : j < L1 v
      · exact h2
      · exfalso
        apply hc
        have h1 : i < L0 w := by omega
        have : pcF (fun k => letc (W0 w) (k : Int)) (fun k => letc (W1 v) (k : Int)) r2 (L0 w) (L1 v) i j = true := by
          unfold pcF
          have h3 : decide (L1 v ≤ j) = true := decide_eq_true (by omega)
          rw [decide_eq_true h1, h3, Bool.true_or]; rfl
        rw [this, Bool.or_true]
  have hs0 := (scs_rg (fun k => letc (W0 w) (k : Int)) (fun k => letc (W1 v) (k : Int)) (L0 w) (L1 v) (L0 w - i) (L1 v - j)).1
  have hS := hp1.2.2
  generalize hI : pcI (fun k => letc (W0 w) (k : Int)) (fun k => letc (W1 v) (k : Int)) r2 (L0 w) (L1 v) i j = I at *
  generalize hJ : pcJ (fun k => letc (W0 w) (k : Int)) (fun k => letc (W1 v) (k : Int)) r2 (L0 w) (L1 v) i j = J at *
  generalize hLl : pcL (fun k => letc (W0 w) (k : Int)) (fun k => letc (W1 v) (k : Int)) r2 (L0 w) (L1 v) i j = Lt at *
  have hs1 := (scs_rg (fun k => letc (W0 w) (k : Int)) (fun k => letc (W1 v) (k : Int)) (L0 w) (L1 v) (L0 w - I) (L1 v - J)).1
  have hq0 := hr2 Lt.toNat
  have hq1 := h21 Lt.toNat (by omega)
  rw [e_M_laysPeace_38, cF (by omega)]
  have key := down (n := (r2 Lt.toNat).toNat) (P := fun q => f_M_laysPeace_48 z e (w : Int) (v : Int) (L0 w : Int) (L1 v : Int) (i : Int) (j : Int) many (k : Int) (q : Int) P = f_M_laysPeace_38 z e (w : Int) (v : Int) (L0 w : Int) (L1 v : Int) (I : Int) (J : Int) many ((k + 1 : Nat) : Int) (zup P 127 k Lt))
    (by
      have e1 : P 88 (r2 Lt.toNat).toNat = Lt := by rw [h88 _ (by omega), hq1]; omega
      rw [t_pq (q := (r2 Lt.toNat).toNat) he hx hx' hw hv hi hj (by omega) hk (by omega) hm1 I J (by rw [e1]; exact hp2.1.symm) (by rw [e1]; exact hp2.2.1.symm), e1, if_neg]
      rintro (q | q)
      · exact hp2.2.2 q
      · apply q
        rw [hT I J hp1.1 hp1.2.1, hmany, hS]
        omega)
    (by
      intro q hq ih
      have hr := hr1 q
      have hlt : r2 (P 88 q).toNat < r2 Lt.toNat := by
        rw [h88 q (by omega), h12 q (by omega)]
        omega
      have hn := hp3 (P 88 q) hlt
      rw [t_pq (q := q) he hx hx' hw hv hi hj (by omega) hk (by omega) hm1 _ _ rfl rfl, if_pos]
      · exact ih
      · rcases hn with hn | hn
        · left; exact hn
        · right
          intro q2
          apply hn
          rw [hT _ _ (by split <;> omega) (by split <;> omega)] at q2
          rw [hmany] at q2
          omega)
  exact key 0 (by omega)
