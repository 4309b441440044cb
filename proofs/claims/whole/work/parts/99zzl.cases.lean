/-! the law's cases: what the class says and what the reference says -/
theorem zEs_step {P : Nat → zM} {X : Nat → Int} {XL d t : Nat} {M : zM} {e : ze} {cs : zc} {ls st ls' st' : List zv} {h h' : zh} (hk : e.2.1 = []) (hz : zs1 M.1 M.2.1 X XL e.2.2.1 e.1 e.2.2.2.2 ls st h = (true, .inr (.inl (false, t, ls', st', h')))) : zEs P X XL d M (e :: cs) ls st h = zEs P X XL d M cs ls' st' h' := by
  rw [zEs_cons, hk]
  show zdr _ (zs1 M.1 M.2.1 X XL e.2.2.1 e.1 e.2.2.2.2 ls st h) _ _ = _
  rw [hz]
  rfl
theorem zEs_jump {P : Nat → zM} {X : Nat → Int} {XL d t : Nat} {M : zM} {e : ze} {cs : zc} {ls st ls' st' : List zv} {h h' : zh} (hk : e.2.1 = []) (hz : zs1 M.1 M.2.1 X XL e.2.2.1 e.1 e.2.2.2.2 ls st h = (true, .inr (.inl (true, t, ls', st', h')))) : zEs P X XL d M (e :: cs) ls st h = zE P X XL d M t ls' st' h' := by
  rw [zEs_cons, hk]
  show zdr _ (zs1 M.1 M.2.1 X XL e.2.2.1 e.1 e.2.2.2.2 ls st h) _ _ = _
  rw [hz]
  rfl
theorem zEs_call {P : Nat → zM} {X : Nat → Int} {XL d rk mi : Nat} {M : zM} {e : ze} {cs : zc} {ls st ls' st' as : List zv} {h h' h2 : zh} {v : Int} (hk : e.2.1 = []) (hz : zs1 M.1 M.2.1 X XL e.2.2.1 e.1 e.2.2.2.2 ls st h = (true, .inr (.inr (.inl (rk, mi, as, ls', st', h'))))) (hc : zC P X XL d mi as h' = some (v, h2)) : zEs P X XL d M (e :: cs) ls st h = zEs P X XL d M cs ls' (zps rk v st') h2 := by
  rw [zEs_cons, hk]
  show zdr _ (zs1 M.1 M.2.1 X XL e.2.2.1 e.1 e.2.2.2.2 ls st h) _ _ = _
  rw [hz]
  show (match zC P X XL d mi as h' with
    | none => none
    | some (v, h2) => zEs P X XL d M cs ls' (zps rk v st') h2) = _
  rw [hc]
def tAl (n : Nat) (e : ze) : Bool := e.2.1.isEmpty && (match e.2.2.1 with
  | .aload_n a => a.val == n
  | _ => false)
def tIl (n : Nat) (e : ze) : Bool := e.2.1.isEmpty && (match e.2.2.1 with
  | .iload_n a => a.val == n
  | _ => false)
def tIc (k : Int) (e : ze) : Bool := e.2.1.isEmpty && (match e.2.2.1 with
  | .iconst c => c == k
  | _ => false)
def tAd (e : ze) : Bool := e.2.1.isEmpty && (match e.2.2.1 with
  | .iadd => true
  | _ => false)
def tIa (e : ze) : Bool := e.2.1.isEmpty && (match e.2.2.1 with
  | .iaload => true
  | _ => false)
def tLc (e : ze) : Bool := e.2.1.isEmpty && (match e.2.2.1 with
  | .lcmp => true
  | _ => false)
def tC (rk mi na : Nat) (cls : Int) (e : ze) : Bool := e.2.1.isEmpty && (e.2.2.2.2 == (rk, mi, na, cls) && (match e.2.2.1 with
  | .invokevirtual _ => true
  | _ => false))
def tEq (e : ze) : Bool := e.2.1.isEmpty && (match e.2.2.1 with
  | .if_icmp .eq off => decide ((e.1 : Int) + off = (e.2.2.2.2.2.1 : Int)) && e.2.2.2.2.2.1 == 1262
  | _ => false)
def tIf (e : ze) : Bool := e.2.1.isEmpty && (match e.2.2.1 with
  | .ifCond .eq off => decide ((e.1 : Int) + off = (e.2.2.2.2.2.1 : Int)) && e.2.2.2.2.2.1 == 1262
  | _ => false)
def cutA (k : Int) (es : zc) : Option zc := match es with
  | e1 :: e2 :: e3 :: e4 :: e5 :: cs => bif tAl 0 e1 && (tIl 3 e2 && (tIc k e3 && (tAd e4 && tIa e5))) then some cs else none
  | _ => none
def cutL : List Int → zc → Option zc
  | [], es => some es
  | k :: ks, es => (cutA k es).bind (cutL ks)
def tEnd (lg : Bool) (es : zc) : Bool := match lg, es with
  | false, e :: _ => tEq e
  | true, e :: f :: _ => tLc e && tIf f
  | _, _ => false
def cutR (mr : Nat) (ks : List Int) (lg : Bool) (es : zc) : Bool := match es with
  | f :: es => tAl 2 f && (match cutL ks es with
    | some (g :: es) => tC (bif lg then 2 else 1) mr (ks.length + 1) 11 g && tEnd lg es
    | _ => false)
  | _ => false
def cutC (mi mr : Nat) (ks : List Int) (lg : Bool) (es : zc) : Bool := match es with
  | e :: es => tAl 1 e && (match cutL ks es with
    | some (c :: es) => tC (bif lg then 2 else 1) mi (ks.length + 1) 10 c && cutR mr ks lg es
    | _ => false)
  | _ => false
abbrev lsL (i : Int) : List zv := [(4, 0), (2, 0), (2, 86), (0, i)]
section
variable {X : Nat → Int} {XL d : Nat} {i : Int}
theorem L_al {n : Nat} {e : ze} {cs : zc} {ls st : List zv} {h : zh} {q : zv} (ht : tAl n e = true) (hq : ls.getD n (9, 0) = q) (hg : (q.1 == 2 || q.1 == 3 || q.1 == 4) = true) : zEs zP X XL d q_L_law (e :: cs) ls st h = zEs zP X XL d q_L_law cs ls (q :: st) h := by
  obtain ⟨pc, kl, ins, len, r⟩ := e
  simp only [tAl, Bool.and_eq_true] at ht
  obtain ⟨h1, h2⟩ := ht
  have hk : kl = [] := by simpa using h1
  split at h2
  · rename_i a
    refine zEs_step (t := 0) hk ?_
    show z_lda a.val ls st h = _
    rw [show a.val = n from by simpa using h2]
    unfold z_lda
    rw [hq]
    obtain ⟨u, x⟩ := q
    show (_, _) = (true, _)
    rw [show (u == 2 || u == 3 || u == 4) = true from hg]
  · cases h2
theorem L_il {n : Nat} {e : ze} {cs : zc} {ls st : List zv} {h : zh} {x : Int} (ht : tIl n e = true) (hq : ls.getD n (9, 0) = (0, x)) : zEs zP X XL d q_L_law (e :: cs) ls st h = zEs zP X XL d q_L_law cs ls ((0, x) :: st) h := by
  obtain ⟨pc, kl, ins, len, r⟩ := e
  simp only [tIl, Bool.and_eq_true] at ht
  obtain ⟨h1, h2⟩ := ht
  have hk : kl = [] := by simpa using h1
  split at h2
  · rename_i a
    refine zEs_step (t := 0) hk ?_
    show z_ld 0 a.val ls st h = _
    rw [show a.val = n from by simpa using h2]
    unfold z_ld
    rw [hq]
    rfl
  · cases h2
theorem L_ic {k : Int} {e : ze} {cs : zc} {ls st : List zv} {h : zh} (ht : tIc k e = true) (h1 : -128 ≤ k) (h2 : k ≤ 127) : zEs zP X XL d q_L_law (e :: cs) ls st h = zEs zP X XL d q_L_law cs ls ((0, k) :: st) h := by
  obtain ⟨pc, kl, ins, len, r⟩ := e
  simp only [tIc, Bool.and_eq_true] at ht
  obtain ⟨h3, h4⟩ := ht
  have hk : kl = [] := by simpa using h3
  split at h4
  · rename_i c
    refine zEs_step (t := 0) hk ?_
    show zng (decide (-128 ≤ c) && decide (c ≤ 127)) ls ((0, c) :: st) h = _
    rw [show c = k from by simpa using h4, decide_eq_true h1, decide_eq_true h2]
    rfl
  · cases h4
theorem L_ad {x y : Int} {e : ze} {cs : zc} {ls st : List zv} {h : zh} (ht : tAd e = true) : zEs zP X XL d q_L_law (e :: cs) ls ((0, y) :: (0, x) :: st) h = zEs zP X XL d q_L_law cs ls ((0, zw (x + y)) :: st) h := by
  obtain ⟨pc, kl, ins, len, r⟩ := e
  simp only [tAd, Bool.and_eq_true] at ht
  obtain ⟨h3, h4⟩ := ht
  have hk : kl = [] := by simpa using h3
  split at h4
  · exact zEs_step (t := 0) hk rfl
  · cases h4
theorem L_ia {x : Int} {e : ze} {cs : zc} {ls st : List zv} {h : zh} (ht : tIa e = true) (h1 : 0 ≤ x) (h2 : x < (XL : Int)) : zEs zP X XL d q_L_law (e :: cs) ls ((0, x) :: (4, 0) :: st) h = zEs zP X XL d q_L_law cs ls ((0, X x.toNat) :: st) h := by
  obtain ⟨pc, kl, ins, len, r⟩ := e
  simp only [tIa, Bool.and_eq_true] at ht
  obtain ⟨h3, h4⟩ := ht
  have hk : kl = [] := by simpa using h3
  split at h4
  · refine zEs_step (t := 0) hk ?_
    show zng ((0 == 0) && (decide (0 ≤ x) && decide (x < (XL : Int)))) ls ((0, X x.toNat) :: st) h = _
    rw [decide_eq_true h1, decide_eq_true h2]
    rfl
  · cases h4
abbrev aX (X : Nat → Int) (i k : Int) : zv := (0, X (zw (i + k)).toNat)
theorem L_cutA {k : Int} {es cs : zc} {st : List zv} {h : zh} (hc : cutA k es = some cs) (hk : 1 ≤ k ∧ k ≤ 5) (hg : 0 ≤ zw (i + k) ∧ zw (i + k) < (XL : Int)) : zEs zP X XL d q_L_law es (lsL i) st h = zEs zP X XL d q_L_law cs (lsL i) (aX X i k :: st) h := by
  unfold cutA at hc
  split at hc
  · rename_i e1 e2 e3 e4 e5 cs'
    cases hb : tAl 0 e1 && (tIl 3 e2 && (tIc k e3 && (tAd e4 && tIa e5))) with
    | false => rw [hb] at hc; cases hc
    | true =>
      rw [hb] at hc
      cases hc
      simp only [Bool.and_eq_true] at hb
      obtain ⟨t1, t2, t3, t4, t5⟩ := hb
      rw [L_al (q := (4, 0)) t1 rfl rfl, L_il (x := i) t2 rfl, L_ic t3 (by omega) (by omega), L_ad t4, L_ia t5 hg.1 hg.2]
  · cases hc
theorem L_cutL : ∀ (ks : List Int) {es cs : zc} {st : List zv} {h : zh}, cutL ks es = some cs → (∀ k, k ∈ ks → (1 ≤ k ∧ k ≤ 5) ∧ (0 ≤ zw (i + k) ∧ zw (i + k) < (XL : Int))) → zEs zP X XL d q_L_law es (lsL i) st h = zEs zP X XL d q_L_law cs (lsL i) ((ks.map (aX X i)).reverse ++ st) h
  | [], es, cs, st, h, hc, _ => by cases hc; rfl
  | k :: ks, es, cs, st, h, hc, hk => by
    unfold cutL at hc
    cases ha : cutA k es with
    | none => rw [ha] at hc; cases hc
    | some c1 =>
      rw [ha] at hc
      rw [L_cutA ha (hk k List.mem_cons_self).1 (hk k List.mem_cons_self).2, L_cutL ks hc (fun k q => hk k (List.mem_cons_of_mem _ q))]
      simp
theorem L_call {rk mi : Nat} {cls : Int} {e : ze} {cs : zc} {ls l rest : List zv} {o v : Int} {h h2 : zh} (hrk : rk = 1 ∨ rk = 2) (ht : tC rk mi (l.length + 1) cls e = true) (ho : 0 ≤ o ∧ ((zat h o).1 : Int) = cls) (hr : zcat rest ≤ 8) (hc : zC zP X XL d mi ((2, o) :: l) h = some (v, h2)) : zEs zP X XL d q_L_law (e :: cs) ls (l.reverse ++ (2, o) :: rest) h = zEs zP X XL d q_L_law cs ls (zps rk v rest) h2 := by
  obtain ⟨pc, kl, ins, len, r⟩ := e
  simp only [tC, Bool.and_eq_true, beq_iff_eq] at ht
  obtain ⟨h3, h5, h4⟩ := ht
  have hk : kl = [] := by simpa using h3
  subst h5
  split at h4
  · refine zEs_call hk ?_ hc
    show z_cl (rk, mi, l.length + 1, cls) ls (l.reverse ++ (2, o) :: rest) h = _
    have e0 : l.reverse ++ (2, o) :: rest = (l.reverse ++ [(2, o)]) ++ rest := by simp
    have e1 : (l.reverse ++ (2, o) :: rest).take (l.length + 1) = l.reverse ++ [(2, o)] := by
      rw [e0]; exact List.take_left' (by simp)
    have e2 : (l.reverse ++ (2, o) :: rest).drop (l.length + 1) = rest := by
      rw [e0]; exact List.drop_left' (by simp)
    have e3 : (l.reverse ++ [(2, o)]).reverse = (2, o) :: l := by simp
    have key : ∀ k : Nat, k = 1 ∨ k = 2 → z_cl (k, mi, l.length + 1, cls) ls (l.reverse ++ (2, o) :: rest) h = (decide (1 ≤ k) && (decide (k ≤ 3) && (decide (l.length + 1 ≤ (l.reverse ++ (2, o) :: rest).length) && (decide (zcat ((l.reverse ++ (2, o) :: rest).drop (l.length + 1)) ≤ 8) && (cls == -1 || (match ((l.reverse ++ (2, o) :: rest).take (l.length + 1)).reverse with | (t, a) :: _ => t == 2 && (decide (0 ≤ a) && ((zat h a).1 : Int) == cls) | _ => false))))), .inr (.inr (.inl (k, mi, ((l.reverse ++ (2, o) :: rest).take (l.length + 1)).reverse, ls, (l.reverse ++ (2, o) :: rest).drop (l.length + 1), h)))) := by
      rintro k (rfl | rfl) <;> rfl
    rw [key rk hrk, e1, e2, e3]
    have g1 : decide (1 ≤ rk) = true := by rcases hrk with rfl | rfl <;> rfl
    have g2 : decide (rk ≤ 3) = true := by rcases hrk with rfl | rfl <;> rfl
    have g3 : decide (l.length + 1 ≤ (l.reverse ++ (2, o) :: rest).length) = true := by simp
    have g4 : decide (zcat rest ≤ 8) = true := decide_eq_true hr
    have g5 : (((2 : Nat) == 2) && (decide (0 ≤ o) && ((zat h o).1 : Int) == cls)) = true := by
      rw [decide_eq_true ho.1, ho.2]; simp
    refine Prod.ext ?_ rfl
    show (decide (1 ≤ rk) && (decide (rk ≤ 3) && (decide (l.length + 1 ≤ (l.reverse ++ (2, o) :: rest).length) && (decide (zcat rest ≤ 8) && (cls == -1 || (((2 : Nat) == 2) && (decide (0 ≤ o) && ((zat h o).1 : Int) == cls))))))) = true
    rw [g1, g2, g3, g4, g5, Bool.or_true]
    rfl
  · cases h4
theorem L_eq {v : Int} {e : ze} {cs : zc} {ls st : List zv} {h : zh} (ht : tEq e = true) : zEs zP X XL d q_L_law (e :: cs) ls ((0, v) :: (0, v) :: st) h = zE zP X XL d q_L_law 1262 ls st h := by
  obtain ⟨pc, kl, ins, len, r⟩ := e
  simp only [tEq, Bool.and_eq_true] at ht
  obtain ⟨h3, h4⟩ := ht
  have hk : kl = [] := by simpa using h3
  split at h4
  · rename_i off
    simp only [Bool.and_eq_true, beq_iff_eq] at h4
    refine zEs_jump hk ?_
    show ((0 == 0) && ((0 == 0) && decide ((pc : Int) + off = (r.2.1 : Int))), (Sum.inr (Sum.inl (decide (v = v), r.2.1, ls, st, h)) : zo)) = _
    rw [h4.1, h4.2, decide_eq_true (rfl : v = v)]
    rfl
  · cases h4
theorem L_if {e f : ze} {v : Int} {cs : zc} {ls st : List zv} {h : zh} (ht : tLc e = true) (hf : tIf f = true) : zEs zP X XL d q_L_law (e :: f :: cs) ls ((1, v) :: (1, v) :: st) h = zE zP X XL d q_L_law 1262 ls st h := by
  obtain ⟨pc, kl, ins, len, r⟩ := e
  simp only [tLc, Bool.and_eq_true] at ht
  obtain ⟨h3, h4⟩ := ht
  have hk : kl = [] := by simpa using h3
  split at h4
  · rw [zEs_step (t := 0) (ls' := ls) (st' := (0, z_lcmp v v) :: st) (h' := h) hk rfl]
    obtain ⟨pc, kl, ins, len, r⟩ := f
    simp only [tIf, Bool.and_eq_true] at hf
    obtain ⟨h5, h6⟩ := hf
    have hk : kl = [] := by simpa using h5
    split at h6
    · rename_i off
      simp only [Bool.and_eq_true, beq_iff_eq] at h6
      have e1 : z_lcmp v v = 0 := by simp [z_lcmp]
      rw [e1]
      refine zEs_jump hk ?_
      show ((0 == 0) && decide ((pc : Int) + off = (r.2.1 : Int)), (Sum.inr (Sum.inl (decide ((0 : Int) = 0), r.2.1, ls, st, h)) : zo)) = _
      rw [h6.1, h6.2]
      rfl
    · cases h6
  · cases h4
theorem L_case {mi mr : Nat} {ks : List Int} {lg : Bool} {es : zc} {μ M P : Mu} {v : Int} (hk : ∀ k, k ∈ ks → (1 ≤ k ∧ k ≤ 5) ∧ (0 ≤ zw (i + k) ∧ zw (i + k) < (XL : Int))) (hc : cutC mi mr ks lg es = true) (h1 : zC zP X XL d mi ((2, 0) :: ks.map (aX X i)) (zLAY, μ) = some (v, (zLAY, M))) (h2 : zC zP X XL d mr ((2, 86) :: ks.map (aX X i)) (zLAY, M) = some (v, (zLAY, P))) : zEs zP X XL d q_L_law es (lsL i) [] (zLAY, μ) = zE zP X XL d q_L_law 1262 (lsL i) [] (zLAY, P) := by
  have hl : (ks.map (aX X i)).length = ks.length := by simp
  unfold cutC at hc
  split at hc
  · rename_i e es1
    simp only [Bool.and_eq_true] at hc
    obtain ⟨t1, hc⟩ := hc
    split at hc
    · rename_i c es2 hq
      simp only [Bool.and_eq_true] at hc
      obtain ⟨t2, hc⟩ := hc
      rw [← hl] at t2
      rw [L_al (q := (2, 0)) t1 rfl rfl, L_cutL ks hq hk]
      have hrk : (bif lg then 2 else 1) = 1 ∨ (bif lg then 2 else 1) = 2 := by cases lg <;> simp
      rw [L_call (o := 0) (h := (zLAY, μ)) hrk t2 ⟨Int.le_refl 0, rfl⟩ (show zcat [] ≤ 8 from Nat.zero_le 8) h1]
      unfold cutR at hc
      split at hc
      · rename_i f es3
        simp only [Bool.and_eq_true] at hc
        obtain ⟨t3, hc⟩ := hc
        split at hc
        · rename_i g es4 hq2
          simp only [Bool.and_eq_true] at hc
          obtain ⟨t4, t5⟩ := hc
          rw [← hl] at t4
          rw [L_al (q := (2, 86)) t3 rfl rfl, L_cutL ks hq2 hk]
          have hz : zcat (zps (bif lg then 2 else 1) v []) ≤ 8 := by cases lg <;> exact Nat.le_of_ble_eq_true rfl
          rw [L_call (o := 86) (h := (zLAY, M)) hrk t4 ⟨by omega, rfl⟩ hz h2]
          cases lg with
          | false =>
            cases es4 with
            | nil => cases t5
            | cons e es5 => exact L_eq t5
          | true =>
            cases es4 with
            | nil => cases t5
            | cons e es5 =>
              cases es5 with
              | nil => cases t5
              | cons f es6 =>
                have t6 : (tLc e && tIf f) = true := t5
                simp only [Bool.and_eq_true] at t6
                exact L_if t6.1 t6.2
        · cases hc
      · cases hc
    · cases hc
  · cases hc
end
