/-! from the start to the loop -/
section
variable {X : Nat → Int} {XL : Nat}
abbrev ls9 (a b : zv) : List zv := [(4, 0), a, b, (9, 0)]
set_option maxRecDepth 100000 in
theorem L_b0 {μ : Mu} : zE zP X XL 100 q_L_law 0 (ls9 (9, 0) (9, 0)) [] ([], μ) = zE zP X XL 100 q_L_law 4 (ls9 (9, 0) (9, 0)) [(2, 0), (2, 0)] (zL0, zclr μ 0) := by
  rw [zE_bk L_inc [4] 20]
  have key : ∀ (C : Nat → List zv → zh → zR) (E : Nat → List zv → List zv → zh → zR), zbk C E q_L_law.1 q_L_law.2.1 X XL q_L_law.2.2.2 [4] 20 (zfind q_L_law.2.2.2 0) (ls9 (9, 0) (9, 0)) [] ([], μ) = E 4 (ls9 (9, 0) (9, 0)) [(2, 0), (2, 0)] (zL0, zclr μ 0) := by
    intro C E
    rfl
  exact key _ _
set_option maxRecDepth 100000 in
theorem L_b1 {lay : List zl} {μ : Mu} : zE zP X XL 100 q_L_law 7 (ls9 (9, 0) (9, 0)) [(2, 0)] (lay, μ) = zE zP X XL 100 q_L_law 12 (ls9 (2, 0) (9, 0)) [(2, (lay.length : Int)), (2, (lay.length : Int))] (lay ++ [(11, 92, List.replicate 92 none)], zclr μ lay.length) := by
  rw [zE_bk L_inc [12] 20]
  have key : ∀ (C : Nat → List zv → zh → zR) (E : Nat → List zv → List zv → zh → zR), zbk C E q_L_law.1 q_L_law.2.1 X XL q_L_law.2.2.2 [12] 20 (zfind q_L_law.2.2.2 7) (ls9 (9, 0) (9, 0)) [(2, 0)] (lay, μ) = E 12 (ls9 (2, 0) (9, 0)) [(2, (lay.length : Int)), (2, (lay.length : Int))] (lay ++ [(11, 92, List.replicate 92 none)], zclr μ lay.length) := by
    intro C E
    rfl
  exact key _ _
set_option maxRecDepth 100000 in
theorem L_b2 {h : zh} : zE zP X XL 100 q_L_law 15 (ls9 (2, 0) (9, 0)) [(2, 86)] h = zE zP X XL 100 q_L_law 18 (lsL 0) [] h := by
  rw [zE_bk L_inc [18] 20]
  have key : ∀ (C : Nat → List zv → zh → zR) (E : Nat → List zv → List zv → zh → zR), zbk C E q_L_law.1 q_L_law.2.1 X XL q_L_law.2.2.2 [18] 20 (zfind q_L_law.2.2.2 15) (ls9 (2, 0) (9, 0)) [(2, 86)] h = E 18 (lsL 0) [] h := by
    intro C E
    rfl
  exact key _ _
theorem L_sp {mi : Nat} {cls a : Int} {pc len : Nat} {cs : zc} {ls : List zv} {h h2 : zh} {v : Int} {ins : Instr} (hi : ∀ r ls st h, zs1 99 false X XL ins pc r ls st h = z_cl r ls st h) (ha : 0 ≤ a) (hk : ((zat h a).1 : Int) = cls) (hc : zC zP X XL 100 mi [(2, a)] h = some (v, h2)) : zEs zP X XL 100 q_L_law ((pc, [], ins, len, (3, mi, 1, cls)) :: cs) ls [(2, a), (2, a)] h = zEs zP X XL 100 q_L_law cs ls [(2, a)] h2 := by
  refine zEs_call (rk := 3) (as := [(2, a)]) (st' := [(2, a)]) (ls' := ls) rfl ?_ hc
  show zs1 99 false X XL ins pc (3, mi, 1, cls) ls [(2, a), (2, a)] h = _
  rw [hi]
  show (true && (true && (true && (true && (cls == -1 || (true && (decide (0 ≤ a) && ((zat h a).1 : Int) == cls)))))), _) = _
  rw [decide_eq_true ha, hk, show (cls == cls) = true from by simp]
  simp
theorem law_run (hX : ∀ j, rg (X j)) (hL : XL ≤ 3072) : ∃ P, zEs zP X XL 100 q_L_law q_L_law.2.2.2 (ls9 (9, 0) (9, 0)) [] ([], fun _ _ => 0) = some (1, (zLAY, P)) := by
  have e0 : zfind q_L_law.2.2.2 0 = q_L_law.2.2.2 := rfl
  have e4 : zfind q_L_law.2.2.2 4 = (4, [], .invokespecial 9, 3, (3, 0, 1, 10)) :: zfind q_L_law.2.2.2 7 := rfl
  have e12 : zfind q_L_law.2.2.2 12 = (12, [], .invokespecial 12, 3, (3, 180, 1, 11)) :: zfind q_L_law.2.2.2 15 := rfl
  have s0 : zEs zP X XL 100 q_L_law q_L_law.2.2.2 (ls9 (9, 0) (9, 0)) [] ([], fun _ _ => 0) = zE zP X XL 100 q_L_law 0 (ls9 (9, 0) (9, 0)) [] ([], zmm []) := by
    show _ = zEs zP X XL 100 q_L_law (zfind q_L_law.2.2.2 0) _ _ _
    rw [e0]
    rfl
  have hl : zL1.length = 86 := by decide +kernel
  have m0 : zclr (zmm []) 0 = zmm [] := zmm_clr 0 []
  have m1 : zclr (zmm zw1) 86 = zmm zw1 := by
    rw [zmm_clr]
    exact congrArg zmm (by decide +kernel)
  have k1 : zC zP X XL 100 0 [(2, 0)] (zL0, zmm []) = some (0, (zL1, zmm zw1)) := zc0_C ctor_1
  have k2 : zC zP X XL 100 180 [(2, 86)] (zL1 ++ [(11, 92, List.replicate 92 none)], zmm zw1) = some (0, (zLAY, zmm zw2)) := zc0_C ctor_2
  have g2 : ((zat (zL1 ++ [(11, 92, List.replicate 92 none)], zmm zw1) 86).1 : Int) = 11 := by
    show ((((zL1 ++ [(11, 92, List.replicate 92 none)]).getD 86 (99, 0, [])).1 : Nat) : Int) = 11
    decide +kernel
  have s4 : zE zP X XL 100 q_L_law 4 (ls9 (9, 0) (9, 0)) [(2, 0), (2, 0)] (zL0, zmm []) = zE zP X XL 100 q_L_law 7 (ls9 (9, 0) (9, 0)) [(2, 0)] (zL1, zmm zw1) := by
    show zEs zP X XL 100 q_L_law (zfind q_L_law.2.2.2 4) _ _ _ = _
    rw [e4]
    exact L_sp (fun _ _ _ _ => rfl) (by omega) rfl k1
  have s12 : zE zP X XL 100 q_L_law 12 (ls9 (2, 0) (9, 0)) [(2, 86), (2, 86)] (zL1 ++ [(11, 92, List.replicate 92 none)], zmm zw1) = zE zP X XL 100 q_L_law 15 (ls9 (2, 0) (9, 0)) [(2, 86)] (zLAY, zmm zw2) := by
    show zEs zP X XL 100 q_L_law (zfind q_L_law.2.2.2 12) _ _ _ = _
    rw [e12]
    exact L_sp (fun _ _ _ _ => rfl) (by omega) g2 k2
  obtain ⟨P, hP⟩ := law_loop (X := X) (XL := XL) hX hL XL 0 (zmm zw2) (by omega) IV_0
  refine ⟨P, ?_⟩
  rw [s0, L_b0, m0, s4, L_b1, hl, m1]
  show zE zP X XL 100 q_L_law 12 (ls9 (2, 0) (9, 0)) [(2, 86), (2, 86)] (zL1 ++ [(11, 92, List.replicate 92 none)], zmm zw1) = _
  rw [s12, L_b2]
  exact hP
end
