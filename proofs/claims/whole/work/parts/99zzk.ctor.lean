/-! what the constructors make: a run over writes as a list, which the kernel walks once -/
abbrev zW : Type := List (Nat × Nat × Int)
def zmm : zW → Mu
  | [] => fun _ _ => 0
  | w :: l => zup (zmm l) w.1 w.2.1 w.2.2
theorem zclr_up {f : Mu} {a b k : Nat} {v : Int} : zclr (zup f a k v) b = bif a != b then zup (zclr f b) a k v else zclr f b := by
  by_cases h : a = b
  · subst h
    have e : (a != a) = false := by simp
    rw [e]
    funext c j
    show (if c = a then 0 else (if c = a ∧ j = k then v else f c j)) = if c = a then 0 else f c j
    by_cases h1 : c = a
    · rw [if_pos h1, if_pos h1]
    · rw [if_neg h1, if_neg h1, if_neg (fun q => h1 q.1)]
  · have e : (a != b) = true := by simpa using h
    rw [e]
    funext c j
    show (if c = b then 0 else (if c = a ∧ j = k then v else f c j)) = if c = a ∧ j = k then v else (if c = b then 0 else f c j)
    by_cases h1 : c = b
    · rw [if_pos h1, if_neg (fun q => h (q.1.symm.trans h1)), if_pos h1]
    · rw [if_neg h1, if_neg h1]
theorem zmm_clr (b : Nat) : ∀ l : zW, zclr (zmm l) b = zmm (l.filter (fun w => w.1 != b))
  | [] => by
    funext c j
    show (if c = b then (0 : Int) else 0) = 0
    split <;> rfl
  | w :: l => by
    show zclr (zup (zmm l) w.1 w.2.1 w.2.2) b = _
    rw [zclr_up, zmm_clr b l, List.filter_cons]
    cases h : w.1 != b <;> rfl
def zwpf (r : zr) (st : List zv) (l : zW) : Option zW := match st with
  | (_, v) :: (_, a) :: _ => (match r.2.2.2 with
    | 1 => some l
    | 3 => some ((a.toNat, r.2.2.1, v + 1) :: l)
    | _ => some ((a.toNat, r.2.2.1, v) :: l))
  | _ => none
def zw0 (i : Instr) (r : zr) (st : List zv) (n : Nat) (l : zW) : Option zW := match i with
  | .iconst _ => some l
  | .bipush _ => some l
  | .sipush _ => some l
  | .iload _ => some l
  | .iload_n _ => some l
  | .aload _ => some l
  | .aload_n _ => some l
  | .istore _ => some l
  | .istore_n _ => some l
  | .astore _ => some l
  | .astore_n _ => some l
  | .iinc _ _ => some l
  | .dup => some l
  | .iadd => some l
  | .imul => some l
  | .if_icmp _ _ => some l
  | .goto _ => some l
  | .getfield _ => some l
  | .return_ => some l
  | .aastore => some l
  | .arraylength => match st with
    | (2, _) :: _ => some l
    | _ => none
  | .new _ => some (l.filter (fun w => w.1 != n))
  | .newarray .int => some (l.filter (fun w => w.1 != n))
  | .newarray .long => some (l.filter (fun w => w.1 != n))
  | .newarray .byte => some (l.filter (fun w => w.1 != n))
  | .newarray .boolean => some (l.filter (fun w => w.1 != n))
  | .anewarray _ => some (l.filter (fun w => w.1 != n))
  | .putfield _ => zwpf r st l
  | .iastore => match st with
    | (_, v) :: (_, i) :: (_, a) :: _ => some ((a.toNat, i.toNat, v) :: l)
    | _ => none
  | .invokespecial _ => match r.1 with
    | 3 => some l
    | 4 => some l
    | _ => none
  | .invokestatic _ => match r.1 with
    | 3 => some l
    | _ => none
  | _ => none
def zhm (o : zo) : Mu := match o with
  | .inl (_, h) => h.2
  | .inr (.inl (_, _, _, _, h)) => h.2
  | .inr (.inr (.inl (_, _, _, _, _, h))) => h.2
  | .inr (.inr (.inr (_, _, _, _, _, h))) => h.2
theorem zhm_ng {g : Bool} {ls st : List zv} {h : zh} {o : zo} (hz : zng g ls st h = (true, o)) : zhm o = h.2 := by
  have h1 := ((Prod.mk.injEq _ _ _ _).mp hz).2
  subst h1
  rfl
theorem zhm_no {o : zo} {M : Mu} (hz : zno = (true, o)) : zhm o = M := by simp [zno] at hz
theorem zw0_ok {own : Nat} {ini : Bool} {i : Instr} {pc : Nat} {r : zr} {ls st : List zv} {lay : List zl} {l l' : zW} (hw : zw0 i r st lay.length l = some l') (X : Nat → Int) (XL : Nat) : zs1 own ini X XL i pc r ls st (lay, zmm l) = zs1 own ini (fun _ => 0) 0 i pc r ls st (lay, zmm l) ∧ ∀ o, zs1 own ini (fun _ => 0) 0 i pc r ls st (lay, zmm l) = (true, o) → zhm o = zmm l' := by
  have cl : (r.1 = 3 ∨ r.1 = 4 → ∀ o, z_cl r ls st (lay, zmm l) = (true, o) → zhm o = zmm l) := by
    refine (fun hr o q => ?_)
    unfold z_cl at q
    split at q
    · split at q
      · exact zhm_ng q
      · exact zhm_no q
    · omega
    · omega
    · have h1 := ((Prod.mk.injEq _ _ _ _).mp q).2
      subst h1
      rfl
  have pf : zwpf r st l = some l' → ∀ o, z_pf own ini r ls st (lay, zmm l) = (true, o) → zhm o = zmm l' := by
    intro hw o q
    unfold z_pf at q
    unfold zwpf at hw
    split at hw
    · by_cases h1 : r.2.2.2 = 1
      · rw [h1] at hw q
        cases hw
        exact zhm_ng q
      · by_cases h3 : r.2.2.2 = 3
        · rw [h3] at hw q
          cases hw
          exact zhm_ng q
        · split at hw
          · rename_i h4; exact absurd h4 h1
          · rename_i h4; exact absurd h4 h3
          · cases hw
            dsimp only at q
            split at q
            · rename_i h4; exact absurd h4 h1
            · rename_i h4; exact absurd h4 h3
            · exact zhm_ng q
            · exact zhm_ng q
    · cases hw
  have na : ∀ kd, l' = l.filter (fun w => w.1 != lay.length) → ∀ o, z_na kd ls st (lay, zmm l) = (true, o) → zhm o = zmm l' := by
    intro kd hl o q
    rw [hl, ← zmm_clr]
    unfold z_na at q
    split at q
    · exact zhm_ng q
    · exact zhm_no q
  cases i
  case iconst n => cases hw; exact ⟨by dsimp only [zs1], fun o q => zhm_ng q⟩
  case bipush n => cases hw; exact ⟨by dsimp only [zs1], fun o q => zhm_ng q⟩
  case sipush n => cases hw; exact ⟨by dsimp only [zs1], fun o q => zhm_ng q⟩
  case iload n => cases hw; exact ⟨by dsimp only [zs1], fun o q => zhm_ng (h := (lay, zmm l)) q⟩
  case iload_n n => cases hw; exact ⟨by dsimp only [zs1], fun o q => zhm_ng (h := (lay, zmm l)) q⟩
  case aload n => cases hw; exact ⟨by dsimp only [zs1], fun o q => zhm_ng (h := (lay, zmm l)) q⟩
  case aload_n n => cases hw; exact ⟨by dsimp only [zs1], fun o q => zhm_ng (h := (lay, zmm l)) q⟩
  case istore n =>
    cases hw
    refine ⟨by dsimp only [zs1], fun o q => ?_⟩
    dsimp only [zs1, z_sti] at q
    split at q
    · exact zhm_ng (h := (lay, zmm l)) q
    · exact zhm_no q
  case istore_n n =>
    cases hw
    refine ⟨by dsimp only [zs1], fun o q => ?_⟩
    dsimp only [zs1, z_sti] at q
    split at q
    · exact zhm_ng (h := (lay, zmm l)) q
    · exact zhm_no q
  case astore n =>
    cases hw
    refine ⟨by dsimp only [zs1], fun o q => ?_⟩
    dsimp only [zs1, z_sta] at q
    split at q
    · exact zhm_ng (h := (lay, zmm l)) q
    · exact zhm_no q
  case astore_n n =>
    cases hw
    refine ⟨by dsimp only [zs1], fun o q => ?_⟩
    dsimp only [zs1, z_sta] at q
    split at q
    · exact zhm_ng (h := (lay, zmm l)) q
    · exact zhm_no q
  case iinc n c => cases hw; exact ⟨by dsimp only [zs1], fun o q => zhm_ng (h := (lay, zmm l)) q⟩
  case dup =>
    cases hw
    refine ⟨by dsimp only [zs1], fun o q => ?_⟩
    dsimp only [zs1] at q
    split at q
    · exact zhm_ng (h := (lay, zmm l)) q
    · exact zhm_no q
  case iadd =>
    cases hw
    refine ⟨by dsimp only [zs1], fun o q => ?_⟩
    dsimp only [zs1, z_b2] at q
    split at q
    · exact zhm_ng (h := (lay, zmm l)) q
    · exact zhm_no q
  case imul =>
    cases hw
    refine ⟨by dsimp only [zs1], fun o q => ?_⟩
    dsimp only [zs1, z_b2] at q
    split at q
    · exact zhm_ng (h := (lay, zmm l)) q
    · exact zhm_no q
  case if_icmp c n =>
    cases hw
    refine ⟨by dsimp only [zs1], fun o q => ?_⟩
    dsimp only [zs1] at q
    split at q
    · have h1 := ((Prod.mk.injEq _ _ _ _).mp q).2
      subst h1
      rfl
    · exact zhm_no q
  case goto n =>
    cases hw
    refine ⟨by dsimp only [zs1], fun o q => ?_⟩
    have h1 := ((Prod.mk.injEq _ _ _ _).mp q).2
    subst h1
    rfl
  case getfield n =>
    cases hw
    refine ⟨by dsimp only [zs1], fun o q => ?_⟩
    dsimp only [zs1, z_gf] at q
    split at q
    · split at q
      · exact zhm_ng (h := (lay, zmm l)) q
      · exact zhm_ng (h := (lay, zmm l)) q
      · exact zhm_ng (h := (lay, zmm l)) q
    · exact zhm_no q
  case return_ =>
    cases hw
    refine ⟨by dsimp only [zs1], fun o q => ?_⟩
    dsimp only [zs1] at q
    split at q
    · have h1 := ((Prod.mk.injEq _ _ _ _).mp q).2
      subst h1
      rfl
    · exact zhm_no q
  case aastore =>
    cases hw
    refine ⟨by dsimp only [zs1], fun o q => ?_⟩
    dsimp only [zs1, z_aas] at q
    split at q
    · exact zhm_ng q
    · exact zhm_no q
  case arraylength =>
    have ey : ∀ (X : Nat → Int) (XL : Nat) (a : Int) (t : List zv), zs1 own ini X XL .arraylength pc r ls ((2, a) :: t) (lay, zmm l) = zng ((2 : Nat) == 2 && (decide (0 ≤ a) && (decide (12 ≤ (zat (lay, zmm l) a).1) && decide ((zat (lay, zmm l) a).1 < 19)))) ls ((0, ((zat (lay, zmm l) a).2.1 : Int)) :: t) (lay, zmm l) := fun _ _ _ _ => rfl
    dsimp only [zw0] at hw
    split at hw
    · cases hw
      exact ⟨(ey X XL _ _).trans (ey _ _ _ _).symm, fun o q => zhm_ng ((ey _ _ _ _).symm.trans q)⟩
    · cases hw
  case new n =>
    cases hw
    refine ⟨by dsimp only [zs1], fun o q => ?_⟩
    rw [← zmm_clr]
    exact zhm_ng q
  case newarray t =>
    cases t
    case int => exact ⟨by dsimp only [zs1], na 12 (Option.some.inj hw).symm⟩
    case long => exact ⟨by dsimp only [zs1], na 13 (Option.some.inj hw).symm⟩
    case byte => exact ⟨by dsimp only [zs1], na 14 (Option.some.inj hw).symm⟩
    case boolean => exact ⟨by dsimp only [zs1], na 15 (Option.some.inj hw).symm⟩
    all_goals exact absurd hw (by simp [zw0])
  case anewarray t => exact ⟨by dsimp only [zs1], na _ (Option.some.inj hw).symm⟩
  case putfield n =>
    refine ⟨by dsimp only [zs1], fun o q => ?_⟩
    exact pf hw o q
  case iastore =>
    refine ⟨by dsimp only [zs1], fun o q => ?_⟩
    dsimp only [zs1, z_as] at q
    dsimp only [zw0] at hw
    split at hw
    · cases hw
      exact zhm_ng q
    · cases hw
  case invokespecial n =>
    refine ⟨by dsimp only [zs1], fun o q => ?_⟩
    dsimp only [zw0] at hw
    split at hw
    · rename_i h1; cases hw; exact cl (Or.inl h1) o q
    · rename_i h1; cases hw; exact cl (Or.inr h1) o q
    · cases hw
  case invokestatic n =>
    refine ⟨by dsimp only [zs1], fun o q => ?_⟩
    dsimp only [zw0] at hw
    split at hw
    · rename_i h1
      cases hw
      dsimp only [zs1, z_is] at q
      rw [h1] at q
      exact cl (Or.inl h1) o q
    · cases hw
  all_goals exact absurd hw (by simp [zw0])
abbrev zh0 : Type := List zl × zW
abbrev zR0 : Type := Option (Int × zh0)
def zd0 (c0 : Nat → List zv → zh0 → zR0) (o : Bool × zo) (wl : zW) (kn : List zv → List zv → zh0 → zR0) (kj : Nat → List zv → List zv → zh0 → zR0) : zR0 :=
  bif o.1 then (match o.2 with
    | .inl (v, h) => some (v, (h.1, wl))
    | .inr (.inl (b, t, ls, st, h)) => bif b then kj t ls st (h.1, wl) else kn ls st (h.1, wl)
    | .inr (.inr (.inl (rk, mi, as, ls, st, h))) => (match c0 mi as (h.1, wl) with
      | none => none
      | some (v, h2) => kn ls (zps rk v st) h2)
    | .inr (.inr (.inr _)) => none) else none
def zb0 (w : Option zW) (k : zW → zR0) : zR0 := match w with
  | none => none
  | some wl => k wl
def zg0 (c0 : Nat → List zv → zh0 → zR0) (own : Nat) (ini : Bool) (K : zc) : Nat → zc → List zv → List zv → zh0 → zR0
  | 0, _, _, _, _ => none
  | _ + 1, [], _, _, _ => none
  | n + 1, e :: cs, ls, st, h => zb0 (zw0 e.2.2.1 e.2.2.2.2 st h.1.length h.2) fun wl => zd0 c0 (zs1 own ini (fun _ => 0) 0 e.2.2.1 e.1 e.2.2.2.2 (zkill e.2.1 ls) st (h.1, zmm h.2)) wl (fun ls st h => zg0 c0 own ini K n cs ls st h) (fun t ls st h => zg0 c0 own ini K n (zfind K t) ls st h)
def Zq (f : zh0 → zR0) (g : zh → zR) : Prop := ∀ h v h2, f h = some (v, h2) → g (h.1, zmm h.2) = some (v, (h2.1, zmm h2.2))
theorem zd0_ok {c0 : Nat → List zv → zh0 → zR0} {c : Nat → List zv → zh → zR} {o : Bool × zo} {wl : zW} {kn : List zv → List zv → zh0 → zR0} {kj : Nat → List zv → List zv → zh0 → zR0} {kn' : List zv → List zv → zh → zR} {kj' : Nat → List zv → List zv → zh → zR} (hc : ∀ mi as, Zq (c0 mi as) (c mi as)) (hn : ∀ ls st, Zq (kn ls st) (kn' ls st)) (hj : ∀ t ls st, Zq (kj t ls st) (kj' t ls st)) (ho : ∀ o2, o = (true, o2) → zhm o2 = zmm wl) {v : Int} {h2 : zh0} (q : zd0 c0 o wl kn kj = some (v, h2)) : zdr c o kn' kj' = some (v, (h2.1, zmm h2.2)) := by
  obtain ⟨g, o⟩ := o
  unfold zd0 at q
  unfold zdr
  cases g with
  | false => cases q
  | true =>
    have h4 := ho o rfl
    rcases o with ⟨v1, h1⟩ | ⟨b, t, ls, st, h1⟩ | ⟨rk, mi, as, ls, st, h1⟩ | ⟨x, l, d, ls, st, h1⟩
    · cases q
      show some (v, h1) = some (v, (h1.1, zmm wl))
      rw [← show h1.2 = zmm wl from h4]
    · have h5 : h1 = (h1.1, zmm wl) := by rw [← show h1.2 = zmm wl from h4]
      cases b with
      | true =>
        have q2 := hj _ _ _ _ _ _ q
        rw [← h5] at q2
        exact q2
      | false =>
        have q2 := hn _ _ _ _ _ q
        rw [← h5] at q2
        exact q2
    · have h5 : h1 = (h1.1, zmm wl) := by rw [← show h1.2 = zmm wl from h4]
      simp only [cond_true] at q ⊢
      cases hq : c0 mi as (h1.1, wl) with
      | none => rw [hq] at q; cases q
      | some q3 =>
        rw [hq] at q
        have h6 := hc _ _ _ _ _ hq
        rw [← h5] at h6
        rw [h6]
        exact hn _ _ _ _ _ q
    · cases q
theorem zg0_ok {c0 : Nat → List zv → zh0 → zR0} {c : Nat → List zv → zh → zR} {own : Nat} {ini : Bool} {K : zc} {X : Nat → Int} {XL : Nat} (hc : ∀ mi as, Zq (c0 mi as) (c mi as)) : ∀ (n : Nat) (cs : zc) (ls st : List zv), Zq (zg0 c0 own ini K n cs ls st) (zgo own ini X XL c K n cs ls st)
  | 0, _, _, _, _, _, _, q => by simp [zg0] at q
  | n + 1, [], _, _, _, _, _, q => by simp [zg0] at q
  | n + 1, e :: cs, ls, st, h, v, h2, q => by
    unfold zg0 at q
    unfold zgo
    cases hw : zw0 e.2.2.1 e.2.2.2.2 st h.1.length h.2 with
    | none => rw [hw] at q; cases q
    | some wl =>
      rw [hw] at q
      obtain ⟨e1, e2⟩ := zw0_ok (own := own) (ini := ini) (pc := e.1) (ls := zkill e.2.1 ls) hw X XL
      rw [e1]
      exact zd0_ok hc (fun ls st => zg0_ok hc n cs ls st) (fun t ls st => zg0_ok hc n _ ls st) e2 q
def zc0 (P : Nat → zM) (F : Nat) : Nat → Nat → List zv → zh0 → zR0
  | 0, _, _, _ => none
  | d + 1, mi, as, h => bif decide ((zent as).length ≤ (P mi).2.2.1) then zg0 (fun mi as h => zc0 P F d mi as h) (P mi).1 (P mi).2.1 (P mi).2.2.2 F (P mi).2.2.2 (zentry (P mi).2.2.1 as) [] h else none
theorem zc0_ok {P : Nat → zM} {F : Nat} {X : Nat → Int} {XL : Nat} : ∀ (d mi : Nat) (as : List zv), Zq (zc0 P F d mi as) (zcall P X XL F d mi as)
  | 0, _, _, _, _, _, q => by simp [zc0] at q
  | d + 1, mi, as, h, v, h2, q => by
    unfold zc0 at q
    unfold zcall
    cases hb : decide ((zent as).length ≤ (P mi).2.2.1) with
    | false => rw [hb] at q; cases q
    | true =>
      rw [hb] at q
      exact zg0_ok (fun mi as => zc0_ok d mi as) _ _ _ _ _ _ _ q
theorem zc0_C {P : Nat → zM} {F : Nat} {X : Nat → Int} {XL d mi : Nat} {as : List zv} {h h2 : zh0} {v : Int} (q : zc0 P F d mi as h = some (v, h2)) : zC P X XL d mi as (h.1, zmm h.2) = some (v, (h2.1, zmm h2.2)) := zC_some.mpr ⟨F, zc0_ok _ _ _ _ _ _ q⟩
