/-! memory only grows -/
def zle2 (h h' : zh) : Prop := h.1.length ≤ h'.1.length ∧ zsz h ≤ zsz h'
theorem zle2_r {h : zh} : zle2 h h := ⟨Nat.le_refl _, Nat.le_refl _⟩
theorem zle2_t {a b c : zh} (h1 : zle2 a b) (h2 : zle2 b c) : zle2 a c := ⟨Nat.le_trans h1.1 h2.1, Nat.le_trans h1.2 h2.2⟩
def zgrow (h : zh) (o : zo) : Prop := match o with
  | .inl (_, h') => h' = h
  | .inr (.inl (_, _, _, _, h')) => zle2 h h'
  | .inr (.inr (.inl (_, _, _, _, _, h'))) => h' = h
  | .inr (.inr (.inr (_, _, _, _, _, h'))) => h' = h
theorem zg_no {h : zh} {o : zo} (hz : zno = (true, o)) : zgrow h o := by simp [zno] at hz
theorem zg_ng {g : Bool} {ls st : List zv} {h h' : zh} {o : zo} (hz : zng g ls st h' = (true, o)) (hg : zle2 h h') : zgrow h o := by
  have h1 := ((Prod.mk.injEq _ _ _ _).mp hz).2
  subst h1
  exact hg
theorem zg_set {h : zh} {k n : Nat} {l : zl} {f : Nat → Nat → Int} (hl : l.2.1 = (zgd h k).2.1) : zle2 h (h.1.set k l, f) := by
  rcases Nat.lt_or_ge k h.1.length with hk | hk
  · exact ⟨by simp, Nat.le_of_eq (zsz_set hk hl).symm⟩
  · have : h.1.set k l = h.1 := List.set_eq_of_length_le hk
    rw [this]
    exact ⟨Nat.le_refl _, Nat.le_refl _⟩
theorem zg_app {h : zh} {l : zl} {f : Nat → Nat → Int} : zle2 h (h.1 ++ [l], f) := ⟨by simp, by rw [zsz_app]; omega⟩
theorem zg_mem {h : zh} {f : Nat → Nat → Int} : zle2 h (h.1, f) := ⟨Nat.le_refl _, Nat.le_refl _⟩
theorem zs1_grow {own : Nat} {ini : Bool} {X : Nat → Int} {XL : Nat} {i : Instr} {pc : Nat} {r : zr} {ls st : List zv} {h : zh} {o : zo} (hz : zs1 own ini X XL i pc r ls st h = (true, o)) : zgrow h o := by
  have jmp : ∀ {g : Bool} {b : Bool} {t : Nat} {ls st : List zv}, (g, (.inr (.inl (b, t, ls, st, h)) : zo)) = (true, o) → zgrow h o := by
    intro g b t ls st q
    have h1 := ((Prod.mk.injEq _ _ _ _).mp q).2
    subst h1
    exact zle2_r
  have swt : ∀ {g : Bool} {x : Int} {l : List (Int × Nat)} {t : Nat} {ls st : List zv}, (g, (.inr (.inr (.inr (x, l, t, ls, st, h))) : zo)) = (true, o) → zgrow h o := by
    intro g x l t ls st q
    have h1 := ((Prod.mk.injEq _ _ _ _).mp q).2
    subst h1
    exact rfl
  have rtn : ∀ {g : Bool} {x : Int}, (g, (.inl (x, h) : zo)) = (true, o) → zgrow h o := by
    intro g x q
    have h1 := ((Prod.mk.injEq _ _ _ _).mp q).2
    subst h1
    exact rfl
  have cl : z_cl r ls st h = (true, o) → zgrow h o := by
    intro q
    unfold z_cl at q
    split at q
    · split at q
      · exact zg_ng q zle2_r
      · exact zg_no q
    · split at q
      · exact zg_ng q zg_mem
      · exact zg_no q
    · split at q
      · exact zg_ng q zle2_r
      · exact zg_no q
    · have h1 := ((Prod.mk.injEq _ _ _ _).mp q).2
      subst h1
      exact rfl
  have mt : z_mt r ls st h = (true, o) → zgrow h o := by
    intro q
    unfold z_mt at q
    split at q
    · split at q
      · exact zg_ng q zle2_r
      · exact zg_no q
    · split at q
      · exact zg_ng q zle2_r
      · exact zg_no q
    · split at q
      · exact zg_ng q zle2_r
      · exact zg_no q
    · split at q
      · exact zg_ng q zle2_r
      · exact zg_no q
    · exact zg_no q
  have b2 : ∀ {f : Int → Int → Int}, z_b2 f ls st h = (true, o) → zgrow h o := by
    intro f q; unfold z_b2 at q; split at q
    · exact zg_ng q zle2_r
    · exact zg_no q
  have b2g : ∀ {f : Int → Int → Int}, z_b2g f ls st h = (true, o) → zgrow h o := by
    intro f q; unfold z_b2g at q; split at q
    · exact zg_ng q zle2_r
    · exact zg_no q
  have l2 : ∀ {f : Int → Int → Int}, z_l2 f ls st h = (true, o) → zgrow h o := by
    intro f q; unfold z_l2 at q; split at q
    · exact zg_ng q zle2_r
    · exact zg_no q
  have ld : ∀ {t n : Nat}, z_ld t n ls st h = (true, o) → zgrow h o := fun q => zg_ng (h := h) (by unfold z_ld at q; exact q) zle2_r
  have lda : ∀ {n : Nat}, z_lda n ls st h = (true, o) → zgrow h o := fun q => zg_ng (h := h) (by unfold z_lda at q; exact q) zle2_r
  have sti : ∀ {n : Nat}, z_sti n ls st h = (true, o) → zgrow h o := by
    intro n q; unfold z_sti at q; split at q
    · exact zg_ng q zle2_r
    · exact zg_no q
  have stl : ∀ {n : Nat}, z_stl n ls st h = (true, o) → zgrow h o := by
    intro n q; unfold z_stl at q; split at q
    · exact zg_ng q zle2_r
    · exact zg_no q
  have sta : ∀ {n : Nat}, z_sta n ls st h = (true, o) → zgrow h o := by
    intro n q; unfold z_sta at q; split at q
    · exact zg_ng q zle2_r
    · exact zg_no q
  have na : ∀ {k : Nat}, z_na k ls st h = (true, o) → zgrow h o := by
    intro k q; unfold z_na at q; split at q
    · exact zg_ng q zg_app
    · exact zg_no q
  cases i
  case iload n => exact ld hz
  case iload_n n => exact ld hz
  case lload n => exact ld hz
  case lload_n n => exact ld hz
  case aload n => exact lda hz
  case aload_n n => exact lda hz
  case istore n => exact sti hz
  case istore_n n => exact sti hz
  case lstore n => exact stl hz
  case lstore_n n => exact stl hz
  case astore n => exact sta hz
  case astore_n n => exact sta hz
  case iconst n => exact zg_ng hz zle2_r
  case bipush n => exact zg_ng hz zle2_r
  case sipush n => exact zg_ng hz zle2_r
  case lconst n => exact zg_ng hz zle2_r
  case ldc n =>
    dsimp only [zs1] at hz; split at hz
    · exact zg_ng hz zle2_r
    · exact zg_ng hz zle2_r
    · exact zg_no hz
  case ldc_w n =>
    dsimp only [zs1] at hz; split at hz
    · exact zg_ng hz zle2_r
    · exact zg_ng hz zle2_r
    · exact zg_no hz
  case ldc2_w n =>
    dsimp only [zs1] at hz; split at hz
    · exact zg_ng hz zle2_r
    · exact zg_no hz
  case iinc n c => exact zg_ng (h := h) hz zle2_r
  case dup =>
    dsimp only [zs1] at hz; split at hz
    · exact zg_ng hz zle2_r
    · exact zg_no hz
  case dup2 =>
    dsimp only [zs1] at hz; split at hz
    · exact zg_ng hz zle2_r
    · exact zg_no hz
  case pop =>
    dsimp only [zs1] at hz; split at hz
    · exact zg_ng hz zle2_r
    · exact zg_no hz
  case iadd => exact b2 hz
  case isub => exact b2 hz
  case imul => exact b2 hz
  case idiv => exact b2g hz
  case irem => exact b2g hz
  case iand => exact b2 hz
  case ior => exact b2 hz
  case ixor => exact b2 hz
  case ishl => exact b2 hz
  case ishr => exact b2 hz
  case iushr => exact b2 hz
  case ineg =>
    dsimp only [zs1] at hz; split at hz
    · exact zg_ng hz zle2_r
    · exact zg_no hz
  case i2b =>
    dsimp only [zs1] at hz; split at hz
    · exact zg_ng hz zle2_r
    · exact zg_no hz
  case i2l =>
    dsimp only [zs1] at hz; split at hz
    · exact zg_ng hz zle2_r
    · exact zg_no hz
  case ladd => exact l2 hz
  case lsub => exact l2 hz
  case lmul => exact l2 hz
  case land => exact l2 hz
  case lor => exact l2 hz
  case lshl =>
    dsimp only [zs1] at hz; split at hz
    · exact zg_ng hz zle2_r
    · exact zg_no hz
  case lcmp =>
    dsimp only [zs1] at hz; split at hz
    · exact zg_ng hz zle2_r
    · exact zg_no hz
  case ifCond c off =>
    dsimp only [zs1] at hz; split at hz
    · exact jmp hz
    · exact zg_no hz
  case if_icmp c off =>
    dsimp only [zs1] at hz; split at hz
    · exact jmp hz
    · exact zg_no hz
  case goto off => exact jmp hz
  case tableswitch d lo hi offs =>
    dsimp only [zs1] at hz; split at hz
    · exact swt hz
    · exact zg_no hz
  case lookupswitch d ps =>
    dsimp only [zs1] at hz; split at hz
    · exact swt hz
    · exact zg_no hz
  case getfield n =>
    have hz : z_gf r ls st h = (true, o) := hz
    unfold z_gf at hz; split at hz
    · split at hz
      · exact zg_ng hz zle2_r
      · exact zg_ng hz zle2_r
      · exact zg_ng hz zle2_r
    · exact zg_no hz
  case putfield n =>
    have hz : z_pf own ini r ls st h = (true, o) := hz
    unfold z_pf at hz; split at hz
    · split at hz
      · exact zg_ng hz (zg_set (n := 0) rfl)
      · exact zg_ng hz zg_mem
      · exact zg_ng hz zg_mem
      · exact zg_ng hz zg_mem
    · exact zg_no hz
  case iaload =>
    have hz : z_al X XL ls st h = (true, o) := hz
    unfold z_al at hz; split at hz
    · split at hz
      · exact zg_ng hz zle2_r
      · exact zg_ng hz zle2_r
    · exact zg_no hz
  case laload =>
    have hz : z_all 13 1 ls st h = (true, o) := hz
    unfold z_all at hz; split at hz
    · exact zg_ng hz zle2_r
    · exact zg_no hz
  case baload =>
    have hz : z_bal r ls st h = (true, o) := hz
    unfold z_bal at hz; split at hz
    · unfold z_all at hz; split at hz
      · exact zg_ng hz zle2_r
      · exact zg_no hz
    · unfold z_all at hz; split at hz
      · exact zg_ng hz zle2_r
      · exact zg_no hz
    · exact zg_no hz
  case aaload =>
    have hz : z_aal ls st h = (true, o) := hz
    unfold z_aal at hz; split at hz
    · exact zg_ng hz zle2_r
    · exact zg_no hz
  case iastore =>
    have hz : z_as 12 0 (fun v => v) ls st h = (true, o) := hz
    unfold z_as at hz; split at hz
    · exact zg_ng hz zg_mem
    · exact zg_no hz
  case lastore =>
    have hz : z_as 13 1 (fun v => v) ls st h = (true, o) := hz
    unfold z_as at hz; split at hz
    · exact zg_ng hz zg_mem
    · exact zg_no hz
  case bastore =>
    have hz : z_bas r ls st h = (true, o) := hz
    unfold z_bas at hz; split at hz
    · unfold z_as at hz; split at hz
      · exact zg_ng hz zg_mem
      · exact zg_no hz
    · unfold z_as at hz; split at hz
      · exact zg_ng hz zg_mem
      · exact zg_no hz
    · exact zg_no hz
  case aastore =>
    have hz : z_aas ls st h = (true, o) := hz
    unfold z_aas at hz; split at hz
    · exact zg_ng hz (zg_set (n := 0) rfl)
    · exact zg_no hz
  case arraylength =>
    have hz : z_len XL ls st h = (true, o) := hz
    unfold z_len at hz; split at hz
    · split at hz
      · exact zg_ng hz zle2_r
      · exact zg_ng hz zle2_r
    · exact zg_no hz
  case newarray a =>
    cases a <;> first | exact na hz | exact zg_no hz
  case anewarray n => exact na hz
  case new n => exact zg_ng (h := h) hz zg_app
  case invokestatic n =>
    have hz : z_is r ls st h = (true, o) := hz
    unfold z_is at hz
    cases hb : decide (14 ≤ r.1) with
    | true => rw [hb] at hz; exact mt hz
    | false => rw [hb] at hz; exact cl hz
  case invokevirtual n => exact cl hz
  case invokespecial n => exact cl hz
  case ireturn =>
    dsimp only [zs1] at hz; split at hz
    · exact rtn hz
    · exact zg_no hz
  case lreturn =>
    dsimp only [zs1] at hz; split at hz
    · exact rtn hz
    · exact zg_no hz
  case return_ =>
    dsimp only [zs1] at hz; split at hz
    · exact rtn hz
    · exact zg_no hz
  all_goals exact zg_no hz
theorem zdr_grow {c : Nat → List zv → zh → zR} {o : Bool × zo} {kn : List zv → List zv → zh → zR} {kj : Nat → List zv → List zv → zh → zR} {h : zh} {r : Int × zh} (hg : ∀ o', o = (true, o') → zgrow h o') (hc : ∀ mi as h r, c mi as h = some r → zle2 h r.2) (hn : ∀ ls st h r, kn ls st h = some r → zle2 h r.2) (hj : ∀ t ls st h r, kj t ls st h = some r → zle2 h r.2) (hr : zdr c o kn kj = some r) : zle2 h r.2 := by
  obtain ⟨g, o⟩ := o
  unfold zdr at hr
  cases g with
  | false => cases hr
  | true =>
    have hg := hg o rfl
    rcases o with ⟨v, h0⟩ | ⟨b, t, ls, st, h0⟩ | ⟨rk, mi, as, ls, st, h0⟩ | ⟨x, l, d, ls, st, h0⟩
    · have hg : h0 = h := hg
      subst hg
      have hr : some (v, h0) = some r := hr
      cases hr
      exact zle2_r
    · cases b with
      | true => exact zle2_t hg (hj _ _ _ _ _ hr)
      | false => exact zle2_t hg (hn _ _ _ _ hr)
    · have hg : h0 = h := hg
      subst hg
      simp only [cond_true] at hr
      cases hq : c mi as h0 with
      | none => rw [hq] at hr; cases hr
      | some q =>
        rw [hq] at hr
        exact zle2_t (hc _ _ _ _ hq) (hn _ _ _ _ hr)
    · have hg : h0 = h := hg
      subst hg
      have hr : zswk x (fun t => kj t ls st h0) l d = some r := hr
      rw [zswk_i] at hr
      exact hj _ _ _ _ _ hr
theorem zgo_grow {own : Nat} {ini : Bool} {X : Nat → Int} {XL : Nat} {c : Nat → List zv → zh → zR} {K : zc} (hc : ∀ mi as h r, c mi as h = some r → zle2 h r.2) : ∀ (n : Nat) (cs : zc) (ls st : List zv) (h : zh) (r : Int × zh), zgo own ini X XL c K n cs ls st h = some r → zle2 h r.2
  | 0, _, _, _, _, _, h => by simp [zgo] at h
  | n + 1, [], ls, st, h, r, hh => by simp [zgo] at hh
  | n + 1, e :: cs, ls, st, h, r, hh => by
    unfold zgo at hh
    exact zdr_grow (fun o' q => zs1_grow q) hc (fun ls st h r q => zgo_grow hc n _ _ _ _ _ q) (fun t ls st h r q => zgo_grow hc n _ _ _ _ _ q) hh
theorem zcall_grow {P : Nat → zM} {X : Nat → Int} {XL F : Nat} : ∀ (d mi : Nat) (as : List zv) (h : zh) (r : Int × zh), zcall P X XL F d mi as h = some r → zle2 h r.2
  | 0, _, _, _, _, h => by simp [zcall] at h
  | d + 1, mi, as, h, r, hh => by
    unfold zcall at hh
    cases hb : decide ((zent as).length ≤ (P mi).2.2.1) with
    | false => rw [hb] at hh; cases hh
    | true =>
    rw [hb] at hh
    exact zgo_grow (fun mi as h r q => zcall_grow d mi as h r q) _ _ _ _ _ _ hh
