/-! the locals keep their number -/
theorem zset_len (ls : List zv) (n : Nat) (v : zv) : (zset ls n v).length = ls.length := by
  unfold zset
  split
  · simp
  · split <;> simp
theorem zset2_len (ls : List zv) (n : Nat) (v : zv) : (zset2 ls n v).length = ls.length := by
  unfold zset2
  simp [zset_len]
theorem zkill_len : ∀ (kl : List Nat) (ls : List zv), (zkill kl ls).length = ls.length
  | [], _ => rfl
  | k :: kl, ls => by unfold zkill; rw [zkill_len kl]; simp
def zsame (ls : List zv) (o : zo) : Prop := match o with
  | .inl _ => True
  | .inr (.inl (_, _, ls', _, _)) => ls'.length = ls.length
  | .inr (.inr (.inl (_, _, _, ls', _, _))) => ls'.length = ls.length
  | .inr (.inr (.inr (_, _, _, ls', _, _))) => ls'.length = ls.length
theorem zn_no {ls : List zv} {o : zo} (hz : zno = (true, o)) : zsame ls o := by simp [zno] at hz
theorem zn_ng {g : Bool} {ls ls' st : List zv} {h' : zh} {o : zo} (hz : zng g ls' st h' = (true, o)) (hg : ls'.length = ls.length) : zsame ls o := by
  have h1 := ((Prod.mk.injEq _ _ _ _).mp hz).2
  subst h1
  exact hg
theorem zs1_len {own : Nat} {ini : Bool} {X : Nat → Int} {XL : Nat} {i : Instr} {pc : Nat} {r : zr} {ls st : List zv} {h : zh} {o : zo} (hz : zs1 own ini X XL i pc r ls st h = (true, o)) : zsame ls o := by
  have jmp : ∀ {g : Bool} {b : Bool} {t : Nat} {st : List zv}, (g, (.inr (.inl (b, t, ls, st, h)) : zo)) = (true, o) → zsame ls o := by
    intro g b t st q
    have h1 := ((Prod.mk.injEq _ _ _ _).mp q).2
    subst h1
    exact rfl
  have swt : ∀ {g : Bool} {x : Int} {l : List (Int × Nat)} {t : Nat} {st : List zv}, (g, (.inr (.inr (.inr (x, l, t, ls, st, h))) : zo)) = (true, o) → zsame ls o := by
    intro g x l t st q
    have h1 := ((Prod.mk.injEq _ _ _ _).mp q).2
    subst h1
    exact rfl
  have rtn : ∀ {g : Bool} {x : Int}, (g, (.inl (x, h) : zo)) = (true, o) → zsame ls o := by
    intro g x q
    have h1 := ((Prod.mk.injEq _ _ _ _).mp q).2
    subst h1
    exact trivial
  have cl : z_cl r ls st h = (true, o) → zsame ls o := by
    intro q
    unfold z_cl at q
    split at q
    · split at q
      · exact zn_ng q rfl
      · exact zn_no q
    · split at q
      · exact zn_ng q rfl
      · exact zn_no q
    · split at q
      · exact zn_ng q rfl
      · exact zn_no q
    · have h1 := ((Prod.mk.injEq _ _ _ _).mp q).2
      subst h1
      exact rfl
  have mt : z_mt r ls st h = (true, o) → zsame ls o := by
    intro q
    unfold z_mt at q
    split at q
    · split at q
      · exact zn_ng q rfl
      · exact zn_no q
    · split at q
      · exact zn_ng q rfl
      · exact zn_no q
    · split at q
      · exact zn_ng q rfl
      · exact zn_no q
    · split at q
      · exact zn_ng q rfl
      · exact zn_no q
    · exact zn_no q
  have b2 : ∀ {f : Int → Int → Int}, z_b2 f ls st h = (true, o) → zsame ls o := by
    intro f q; unfold z_b2 at q; split at q
    · exact zn_ng q rfl
    · exact zn_no q
  have b2g : ∀ {f : Int → Int → Int}, z_b2g f ls st h = (true, o) → zsame ls o := by
    intro f q; unfold z_b2g at q; split at q
    · exact zn_ng q rfl
    · exact zn_no q
  have l2 : ∀ {f : Int → Int → Int}, z_l2 f ls st h = (true, o) → zsame ls o := by
    intro f q; unfold z_l2 at q; split at q
    · exact zn_ng q rfl
    · exact zn_no q
  have ld : ∀ {t n : Nat}, z_ld t n ls st h = (true, o) → zsame ls o := fun q => zn_ng (by unfold z_ld at q; exact q) rfl
  have lda : ∀ {n : Nat}, z_lda n ls st h = (true, o) → zsame ls o := fun q => zn_ng (by unfold z_lda at q; exact q) rfl
  have sti : ∀ {n : Nat}, z_sti n ls st h = (true, o) → zsame ls o := by
    intro n q; unfold z_sti at q; split at q
    · exact zn_ng q (zset_len _ _ _)
    · exact zn_no q
  have stl : ∀ {n : Nat}, z_stl n ls st h = (true, o) → zsame ls o := by
    intro n q; unfold z_stl at q; split at q
    · exact zn_ng q (zset2_len _ _ _)
    · exact zn_no q
  have sta : ∀ {n : Nat}, z_sta n ls st h = (true, o) → zsame ls o := by
    intro n q; unfold z_sta at q; split at q
    · exact zn_ng q (zset_len _ _ _)
    · exact zn_no q
  have na : ∀ {k : Nat}, z_na k ls st h = (true, o) → zsame ls o := by
    intro k q; unfold z_na at q; split at q
    · exact zn_ng q rfl
    · exact zn_no q
  cases i
  case iload n => exact ld hz
  case iload_n n => exact ld hz
  case lload n => exact ld hz
  case lload_n n => exact ld hz
  case aload n => exact lda hz
  case aload_n n => exact lda hz
  case istore n => exact sti hz
  case istore_n n => exact sti hz
  case lstore n => exact stl hz
  case lstore_n n => exact stl hz
  case astore n => exact sta hz
  case astore_n n => exact sta hz
  case iconst n => exact zn_ng hz rfl
  case bipush n => exact zn_ng hz rfl
  case sipush n => exact zn_ng hz rfl
  case lconst n => exact zn_ng hz rfl
  case ldc n =>
    dsimp only [zs1] at hz; split at hz
    · exact zn_ng hz rfl
    · exact zn_ng hz rfl
    · exact zn_no hz
  case ldc_w n =>
    dsimp only [zs1] at hz; split at hz
    · exact zn_ng hz rfl
    · exact zn_ng hz rfl
    · exact zn_no hz
  case ldc2_w n =>
    dsimp only [zs1] at hz; split at hz
    · exact zn_ng hz rfl
    · exact zn_no hz
  case iinc n c => exact zn_ng hz (zset_len _ _ _)
  case dup =>
    dsimp only [zs1] at hz; split at hz
    · exact zn_ng hz rfl
    · exact zn_no hz
  case dup2 =>
    dsimp only [zs1] at hz; split at hz
    · exact zn_ng hz rfl
    · exact zn_no hz
  case pop =>
    dsimp only [zs1] at hz; split at hz
    · exact zn_ng hz rfl
    · exact zn_no hz
  case iadd => exact b2 hz
  case isub => exact b2 hz
  case imul => exact b2 hz
  case idiv => exact b2g hz
  case irem => exact b2g hz
  case iand => exact b2 hz
  case ior => exact b2 hz
  case ixor => exact b2 hz
  case ishl => exact b2 hz
  case ishr => exact b2 hz
  case iushr => exact b2 hz
  case ineg =>
    dsimp only [zs1] at hz; split at hz
    · exact zn_ng hz rfl
    · exact zn_no hz
  case i2b =>
    dsimp only [zs1] at hz; split at hz
    · exact zn_ng hz rfl
    · exact zn_no hz
  case i2l =>
    dsimp only [zs1] at hz; split at hz
    · exact zn_ng hz rfl
    · exact zn_no hz
  case ladd => exact l2 hz
  case lsub => exact l2 hz
  case lmul => exact l2 hz
  case land => exact l2 hz
  case lor => exact l2 hz
  case lshl =>
    dsimp only [zs1] at hz; split at hz
    · exact zn_ng hz rfl
    · exact zn_no hz
  case lcmp =>
    dsimp only [zs1] at hz; split at hz
    · exact zn_ng hz rfl
    · exact zn_no hz
  case ifCond c off =>
    dsimp only [zs1] at hz; split at hz
    · exact jmp hz
    · exact zn_no hz
  case if_icmp c off =>
    dsimp only [zs1] at hz; split at hz
    · exact jmp hz
    · exact zn_no hz
  case goto off => exact jmp hz
  case tableswitch d lo hi offs =>
    dsimp only [zs1] at hz; split at hz
    · exact swt hz
    · exact zn_no hz
  case lookupswitch d ps =>
    dsimp only [zs1] at hz; split at hz
    · exact swt hz
    · exact zn_no hz
  case getfield n =>
    have hz : z_gf r ls st h = (true, o) := hz
    unfold z_gf at hz; split at hz
    · split at hz
      · exact zn_ng hz rfl
      · exact zn_ng hz rfl
      · exact zn_ng hz rfl
    · exact zn_no hz
  case putfield n =>
    have hz : z_pf own ini r ls st h = (true, o) := hz
    unfold z_pf at hz; split at hz
    · split at hz
      · exact zn_ng hz rfl
      · exact zn_ng hz rfl
      · exact zn_ng hz rfl
      · exact zn_ng hz rfl
    · exact zn_no hz
  case iaload =>
    have hz : z_al X XL ls st h = (true, o) := hz
    unfold z_al at hz; split at hz
    · split at hz
      · exact zn_ng hz rfl
      · exact zn_ng hz rfl
    · exact zn_no hz
  case laload =>
    have hz : z_all 13 1 ls st h = (true, o) := hz
    unfold z_all at hz; split at hz
    · exact zn_ng hz rfl
    · exact zn_no hz
  case baload =>
    have hz : z_bal r ls st h = (true, o) := hz
    unfold z_bal at hz; split at hz
    · unfold z_all at hz; split at hz
      · exact zn_ng hz rfl
      · exact zn_no hz
    · unfold z_all at hz; split at hz
      · exact zn_ng hz rfl
      · exact zn_no hz
    · exact zn_no hz
  case aaload =>
    have hz : z_aal ls st h = (true, o) := hz
    unfold z_aal at hz; split at hz
    · exact zn_ng hz rfl
    · exact zn_no hz
  case iastore =>
    have hz : z_as 12 0 (fun v => v) ls st h = (true, o) := hz
    unfold z_as at hz; split at hz
    · exact zn_ng hz rfl
    · exact zn_no hz
  case lastore =>
    have hz : z_as 13 1 (fun v => v) ls st h = (true, o) := hz
    unfold z_as at hz; split at hz
    · exact zn_ng hz rfl
    · exact zn_no hz
  case bastore =>
    have hz : z_bas r ls st h = (true, o) := hz
    unfold z_bas at hz; split at hz
    · unfold z_as at hz; split at hz
      · exact zn_ng hz rfl
      · exact zn_no hz
    · unfold z_as at hz; split at hz
      · exact zn_ng hz rfl
      · exact zn_no hz
    · exact zn_no hz
  case aastore =>
    have hz : z_aas ls st h = (true, o) := hz
    unfold z_aas at hz; split at hz
    · exact zn_ng hz rfl
    · exact zn_no hz
  case arraylength =>
    have hz : z_len XL ls st h = (true, o) := hz
    unfold z_len at hz; split at hz
    · split at hz
      · exact zn_ng hz rfl
      · exact zn_ng hz rfl
    · exact zn_no hz
  case newarray a =>
    cases a <;> first | exact na hz | exact zn_no hz
  case anewarray n => exact na hz
  case new n => exact zn_ng hz rfl
  case invokestatic n =>
    have hz : z_is r ls st h = (true, o) := hz
    unfold z_is at hz
    cases hb : decide (14 ≤ r.1) with
    | true => rw [hb] at hz; exact mt hz
    | false => rw [hb] at hz; exact cl hz
  case invokevirtual n => exact cl hz
  case invokespecial n => exact cl hz
  case ireturn =>
    dsimp only [zs1] at hz; split at hz
    · exact rtn hz
    · exact zn_no hz
  case lreturn =>
    dsimp only [zs1] at hz; split at hz
    · exact rtn hz
    · exact zn_no hz
  case return_ =>
    dsimp only [zs1] at hz; split at hz
    · exact rtn hz
    · exact zn_no hz
  all_goals exact zn_no hz
