/-- an end comes of a return alone -/
def zisret (i : Instr) : Bool := match i with
  | .ireturn => true
  | .lreturn => true
  | .return_ => true
  | _ => false
def zend (i : Instr) (o : zo) : Prop := match o with
  | .inl _ => zisret i = true
  | _ => True
theorem ze_no {i : Instr} {o : zo} (hz : zno = (true, o)) : zend i o := by simp [zno] at hz
theorem ze_ng {i : Instr} {g : Bool} {ls' st : List zv} {h' : zh} {o : zo} (hz : zng g ls' st h' = (true, o)) : zend i o := by
  have h1 := ((Prod.mk.injEq _ _ _ _).mp hz).2
  subst h1
  exact trivial
theorem zs1_endp {own : Nat} {ini : Bool} {X : Nat → Int} {XL : Nat} {i : Instr} {pc : Nat} {r : zr} {ls st : List zv} {h : zh} {o : zo} (hz : zs1 own ini X XL i pc r ls st h = (true, o)) : zend i o := by
  have jmp : ∀ {g : Bool} {b : Bool} {t : Nat} {ls st : List zv}, (g, (.inr (.inl (b, t, ls, st, h)) : zo)) = (true, o) → zend i o := by
    intro g b t ls st q
    have h1 := ((Prod.mk.injEq _ _ _ _).mp q).2
    subst h1
    exact trivial
  have swt : ∀ {g : Bool} {x : Int} {l : List (Int × Nat)} {t : Nat} {ls st : List zv}, (g, (.inr (.inr (.inr (x, l, t, ls, st, h))) : zo)) = (true, o) → zend i o := by
    intro g x l t ls st q
    have h1 := ((Prod.mk.injEq _ _ _ _).mp q).2
    subst h1
    exact trivial
  have rtn : ∀ {g : Bool} {x : Int}, zisret i = true → (g, (.inl (x, h) : zo)) = (true, o) → zend i o := by
    intro g x hi q
    have h1 := ((Prod.mk.injEq _ _ _ _).mp q).2
    subst h1
    exact hi
  have cl : z_cl r ls st h = (true, o) → zend i o := by
    intro q
    unfold z_cl at q
    split at q
    · split at q
      · exact ze_ng q
      · exact ze_no q
    · split at q
      · exact ze_ng q
      · exact ze_no q
    · split at q
      · exact ze_ng q
      · exact ze_no q
    · have h1 := ((Prod.mk.injEq _ _ _ _).mp q).2
      subst h1
      exact trivial
  have mt : z_mt r ls st h = (true, o) → zend i o := by
    intro q
    unfold z_mt at q
    split at q
    · split at q
      · exact ze_ng q
      · exact ze_no q
    · split at q
      · exact ze_ng q
      · exact ze_no q
    · split at q
      · exact ze_ng q
      · exact ze_no q
    · split at q
      · exact ze_ng q
      · exact ze_no q
    · exact ze_no q
  have b2 : ∀ {f : Int → Int → Int}, z_b2 f ls st h = (true, o) → zend i o := by
    intro f q; unfold z_b2 at q; split at q
    · exact ze_ng q
    · exact ze_no q
  have b2g : ∀ {f : Int → Int → Int}, z_b2g f ls st h = (true, o) → zend i o := by
    intro f q; unfold z_b2g at q; split at q
    · exact ze_ng q
    · exact ze_no q
  have l2 : ∀ {f : Int → Int → Int}, z_l2 f ls st h = (true, o) → zend i o := by
    intro f q; unfold z_l2 at q; split at q
    · exact ze_ng q
    · exact ze_no q
  have ld : ∀ {t n : Nat}, z_ld t n ls st h = (true, o) → zend i o := fun q => ze_ng (by unfold z_ld at q; exact q)
  have lda : ∀ {n : Nat}, z_lda n ls st h = (true, o) → zend i o := fun q => ze_ng (by unfold z_lda at q; exact q)
  have sti : ∀ {n : Nat}, z_sti n ls st h = (true, o) → zend i o := by
    intro n q; unfold z_sti at q; split at q
    · exact ze_ng q
    · exact ze_no q
  have stl : ∀ {n : Nat}, z_stl n ls st h = (true, o) → zend i o := by
    intro n q; unfold z_stl at q; split at q
    · exact ze_ng q
    · exact ze_no q
  have sta : ∀ {n : Nat}, z_sta n ls st h = (true, o) → zend i o := by
    intro n q; unfold z_sta at q; split at q
    · exact ze_ng q
    · exact ze_no q
  have na : ∀ {k : Nat}, z_na k ls st h = (true, o) → zend i o := by
    intro k q; unfold z_na at q; split at q
    · exact ze_ng q
    · exact ze_no q
  cases i
  case iload n => exact ld hz
  case iload_n n => exact ld hz
  case lload n => exact ld hz
  case lload_n n => exact ld hz
  case aload n => exact lda hz
  case aload_n n => exact lda hz
  case istore n => exact sti hz
  case istore_n n => exact sti hz
  case lstore n => exact stl hz
  case lstore_n n => exact stl hz
  case astore n => exact sta hz
  case astore_n n => exact sta hz
  case iconst n => exact ze_ng hz
  case bipush n => exact ze_ng hz
  case sipush n => exact ze_ng hz
  case lconst n => exact ze_ng hz
  case ldc n =>
    dsimp only [zs1] at hz; split at hz
    · exact ze_ng hz
    · exact ze_ng hz
    · exact ze_no hz
  case ldc_w n =>
    dsimp only [zs1] at hz; split at hz
    · exact ze_ng hz
    · exact ze_ng hz
    · exact ze_no hz
  case ldc2_w n =>
    dsimp only [zs1] at hz; split at hz
    · exact ze_ng hz
    · exact ze_no hz
  case iinc n c => exact ze_ng hz
  case dup =>
    dsimp only [zs1] at hz; split at hz
    · exact ze_ng hz
    · exact ze_no hz
  case dup2 =>
    dsimp only [zs1] at hz; split at hz
    · exact ze_ng hz
    · exact ze_no hz
  case pop =>
    dsimp only [zs1] at hz; split at hz
    · exact ze_ng hz
    · exact ze_no hz
  case iadd => exact b2 hz
  case isub => exact b2 hz
  case imul => exact b2 hz
  case idiv => exact b2g hz
  case irem => exact b2g hz
  case iand => exact b2 hz
  case ior => exact b2 hz
  case ixor => exact b2 hz
  case ishl => exact b2 hz
  case ishr => exact b2 hz
  case iushr => exact b2 hz
  case ineg =>
    dsimp only [zs1] at hz; split at hz
    · exact ze_ng hz
    · exact ze_no hz
  case i2b =>
    dsimp only [zs1] at hz; split at hz
    · exact ze_ng hz
    · exact ze_no hz
  case i2l =>
    dsimp only [zs1] at hz; split at hz
    · exact ze_ng hz
    · exact ze_no hz
  case ladd => exact l2 hz
  case lsub => exact l2 hz
  case lmul => exact l2 hz
  case land => exact l2 hz
  case lor => exact l2 hz
  case lshl =>
    dsimp only [zs1] at hz; split at hz
    · exact ze_ng hz
    · exact ze_no hz
  case lcmp =>
    dsimp only [zs1] at hz; split at hz
    · exact ze_ng hz
    · exact ze_no hz
  case ifCond c off =>
    dsimp only [zs1] at hz; split at hz
    · exact jmp hz
    · exact ze_no hz
  case if_icmp c off =>
    dsimp only [zs1] at hz; split at hz
    · exact jmp hz
    · exact ze_no hz
  case goto off => exact jmp hz
  case tableswitch d lo hi offs =>
    dsimp only [zs1] at hz; split at hz
    · exact swt hz
    · exact ze_no hz
  case lookupswitch d ps =>
    dsimp only [zs1] at hz; split at hz
    · exact swt hz
    · exact ze_no hz
  case getfield n =>
    have hz : z_gf r ls st h = (true, o) := hz
    unfold z_gf at hz; split at hz
    · split at hz
      · exact ze_ng hz
      · exact ze_ng hz
      · exact ze_ng hz
    · exact ze_no hz
  case putfield n =>
    have hz : z_pf own ini r ls st h = (true, o) := hz
    unfold z_pf at hz; split at hz
    · split at hz
      · exact ze_ng hz
      · exact ze_ng hz
      · exact ze_ng hz
      · exact ze_ng hz
    · exact ze_no hz
  case iaload =>
    have hz : z_al X XL ls st h = (true, o) := hz
    unfold z_al at hz; split at hz
    · split at hz
      · exact ze_ng hz
      · exact ze_ng hz
    · exact ze_no hz
  case laload =>
    have hz : z_all 13 1 ls st h = (true, o) := hz
    unfold z_all at hz; split at hz
    · exact ze_ng hz
    · exact ze_no hz
  case baload =>
    have hz : z_bal r ls st h = (true, o) := hz
    unfold z_bal at hz; split at hz
    · unfold z_all at hz; split at hz
      · exact ze_ng hz
      · exact ze_no hz
    · unfold z_all at hz; split at hz
      · exact ze_ng hz
      · exact ze_no hz
    · exact ze_no hz
  case aaload =>
    have hz : z_aal ls st h = (true, o) := hz
    unfold z_aal at hz; split at hz
    · exact ze_ng hz
    · exact ze_no hz
  case iastore =>
    have hz : z_as 12 0 (fun v => v) ls st h = (true, o) := hz
    unfold z_as at hz; split at hz
    · exact ze_ng hz
    · exact ze_no hz
  case lastore =>
    have hz : z_as 13 1 (fun v => v) ls st h = (true, o) := hz
    unfold z_as at hz; split at hz
    · exact ze_ng hz
    · exact ze_no hz
  case bastore =>
    have hz : z_bas r ls st h = (true, o) := hz
    unfold z_bas at hz; split at hz
    · unfold z_as at hz; split at hz
      · exact ze_ng hz
      · exact ze_no hz
    · unfold z_as at hz; split at hz
      · exact ze_ng hz
      · exact ze_no hz
    · exact ze_no hz
  case aastore =>
    have hz : z_aas ls st h = (true, o) := hz
    unfold z_aas at hz; split at hz
    · exact ze_ng hz
    · exact ze_no hz
  case arraylength =>
    have hz : z_len XL ls st h = (true, o) := hz
    unfold z_len at hz; split at hz
    · split at hz
      · exact ze_ng hz
      · exact ze_ng hz
    · exact ze_no hz
  case newarray a =>
    cases a <;> first | exact na hz | exact ze_no hz
  case anewarray n => exact na hz
  case new n => exact ze_ng hz
  case invokestatic n =>
    have hz : z_is r ls st h = (true, o) := hz
    unfold z_is at hz
    cases hb : decide (14 ≤ r.1) with
    | true => rw [hb] at hz; exact mt hz
    | false => rw [hb] at hz; exact cl hz
  case invokevirtual n => exact cl hz
  case invokespecial n => exact cl hz
  case ireturn =>
    dsimp only [zs1] at hz; split at hz
    · exact rtn rfl hz
    · exact ze_no hz
  case lreturn =>
    dsimp only [zs1] at hz; split at hz
    · exact rtn rfl hz
    · exact ze_no hz
  case return_ =>
    dsimp only [zs1] at hz; split at hz
    · exact rtn rfl hz
    · exact ze_no hz
  all_goals exact ze_no hz
theorem zs1_end {own : Nat} {ini : Bool} {X : Nat → Int} {XL : Nat} {i : Instr} {pc : Nat} {r : zr} {ls st : List zv} {h : zh} {q : Int × zh} (hz : zs1 own ini X XL i pc r ls st h = (true, .inl q)) : zisret i = true := zs1_endp hz
/-- a call comes of three instructions alone -/
theorem z_cl_call {r : zr} {ls st : List zv} {h : zh} {q : Nat × Nat × List zv × List zv × List zv × zh} (hz : z_cl r ls st h = (true, .inr (.inr (.inl q)))) : 1 ≤ r.1 ∧ r.1 ≤ 3 ∧ r.2.2.1 ≤ st.length ∧ zcat (st.drop r.2.2.1) ≤ 8 ∧ (r.2.2.2 = -1 ∨ ∃ a as, (st.take r.2.2.1).reverse = (2, a) :: as ∧ 0 ≤ a ∧ ((zat h a).1 : Int) = r.2.2.2) ∧ q = (r.1, r.2.1, (st.take r.2.2.1).reverse, ls, st.drop r.2.2.1, h) := by
  unfold z_cl at hz
  split at hz
  · split at hz <;> simp [zng, zno] at hz
  · split at hz <;> simp [zng, zno] at hz
  · split at hz <;> simp [zng, zno] at hz
  · simp only [Prod.mk.injEq, Bool.and_eq_true, Bool.or_eq_true, beq_iff_eq, decide_eq_true_eq, Sum.inr.injEq, Sum.inl.injEq] at hz
    obtain ⟨⟨h1, h2, h3, h4, h5⟩, h6⟩ := hz
    refine ⟨h1, h2, h3, h4, ?_, h6.symm⟩
    rcases h5 with q | q
    · exact Or.inl q
    · split at q
      · rename_i t a as heq
        simp only [Bool.and_eq_true, beq_iff_eq, decide_eq_true_eq] at q
        exact Or.inr ⟨a, as, by rw [heq, q.1], q.2.1, q.2.2⟩
      · cases q
def ziscall (i : Instr) : Bool := match i with
  | .invokestatic _ => true
  | .invokevirtual _ => true
  | .invokespecial _ => true
  | _ => false
def zcalp (i : Instr) (r : zr) (ls st : List zv) (h : zh) (o : zo) : Prop := match o with
  | .inr (.inr (.inl _)) => ziscall i = true ∧ z_cl r ls st h = (true, o)
  | _ => True
theorem zk_no {i : Instr} {r : zr} {ls st : List zv} {h : zh} {o : zo} (hz : zno = (true, o)) : zcalp i r ls st h o := by simp [zno] at hz
theorem zk_ng {i : Instr} {r : zr} {ls st : List zv} {h : zh} {g : Bool} {ls' st' : List zv} {h' : zh} {o : zo} (hz : zng g ls' st' h' = (true, o)) : zcalp i r ls st h o := by
  have h1 := ((Prod.mk.injEq _ _ _ _).mp hz).2
  subst h1
  exact trivial
theorem zs1_calp {own : Nat} {ini : Bool} {X : Nat → Int} {XL : Nat} {i : Instr} {pc : Nat} {r : zr} {ls st : List zv} {h : zh} {o : zo} (hz : zs1 own ini X XL i pc r ls st h = (true, o)) : zcalp i r ls st h o := by
  have jmp : ∀ {g : Bool} {b : Bool} {t : Nat} {ls' st' : List zv}, (g, (.inr (.inl (b, t, ls', st', h)) : zo)) = (true, o) → zcalp i r ls st h o := by
    intro g b t ls' st' q
    have h1 := ((Prod.mk.injEq _ _ _ _).mp q).2
    subst h1
    exact trivial
  have swt : ∀ {g : Bool} {x : Int} {l : List (Int × Nat)} {t : Nat} {ls' st' : List zv}, (g, (.inr (.inr (.inr (x, l, t, ls', st', h))) : zo)) = (true, o) → zcalp i r ls st h o := by
    intro g x l t ls' st' q
    have h1 := ((Prod.mk.injEq _ _ _ _).mp q).2
    subst h1
    exact trivial
  have rtn : ∀ {g : Bool} {x : Int}, (g, (.inl (x, h) : zo)) = (true, o) → zcalp i r ls st h o := by
    intro g x q
    have h1 := ((Prod.mk.injEq _ _ _ _).mp q).2
    subst h1
    exact trivial
  have cl : ziscall i = true → z_cl r ls st h = (true, o) → zcalp i r ls st h o := by
    intro hi q
    unfold zcalp
    split
    · exact ⟨hi, q⟩
    · exact trivial
  have mt : z_mt r ls st h = (true, o) → zcalp i r ls st h o := by
    intro q
    unfold z_mt at q
    split at q
    · split at q
      · exact zk_ng q
      · exact zk_no q
    · split at q
      · exact zk_ng q
      · exact zk_no q
    · split at q
      · exact zk_ng q
      · exact zk_no q
    · split at q
      · exact zk_ng q
      · exact zk_no q
    · exact zk_no q
  have b2 : ∀ {f : Int → Int → Int}, z_b2 f ls st h = (true, o) → zcalp i r ls st h o := by
    intro f q; unfold z_b2 at q; split at q
    · exact zk_ng q
    · exact zk_no q
  have b2g : ∀ {f : Int → Int → Int}, z_b2g f ls st h = (true, o) → zcalp i r ls st h o := by
    intro f q; unfold z_b2g at q; split at q
    · exact zk_ng q
    · exact zk_no q
  have l2 : ∀ {f : Int → Int → Int}, z_l2 f ls st h = (true, o) → zcalp i r ls st h o := by
    intro f q; unfold z_l2 at q; split at q
    · exact zk_ng q
    · exact zk_no q
  have ld : ∀ {t n : Nat}, z_ld t n ls st h = (true, o) → zcalp i r ls st h o := fun q => zk_ng (by unfold z_ld at q; exact q)
  have lda : ∀ {n : Nat}, z_lda n ls st h = (true, o) → zcalp i r ls st h o := fun q => zk_ng (by unfold z_lda at q; exact q)
  have sti : ∀ {n : Nat}, z_sti n ls st h = (true, o) → zcalp i r ls st h o := by
    intro n q; unfold z_sti at q; split at q
    · exact zk_ng q
    · exact zk_no q
  have stl : ∀ {n : Nat}, z_stl n ls st h = (true, o) → zcalp i r ls st h o := by
    intro n q; unfold z_stl at q; split at q
    · exact zk_ng q
    · exact zk_no q
  have sta : ∀ {n : Nat}, z_sta n ls st h = (true, o) → zcalp i r ls st h o := by
    intro n q; unfold z_sta at q; split at q
    · exact zk_ng q
    · exact zk_no q
  have na : ∀ {k : Nat}, z_na k ls st h = (true, o) → zcalp i r ls st h o := by
    intro k q; unfold z_na at q; split at q
    · exact zk_ng q
    · exact zk_no q
  cases i
  case iload n => exact ld hz
  case iload_n n => exact ld hz
  case lload n => exact ld hz
  case lload_n n => exact ld hz
  case aload n => exact lda hz
  case aload_n n => exact lda hz
  case istore n => exact sti hz
  case istore_n n => exact sti hz
  case lstore n => exact stl hz
  case lstore_n n => exact stl hz
  case astore n => exact sta hz
  case astore_n n => exact sta hz
  case iconst n => exact zk_ng hz
  case bipush n => exact zk_ng hz
  case sipush n => exact zk_ng hz
  case lconst n => exact zk_ng hz
  case ldc n =>
    dsimp only [zs1] at hz; split at hz
    · exact zk_ng hz
    · exact zk_ng hz
    · exact zk_no hz
  case ldc_w n =>
    dsimp only [zs1] at hz; split at hz
    · exact zk_ng hz
    · exact zk_ng hz
    · exact zk_no hz
  case ldc2_w n =>
    dsimp only [zs1] at hz; split at hz
    · exact zk_ng hz
    · exact zk_no hz
  case iinc n c => exact zk_ng hz
  case dup =>
    dsimp only [zs1] at hz; split at hz
    · exact zk_ng hz
    · exact zk_no hz
  case dup2 =>
    dsimp only [zs1] at hz; split at hz
    · exact zk_ng hz
    · exact zk_no hz
  case pop =>
    dsimp only [zs1] at hz; split at hz
    · exact zk_ng hz
    · exact zk_no hz
  case iadd => exact b2 hz
  case isub => exact b2 hz
  case imul => exact b2 hz
  case idiv => exact b2g hz
  case irem => exact b2g hz
  case iand => exact b2 hz
  case ior => exact b2 hz
  case ixor => exact b2 hz
  case ishl => exact b2 hz
  case ishr => exact b2 hz
  case iushr => exact b2 hz
  case ineg =>
    dsimp only [zs1] at hz; split at hz
    · exact zk_ng hz
    · exact zk_no hz
  case i2b =>
    dsimp only [zs1] at hz; split at hz
    · exact zk_ng hz
    · exact zk_no hz
  case i2l =>
    dsimp only [zs1] at hz; split at hz
    · exact zk_ng hz
    · exact zk_no hz
  case ladd => exact l2 hz
  case lsub => exact l2 hz
  case lmul => exact l2 hz
  case land => exact l2 hz
  case lor => exact l2 hz
  case lshl =>
    dsimp only [zs1] at hz; split at hz
    · exact zk_ng hz
    · exact zk_no hz
  case lcmp =>
    dsimp only [zs1] at hz; split at hz
    · exact zk_ng hz
    · exact zk_no hz
  case ifCond c off =>
    dsimp only [zs1] at hz; split at hz
    · exact jmp hz
    · exact zk_no hz
  case if_icmp c off =>
    dsimp only [zs1] at hz; split at hz
    · exact jmp hz
    · exact zk_no hz
  case goto off => exact jmp hz
  case tableswitch d lo hi offs =>
    dsimp only [zs1] at hz; split at hz
    · exact swt hz
    · exact zk_no hz
  case lookupswitch d ps =>
    dsimp only [zs1] at hz; split at hz
    · exact swt hz
    · exact zk_no hz
  case getfield n =>
    have hz : z_gf r ls st h = (true, o) := hz
    unfold z_gf at hz; split at hz
    · split at hz
      · exact zk_ng hz
      · exact zk_ng hz
      · exact zk_ng hz
    · exact zk_no hz
  case putfield n =>
    have hz : z_pf own ini r ls st h = (true, o) := hz
    unfold z_pf at hz; split at hz
    · split at hz
      · exact zk_ng hz
      · exact zk_ng hz
      · exact zk_ng hz
      · exact zk_ng hz
    · exact zk_no hz
  case iaload =>
    have hz : z_al X XL ls st h = (true, o) := hz
    unfold z_al at hz; split at hz
    · split at hz
      · exact zk_ng hz
      · exact zk_ng hz
    · exact zk_no hz
  case laload =>
    have hz : z_all 13 1 ls st h = (true, o) := hz
    unfold z_all at hz; split at hz
    · exact zk_ng hz
    · exact zk_no hz
  case baload =>
    have hz : z_bal r ls st h = (true, o) := hz
    unfold z_bal at hz; split at hz
    · unfold z_all at hz; split at hz
      · exact zk_ng hz
      · exact zk_no hz
    · unfold z_all at hz; split at hz
      · exact zk_ng hz
      · exact zk_no hz
    · exact zk_no hz
  case aaload =>
    have hz : z_aal ls st h = (true, o) := hz
    unfold z_aal at hz; split at hz
    · exact zk_ng hz
    · exact zk_no hz
  case iastore =>
    have hz : z_as 12 0 (fun v => v) ls st h = (true, o) := hz
    unfold z_as at hz; split at hz
    · exact zk_ng hz
    · exact zk_no hz
  case lastore =>
    have hz : z_as 13 1 (fun v => v) ls st h = (true, o) := hz
    unfold z_as at hz; split at hz
    · exact zk_ng hz
    · exact zk_no hz
  case bastore =>
    have hz : z_bas r ls st h = (true, o) := hz
    unfold z_bas at hz; split at hz
    · unfold z_as at hz; split at hz
      · exact zk_ng hz
      · exact zk_no hz
    · unfold z_as at hz; split at hz
      · exact zk_ng hz
      · exact zk_no hz
    · exact zk_no hz
  case aastore =>
    have hz : z_aas ls st h = (true, o) := hz
    unfold z_aas at hz; split at hz
    · exact zk_ng hz
    · exact zk_no hz
  case arraylength =>
    have hz : z_len XL ls st h = (true, o) := hz
    unfold z_len at hz; split at hz
    · split at hz
      · exact zk_ng hz
      · exact zk_ng hz
    · exact zk_no hz
  case newarray a =>
    cases a <;> first | exact na hz | exact zk_no hz
  case anewarray n => exact na hz
  case new n => exact zk_ng hz
  case invokestatic n =>
    have hz : z_is r ls st h = (true, o) := hz
    unfold z_is at hz
    cases hb : decide (14 ≤ r.1) with
    | true => rw [hb] at hz; exact mt hz
    | false => rw [hb] at hz; exact cl rfl hz
  case invokevirtual n => exact cl rfl hz
  case invokespecial n => exact cl rfl hz
  case ireturn =>
    dsimp only [zs1] at hz; split at hz
    · exact rtn hz
    · exact zk_no hz
  case lreturn =>
    dsimp only [zs1] at hz; split at hz
    · exact rtn hz
    · exact zk_no hz
  case return_ =>
    dsimp only [zs1] at hz; split at hz
    · exact rtn hz
    · exact zk_no hz
  all_goals exact zk_no hz
