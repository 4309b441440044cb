/-! memory of fixed layout: methods that make nothing keep it -/
def zkeep (h : zh) (o : zo) : Prop := match o with
  | .inl (_, h') => h'.1 = h.1
  | .inr (.inl (_, _, _, _, h')) => h'.1 = h.1
  | .inr (.inr (.inl (_, _, _, _, _, h'))) => h'.1 = h.1
  | .inr (.inr (.inr (_, _, _, _, _, h'))) => h'.1 = h.1
/-- methods that make nothing: all but the constructors and the law -/
def zprm (n : Nat) : Bool := !(zP n).2.1 && decide (n < znM)
def zprI (i : Instr) (r : zr) : Bool := match i with
  | .new _ => false
  | .newarray _ => false
  | .anewarray _ => false
  | .aastore => false
  | .putfield _ => !(r.2.2.2 == 1)
  | .invokestatic _ => decide (r.1 = 0) || (decide (3 < r.1) || zprm r.2.1)
  | .invokevirtual _ => decide (r.1 = 0) || (decide (3 < r.1) || zprm r.2.1)
  | .invokespecial _ => decide (r.1 = 0) || (decide (3 < r.1) || zprm r.2.1)
  | _ => true
def zprK (K : zc) : Bool := K.all fun e => zprI e.2.2.1 e.2.2.2.2
theorem zp_no {h : zh} {o : zo} (hz : zno = (true, o)) : zkeep h o := by simp [zno] at hz
theorem zp_ng {g : Bool} {ls st : List zv} {h h' : zh} {o : zo} (hz : zng g ls st h' = (true, o)) (hg : h'.1 = h.1) : zkeep h o := by
  have h1 := ((Prod.mk.injEq _ _ _ _).mp hz).2
  subst h1
  exact hg
theorem zs1_keep {own : Nat} {ini : Bool} {X : Nat → Int} {XL : Nat} {i : Instr} {pc : Nat} {r : zr} {ls st : List zv} {h : zh} {o : zo} (hp : zprI i r = true) (hz : zs1 own ini X XL i pc r ls st h = (true, o)) : zkeep h o := by
  have jmp : ∀ {g : Bool} {b : Bool} {t : Nat} {ls st : List zv}, (g, (.inr (.inl (b, t, ls, st, h)) : zo)) = (true, o) → zkeep h o := by
    intro g b t ls st q
    have h1 := ((Prod.mk.injEq _ _ _ _).mp q).2
    subst h1
    exact rfl
  have swt : ∀ {g : Bool} {x : Int} {l : List (Int × Nat)} {t : Nat} {ls st : List zv}, (g, (.inr (.inr (.inr (x, l, t, ls, st, h))) : zo)) = (true, o) → zkeep h o := by
    intro g x l t ls st q
    have h1 := ((Prod.mk.injEq _ _ _ _).mp q).2
    subst h1
    exact rfl
  have rtn : ∀ {g : Bool} {x : Int}, (g, (.inl (x, h) : zo)) = (true, o) → zkeep h o := by
    intro g x q
    have h1 := ((Prod.mk.injEq _ _ _ _).mp q).2
    subst h1
    exact rfl
  have cl : z_cl r ls st h = (true, o) → zkeep h o := by
    intro q
    unfold z_cl at q
    split at q
    · split at q
      · exact zp_ng q rfl
      · exact zp_no q
    · split at q
      · exact zp_ng q rfl
      · exact zp_no q
    · split at q
      · exact zp_ng q rfl
      · exact zp_no q
    · have h1 := ((Prod.mk.injEq _ _ _ _).mp q).2
      subst h1
      exact rfl
  have mt : z_mt r ls st h = (true, o) → zkeep h o := by
    intro q
    unfold z_mt at q
    split at q
    · split at q
      · exact zp_ng q rfl
      · exact zp_no q
    · split at q
      · exact zp_ng q rfl
      · exact zp_no q
    · split at q
      · exact zp_ng q rfl
      · exact zp_no q
    · split at q
      · exact zp_ng q rfl
      · exact zp_no q
    · exact zp_no q
  have b2 : ∀ {f : Int → Int → Int}, z_b2 f ls st h = (true, o) → zkeep h o := by
    intro f q; unfold z_b2 at q; split at q
    · exact zp_ng q rfl
    · exact zp_no q
  have b2g : ∀ {f : Int → Int → Int}, z_b2g f ls st h = (true, o) → zkeep h o := by
    intro f q; unfold z_b2g at q; split at q
    · exact zp_ng q rfl
    · exact zp_no q
  have l2 : ∀ {f : Int → Int → Int}, z_l2 f ls st h = (true, o) → zkeep h o := by
    intro f q; unfold z_l2 at q; split at q
    · exact zp_ng q rfl
    · exact zp_no q
  have ld : ∀ {t n : Nat}, z_ld t n ls st h = (true, o) → zkeep h o := fun q => zp_ng (h := h) (by unfold z_ld at q; exact q) rfl
  have lda : ∀ {n : Nat}, z_lda n ls st h = (true, o) → zkeep h o := fun q => zp_ng (h := h) (by unfold z_lda at q; exact q) rfl
  have sti : ∀ {n : Nat}, z_sti n ls st h = (true, o) → zkeep h o := by
    intro n q; unfold z_sti at q; split at q
    · exact zp_ng q rfl
    · exact zp_no q
  have stl : ∀ {n : Nat}, z_stl n ls st h = (true, o) → zkeep h o := by
    intro n q; unfold z_stl at q; split at q
    · exact zp_ng q rfl
    · exact zp_no q
  have sta : ∀ {n : Nat}, z_sta n ls st h = (true, o) → zkeep h o := by
    intro n q; unfold z_sta at q; split at q
    · exact zp_ng q rfl
    · exact zp_no q
  cases i
  case iload n => exact ld hz
  case iload_n n => exact ld hz
  case lload n => exact ld hz
  case lload_n n => exact ld hz
  case aload n => exact lda hz
  case aload_n n => exact lda hz
  case istore n => exact sti hz
  case istore_n n => exact sti hz
  case lstore n => exact stl hz
  case lstore_n n => exact stl hz
  case astore n => exact sta hz
  case astore_n n => exact sta hz
  case iconst n => exact zp_ng hz rfl
  case bipush n => exact zp_ng hz rfl
  case sipush n => exact zp_ng hz rfl
  case lconst n => exact zp_ng hz rfl
  case ldc n =>
    dsimp only [zs1] at hz; split at hz
    · exact zp_ng hz rfl
    · exact zp_ng hz rfl
    · exact zp_no hz
  case ldc_w n =>
    dsimp only [zs1] at hz; split at hz
    · exact zp_ng hz rfl
    · exact zp_ng hz rfl
    · exact zp_no hz
  case ldc2_w n =>
    dsimp only [zs1] at hz; split at hz
    · exact zp_ng hz rfl
    · exact zp_no hz
  case iinc n c => exact zp_ng (h := h) hz rfl
  case dup =>
    dsimp only [zs1] at hz; split at hz
    · exact zp_ng hz rfl
    · exact zp_no hz
  case dup2 =>
    dsimp only [zs1] at hz; split at hz
    · exact zp_ng hz rfl
    · exact zp_no hz
  case pop =>
    dsimp only [zs1] at hz; split at hz
    · exact zp_ng hz rfl
    · exact zp_no hz
  case iadd => exact b2 hz
  case isub => exact b2 hz
  case imul => exact b2 hz
  case idiv => exact b2g hz
  case irem => exact b2g hz
  case iand => exact b2 hz
  case ior => exact b2 hz
  case ixor => exact b2 hz
  case ishl => exact b2 hz
  case ishr => exact b2 hz
  case iushr => exact b2 hz
  case ineg =>
    dsimp only [zs1] at hz; split at hz
    · exact zp_ng hz rfl
    · exact zp_no hz
  case i2b =>
    dsimp only [zs1] at hz; split at hz
    · exact zp_ng hz rfl
    · exact zp_no hz
  case i2l =>
    dsimp only [zs1] at hz; split at hz
    · exact zp_ng hz rfl
    · exact zp_no hz
  case ladd => exact l2 hz
  case lsub => exact l2 hz
  case lmul => exact l2 hz
  case land => exact l2 hz
  case lor => exact l2 hz
  case lshl =>
    dsimp only [zs1] at hz; split at hz
    · exact zp_ng hz rfl
    · exact zp_no hz
  case lcmp =>
    dsimp only [zs1] at hz; split at hz
    · exact zp_ng hz rfl
    · exact zp_no hz
  case ifCond c off =>
    dsimp only [zs1] at hz; split at hz
    · exact jmp hz
    · exact zp_no hz
  case if_icmp c off =>
    dsimp only [zs1] at hz; split at hz
    · exact jmp hz
    · exact zp_no hz
  case goto off => exact jmp hz
  case tableswitch d lo hi offs =>
    dsimp only [zs1] at hz; split at hz
    · exact swt hz
    · exact zp_no hz
  case lookupswitch d ps =>
    dsimp only [zs1] at hz; split at hz
    · exact swt hz
    · exact zp_no hz
  case getfield n =>
    have hz : z_gf r ls st h = (true, o) := hz
    unfold z_gf at hz; split at hz
    · split at hz
      · exact zp_ng hz rfl
      · exact zp_ng hz rfl
      · exact zp_ng hz rfl
    · exact zp_no hz
  case putfield n =>
    have hz : z_pf own ini r ls st h = (true, o) := hz
    unfold z_pf at hz; split at hz
    · split at hz
      · rename_i hr1; simp [zprI, hr1] at hp
      · exact zp_ng hz rfl
      · exact zp_ng hz rfl
      · exact zp_ng hz rfl
    · exact zp_no hz
  case iaload =>
    have hz : z_al X XL ls st h = (true, o) := hz
    unfold z_al at hz; split at hz
    · split at hz
      · exact zp_ng hz rfl
      · exact zp_ng hz rfl
    · exact zp_no hz
  case laload =>
    have hz : z_all 13 1 ls st h = (true, o) := hz
    unfold z_all at hz; split at hz
    · exact zp_ng hz rfl
    · exact zp_no hz
  case baload =>
    have hz : z_bal r ls st h = (true, o) := hz
    unfold z_bal at hz; split at hz
    · unfold z_all at hz; split at hz
      · exact zp_ng hz rfl
      · exact zp_no hz
    · unfold z_all at hz; split at hz
      · exact zp_ng hz rfl
      · exact zp_no hz
    · exact zp_no hz
  case aaload =>
    have hz : z_aal ls st h = (true, o) := hz
    unfold z_aal at hz; split at hz
    · exact zp_ng hz rfl
    · exact zp_no hz
  case iastore =>
    have hz : z_as 12 0 (fun v => v) ls st h = (true, o) := hz
    unfold z_as at hz; split at hz
    · exact zp_ng hz rfl
    · exact zp_no hz
  case lastore =>
    have hz : z_as 13 1 (fun v => v) ls st h = (true, o) := hz
    unfold z_as at hz; split at hz
    · exact zp_ng hz rfl
    · exact zp_no hz
  case bastore =>
    have hz : z_bas r ls st h = (true, o) := hz
    unfold z_bas at hz; split at hz
    · unfold z_as at hz; split at hz
      · exact zp_ng hz rfl
      · exact zp_no hz
    · unfold z_as at hz; split at hz
      · exact zp_ng hz rfl
      · exact zp_no hz
    · exact zp_no hz
  case aastore => cases hp
  case arraylength =>
    have hz : z_len XL ls st h = (true, o) := hz
    unfold z_len at hz; split at hz
    · split at hz
      · exact zp_ng hz rfl
      · exact zp_ng hz rfl
    · exact zp_no hz
  case newarray a => cases hp
  case anewarray n => cases hp
  case new n => cases hp
  case invokestatic n =>
    have hz : z_is r ls st h = (true, o) := hz
    unfold z_is at hz
    cases hb : decide (14 ≤ r.1) with
    | true => rw [hb] at hz; exact mt hz
    | false => rw [hb] at hz; exact cl hz
  case invokevirtual n => exact cl hz
  case invokespecial n => exact cl hz
  case ireturn =>
    dsimp only [zs1] at hz; split at hz
    · exact rtn hz
    · exact zp_no hz
  case lreturn =>
    dsimp only [zs1] at hz; split at hz
    · exact rtn hz
    · exact zp_no hz
  case return_ =>
    dsimp only [zs1] at hz; split at hz
    · exact rtn hz
    · exact zp_no hz
  all_goals exact zp_no hz
set_option maxRecDepth 100000 in
theorem zpr_all : ∀ n, n < 310 → (!zprm n || zprK (zP n).2.2.2) = true := by decide +kernel
theorem zpr_K {n : Nat} (h : zprm n = true) : zprK (zP n).2.2.2 = true := by
  have hn : n < 310 := by
    unfold zprm at h
    simp only [Bool.and_eq_true, decide_eq_true_eq] at h
    exact h.2
  have := zpr_all n hn
  rw [h] at this
  exact this
theorem zgo_keep {own : Nat} {ini : Bool} {X : Nat → Int} {XL : Nat} {c : Nat → List zv → zh → zR} {K : zc} (hK : zprK K = true) (hc : ∀ mi as h r, zprm mi = true → c mi as h = some r → r.2.1 = h.1) : ∀ (n : Nat) (cs : zc) (ls st : List zv) (h : zh) (r : Int × zh), cs <:+ K → zgo own ini X XL c K n cs ls st h = some r → r.2.1 = h.1
  | 0, _, _, _, _, _, _, h => by simp [zgo] at h
  | n + 1, [], ls, st, h, r, _, hh => by simp [zgo] at hh
  | n + 1, e :: cs, ls, st, h, r, hs, hh => by
    unfold zgo at hh
    have he : zprI e.2.2.1 e.2.2.2.2 = true := List.all_eq_true.mp hK e (hs.subset List.mem_cons_self)
    cases ho : zs1 own ini X XL e.2.2.1 e.1 e.2.2.2.2 (zkill e.2.1 ls) st h with
    | mk g o =>
    rw [ho] at hh
    unfold zdr at hh
    cases g with
    | false => cases hh
    | true =>
    have hk := zs1_keep he ho
    have hcs : cs <:+ K := (List.suffix_cons e cs).trans hs
    rcases o with ⟨v0, h0⟩ | ⟨bb, t, ls', st', h'⟩ | ⟨rk, mj, as, ls', st', h'⟩ | ⟨x, sl, dd, ls', st', h'⟩
    · have hh : some (v0, h0) = some r := hh
      cases hh
      exact hk
    · have hk : h'.1 = h.1 := hk
      cases bb with
      | true => exact (zgo_keep hK hc n _ _ _ _ _ (zfind_suffix _ _) hh).trans hk
      | false => exact (zgo_keep hK hc n _ _ _ _ _ hcs hh).trans hk
    · have hk : h'.1 = h.1 := hk
      obtain ⟨hci, hcl⟩ : ziscall e.2.2.1 = true ∧ z_cl e.2.2.2.2 (zkill e.2.1 ls) st h = (true, .inr (.inr (.inl (rk, mj, as, ls', st', h')))) := zs1_calp ho
      obtain ⟨k1, k3, -, -, -, keq⟩ := z_cl_call hcl
      simp only [Prod.mk.injEq] at keq
      have hpm : zprm mj = true := by
        rw [keq.2.1]
        have key : (decide (e.2.2.2.2.1 = 0) || (decide (3 < e.2.2.2.2.1) || zprm e.2.2.2.2.2.1)) = true → zprm e.2.2.2.2.2.1 = true := by
          intro q
          simp only [Bool.or_eq_true, decide_eq_true_eq] at q
          rcases q with q | q | q
          · omega
          · omega
          · exact q
        generalize hi : e.2.2.1 = i at he hci
        cases i
        case invokestatic => exact key he
        case invokevirtual => exact key he
        case invokespecial => exact key he
        all_goals cases hci
      simp only [cond_true] at hh
      cases hq : c mj as h' with
      | none => rw [hq] at hh; cases hh
      | some q =>
        rw [hq] at hh
        exact ((zgo_keep hK hc n _ _ _ _ _ hcs hh).trans (hc _ _ _ _ hpm hq)).trans hk
    · have hk : h'.1 = h.1 := hk
      have hh : zswk x (fun t => zgo own ini X XL c K n (zfind K t) ls' st' h') sl dd = some r := hh
      rw [zswk_i] at hh
      exact (zgo_keep hK hc n _ _ _ _ _ (zfind_suffix _ _) hh).trans hk
theorem zcall_keep {X : Nat → Int} {XL F : Nat} : ∀ (d mi : Nat) (as : List zv) (h : zh) (r : Int × zh), zprm mi = true → zcall zP X XL F d mi as h = some r → r.2.1 = h.1
  | 0, _, _, _, _, _, h => by simp [zcall] at h
  | d + 1, mi, as, h, r, hp, hh => by
    unfold zcall at hh
    cases hb : decide ((zent as).length ≤ (zP mi).2.2.1) with
    | false => rw [hb] at hh; cases hh
    | true =>
    rw [hb] at hh
    exact zgo_keep (zpr_K hp) (fun mi as h r hp q => zcall_keep d mi as h r hp q) _ _ _ _ _ _ (List.suffix_refl _) hh
theorem zC_keep {X : Nat → Int} {XL d mi : Nat} {as : List zv} {h : zh} {r : Int × zh} (hp : zprm mi = true) (hh : zC zP X XL d mi as h = some r) : r.2.1 = h.1 := by
  obtain ⟨F, hF⟩ := zC_some.mp hh
  exact zcall_keep d mi as h r hp hF
abbrev Mu : Type := Nat → Nat → Int
abbrev mR : Type := Option (Int × Mu)
abbrev zZ : Type := (Nat → Int) × Nat
def mpr (r : zR) : mR := r.map fun q => (q.1, q.2.2)
noncomputable def mC (z : zZ) (d mi : Nat) (as : List zv) (μ : Mu) : mR := mpr (zC zP z.1 z.2 d mi as (zLAY, μ))
noncomputable def mE (z : zZ) (d : Nat) (M : zM) (pc : Nat) (ls st : List zv) (μ : Mu) : mR := mpr (zE zP z.1 z.2 d M pc ls st (zLAY, μ))
def mdr (C : Nat → List zv → Mu → mR) (o : Bool × zo) (kn : List zv → List zv → Mu → mR) (kj : Nat → List zv → List zv → Mu → mR) : mR :=
  bif o.1 then (match o.2 with
    | .inl (v, h) => some (v, h.2)
    | .inr (.inl (b, t, ls, st, h)) => bif b then kj t ls st h.2 else kn ls st h.2
    | .inr (.inr (.inl (rk, mi, as, ls, st, h))) => (C mi as h.2).bind fun q => kn ls (zps rk q.1 st) q.2
    | .inr (.inr (.inr (x, l, d, ls, st, h))) => zswk x (fun t => kj t ls st h.2) l d) else none
theorem mpr_step {z : zZ} {d : Nat} {M : zM} (hK : zprK M.2.2.2 = true) {e : ze} {cs : zc} (hs : (e :: cs) <:+ M.2.2.2) (ls st : List zv) (μ : Mu) : mpr (zEs zP z.1 z.2 d M (e :: cs) ls st (zLAY, μ)) = mdr (fun mi as μ => mC z d mi as μ) (zs1 M.1 M.2.1 z.1 z.2 e.2.2.1 e.1 e.2.2.2.2 (zkill e.2.1 ls) st (zLAY, μ)) (fun ls st μ => mpr (zEs zP z.1 z.2 d M cs ls st (zLAY, μ))) (fun t ls st μ => mpr (zEs zP z.1 z.2 d M (zfind M.2.2.2 t) ls st (zLAY, μ))) := by
  rw [zEs_cons]
  have he : zprI e.2.2.1 e.2.2.2.2 = true := List.all_eq_true.mp hK e (hs.subset List.mem_cons_self)
  cases ho : zs1 M.1 M.2.1 z.1 z.2 e.2.2.1 e.1 e.2.2.2.2 (zkill e.2.1 ls) st (zLAY, μ) with
  | mk g o =>
  unfold zdr mdr
  cases g with
  | false => rfl
  | true =>
  have hk := zs1_keep he ho
  rcases o with ⟨v0, h0⟩ | ⟨bb, t, ls', st', h'⟩ | ⟨rk, mj, as, ls', st', h'⟩ | ⟨x, sl, dd, ls', st', h'⟩
  · rfl
  · have hk : h'.1 = zLAY := hk
    obtain ⟨L', μ'⟩ := h'
    have hk : L' = zLAY := hk
    subst hk
    cases bb <;> rfl
  · have hk : h'.1 = zLAY := hk
    obtain ⟨L', μ'⟩ := h'
    have hk : L' = zLAY := hk
    subst hk
    obtain ⟨hci, hcl⟩ : ziscall e.2.2.1 = true ∧ z_cl e.2.2.2.2 (zkill e.2.1 ls) st (zLAY, μ) = (true, .inr (.inr (.inl (rk, mj, as, ls', st', (zLAY, μ'))))) := zs1_calp ho
    obtain ⟨k1, k3, -, -, -, keq⟩ := z_cl_call hcl
    simp only [Prod.mk.injEq] at keq
    have hpm : zprm mj = true := by
      rw [keq.2.1]
      have key : (decide (e.2.2.2.2.1 = 0) || (decide (3 < e.2.2.2.2.1) || zprm e.2.2.2.2.2.1)) = true → zprm e.2.2.2.2.2.1 = true := by
        intro q
        simp only [Bool.or_eq_true, decide_eq_true_eq] at q
        rcases q with q | q | q
        · omega
        · omega
        · exact q
      generalize hi : e.2.2.1 = i at he hci
      cases i
      case invokestatic => exact key he
      case invokevirtual => exact key he
      case invokespecial => exact key he
      all_goals cases hci
    simp only [cond_true]
    unfold mC
    cases hq : zC zP z.1 z.2 d mj as (zLAY, μ') with
    | none => rfl
    | some q =>
      obtain ⟨v, L2, μ2⟩ := q
      have h2 : L2 = zLAY := zC_keep hpm hq
      subst h2
      rfl
  · have hk : h'.1 = zLAY := hk
    obtain ⟨L', μ'⟩ := h'
    have hk : L' = zLAY := hk
    subst hk
    show mpr (zswk x _ sl dd) = zswk x _ sl dd
    rw [zswk_i, zswk_i]
/-- a list laid out before it is handed on -/
def znf : List zv → (List zv → mR) → mR
  | [], k => k []
  | (t, v) :: r, k => znf r fun r' => k ((t, v) :: r')
theorem znf_eq : ∀ (ls : List zv) (k : List zv → mR), znf ls k = k ls
  | [], _ => rfl
  | (t, v) :: r, k => by unfold znf; rw [znf_eq r]
def znk (ks : List Nat) : Nat → List zv → (List zv → mR) → mR
  | _, [], k => k []
  | i, (t, v) :: r, k => bif ks.contains i then znk ks (i + 1) r fun r' => k ((9, 0) :: r') else znk ks (i + 1) r fun r' => k ((t, v) :: r')
def zkm (ks : List Nat) : Nat → List zv → List zv
  | _, [] => []
  | i, x :: r => (bif ks.contains i then (9, 0) else x) :: zkm ks (i + 1) r
theorem znk_eq (ks : List Nat) : ∀ (ls : List zv) (i : Nat) (k : List zv → mR), znk ks i ls k = k (zkm ks i ls)
  | [], _, _ => rfl
  | (t, v) :: r, i, k => by
    unfold znk zkm
    cases ks.contains i
    · simp only [cond_false]; rw [znk_eq ks r]
    · simp only [cond_true]; rw [znk_eq ks r]
theorem zkm_nil : ∀ (ls : List zv) (i : Nat), zkm [] i ls = ls
  | [], _ => rfl
  | x :: r, i => by unfold zkm; rw [zkm_nil r]; rfl
theorem zkm_lt {q : Nat} {kl : List Nat} : ∀ (ls : List zv) (i : Nat), q < i → zkm (q :: kl) i ls = zkm kl i ls
  | [], _, _ => rfl
  | x :: r, i, h => by
    unfold zkm
    rw [zkm_lt r (i + 1) (by omega)]
    have e1 : (q :: kl).contains i = kl.contains i := by
      have : ¬ (i = q) := by omega
      simp [this]
    rw [e1]
theorem zkm_cons {q : Nat} {kl : List Nat} : ∀ (ls : List zv) (i : Nat), i ≤ q → zkm (q :: kl) i ls = zkm kl i (ls.set (q - i) (9, 0))
  | [], _, _ => rfl
  | x :: r, i, h => by
    by_cases e : i = q
    · subst e
      have e2 : i - i = 0 := by omega
      rw [e2, List.set_cons_zero]
      unfold zkm
      rw [zkm_lt r (i + 1) (by omega)]
      have e1 : (i :: kl).contains i = true := by simp
      rw [e1]
      cases kl.contains i <;> rfl
    · have e2 : q - i = (q - (i + 1)) + 1 := by omega
      rw [e2, List.set_cons_succ]
      unfold zkm
      rw [zkm_cons r (i + 1) (by omega)]
      have e1 : (q :: kl).contains i = kl.contains i := by simp [e]
      rw [e1]
theorem zkm_kill : ∀ (ks : List Nat) (ls : List zv), zkm ks 0 ls = zkill ks ls
  | [], ls => zkm_nil ls 0
  | q :: kl, ls => by rw [zkm_cons ls 0 (by omega), Nat.sub_zero, zkm_kill kl]; rfl
def zky (ks : List Nat) (ls : List zv) (k : List zv → mR) : mR := match ks with
  | [] => znf ls k
  | q :: kl => znk (q :: kl) 0 ls k
theorem zky_eq (ks : List Nat) (ls : List zv) (k : List zv → mR) : zky ks ls k = k (zkill ks ls) := by
  cases ks with
  | nil => exact znf_eq ls k
  | cons q kl => show znk (q :: kl) 0 ls k = _; rw [znk_eq, zkm_kill]
def mgt (E : Nat → List zv → List zv → Mu → mR) (B : zc → List zv → List zv → Mu → mR) (stops : List Nat) (cs : zc) (ls st : List zv) (μ : Mu) : mR := match cs with
  | [] => none
  | e :: c => bif stops.contains e.1 then zky e.2.1 ls fun ls => E e.1 ls st μ else B (e :: c) ls st μ
def mbk (C : Nat → List zv → Mu → mR) (E : Nat → List zv → List zv → Mu → mR) (own : Nat) (ini : Bool) (z : zZ) (K : zc) (stops : List Nat) : Nat → zc → List zv → List zv → Mu → mR
  | 0, [], _, _, _ => none
  | 0, e :: _, ls, st, μ => E e.1 ls st μ
  | _ + 1, [], _, _, _ => none
  | n + 1, e :: cs, ls, st, μ => zky e.2.1 ls fun ls => znf st fun st => mdr C (zs1 own ini z.1 z.2 e.2.2.1 e.1 e.2.2.2.2 ls st (zLAY, μ)) (fun ls st μ => mgt E (fun cs ls st μ => mbk C E own ini z K stops n cs ls st μ) stops cs ls st μ) (fun t ls st μ => mgt E (fun cs ls st μ => mbk C E own ini z K stops n cs ls st μ) stops (zfind K t) ls st μ)
theorem mbk_eq {z : zZ} {d : Nat} {M : zM} (hK : zprK M.2.2.2 = true) (hi : zinc M.2.2.2 = true) (stops : List Nat) : ∀ (n : Nat) (cs : zc) (ls st : List zv) (μ : Mu), cs <:+ M.2.2.2 → mbk (fun mi as μ => mC z d mi as μ) (fun pc ls st μ => mE z d M pc ls st μ) M.1 M.2.1 z M.2.2.2 stops n cs ls st μ = mpr (zEs zP z.1 z.2 d M cs ls st (zLAY, μ))
  | 0, [], ls, st, μ, _ => by rw [zEs_nil]; rfl
  | 0, e :: cs, ls, st, μ, hs => by
    show mpr (zEs zP z.1 z.2 d M (zfind M.2.2.2 e.1) ls st (zLAY, μ)) = _
    rw [zfind_suf _ _ _ hi hs]
  | n + 1, [], ls, st, μ, _ => by rw [zEs_nil]; rfl
  | n + 1, e :: cs, ls, st, μ, hs => by
    have gt : ∀ (c : zc) (ls st : List zv) (μ : Mu), c <:+ M.2.2.2 → mgt (fun pc ls st μ => mE z d M pc ls st μ) (fun cs ls st μ => mbk (fun mi as μ => mC z d mi as μ) (fun pc ls st μ => mE z d M pc ls st μ) M.1 M.2.1 z M.2.2.2 stops n cs ls st μ) stops c ls st μ = mpr (zEs zP z.1 z.2 d M c ls st (zLAY, μ)) := by
      intro c ls st μ hc
      cases c with
      | nil => rw [zEs_nil]; rfl
      | cons e c =>
        unfold mgt
        cases hst : stops.contains e.1 with
        | true =>
          simp only [hst, cond_true, zky_eq]
          show mpr (zEs zP z.1 z.2 d M (zfind M.2.2.2 e.1) (zkill e.2.1 ls) st (zLAY, μ)) = _
          rw [zfind_suf _ _ _ hi hc, zEs_kill]
        | false =>
          simp only [hst, cond_false]
          exact mbk_eq hK hi stops n _ _ _ _ hc
    rw [mpr_step hK hs]
    unfold mbk
    rw [zky_eq, znf_eq]
    congr 1
    · funext ls st μ
      exact gt _ _ _ _ ((List.suffix_cons e cs).trans hs)
    · funext t ls st μ
      exact gt _ _ _ _ (zfind_suffix _ _)
theorem mE_bk {z : zZ} {d : Nat} {M : zM} (hK : zprK M.2.2.2 = true) (hi : zinc M.2.2.2 = true) (stops : List Nat) (n pc : Nat) (ls st : List zv) (μ : Mu) : mE z d M pc ls st μ = mbk (fun mi as μ => mC z d mi as μ) (fun pc ls st μ => mE z d M pc ls st μ) M.1 M.2.1 z M.2.2.2 stops n (zfind M.2.2.2 pc) ls st μ := (mbk_eq hK hi stops n _ _ _ _ (zfind_suffix _ _)).symm
theorem mC_succ {z : zZ} {d mi : Nat} {as : List zv} {μ : Mu} (M : zM) (hM : zP mi = M) (h0 : zfind M.2.2.2 0 = M.2.2.2) (hl : decide ((zent as).length ≤ M.2.2.1) = true) : mC z (d + 1) mi as μ = mE z d M 0 (zentry M.2.2.1 as) [] μ := by
  subst hM
  unfold mC mE zE
  rw [zC_succ _ _ _ _ _ _ _ hl, h0]
theorem mC_zC {z : zZ} {d mi : Nat} {as : List zv} {μ μ' : Mu} {v : Int} (hp : zprm mi = true) (h : mC z d mi as μ = some (v, μ')) : zC zP z.1 z.2 d mi as (zLAY, μ) = some (v, (zLAY, μ')) := by
  unfold mC mpr at h
  cases hq : zC zP z.1 z.2 d mi as (zLAY, μ) with
  | none => rw [hq] at h; cases h
  | some q =>
    obtain ⟨v2, L2, μ2⟩ := q
    have h2 : L2 = zLAY := zC_keep hp hq
    subst h2
    rw [hq] at h
    cases h
    rfl
