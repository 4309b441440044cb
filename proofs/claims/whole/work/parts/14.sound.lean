/-! what a row of a method's code must be -/
def zrk (k : Nat) (ret : Option FieldType) : Prop := (k = 1 ∧ (ret = some .int ∨ ret = some .boolean)) ∨ (k = 2 ∧ ret = some .long) ∨ (k = 3 ∧ ret = none)
def yPl : MethodName := ⟨"WordWar$LawReader", "placeOf", "(Ljava/lang/String;I)I"⟩
def zOK (nM : Nat) (Y : Nat → MethodName) (O : Nat → Option FieldType) (own : String) (ro : Option FieldType) (i : Instr) (r : zr) : Prop := match i with
  | .getfield idx => r.2.1 < 12 ∧ r.2.2.1 < zN r.2.1 ∧ r.2.2.2 = (zft r.2.1 r.2.2.1 : Int) ∧ Cond.fieldLink own idx (zRc r.2.1) (zT r.2.1 r.2.2.1).2.1 (zT r.2.1 r.2.2.1).2.2.1 ∈ lw_tbl
  | .putfield idx => r.2.1 < 12 ∧ r.2.2.1 < zN r.2.1 ∧ r.2.2.2 = (zft r.2.1 r.2.2.1 : Int) ∧ Cond.fieldLink own idx (zRc r.2.1) (zT r.2.1 r.2.2.1).2.1 (zT r.2.1 r.2.2.1).2.2.1 ∈ lw_tbl
  | .new idx => r.2.1 < 12 ∧ r.2.2.1 = zN r.2.1 ∧ Cond.classLink own idx (zRc r.2.1) ∈ lw_tbl
  | .anewarray idx => 16 ≤ r.2.1 ∧ r.2.1 < 19 ∧ Cond.classLink own idx (zRc (zec r.2.1)) ∈ lw_tbl
  | .ldc idx => (r.1 = 9 → z32 r.2.2.2 ∧ Cond.constant own idx (Int32.ofInt r.2.2.2) ∈ lw_tbl) ∧ (r.1 = 11 → r.2.1 < 6 ∧ own = "WordWar$LawReader" ∧ idx = zsk.getD r.2.1 0)
  | .ldc_w idx => (r.1 = 9 → z32 r.2.2.2 ∧ Cond.constant own idx (Int32.ofInt r.2.2.2) ∈ lw_tbl) ∧ r.1 ≠ 11
  | .ldc2_w idx => z64 r.2.2.2 ∧ Cond.constantLong own idx (Int64.ofInt r.2.2.2) ∈ lw_tbl
  | .invokestatic idx => (r.1 = 14 → Cond.methodLink own idx Lib.Math.min.name ∈ lw_tbl) ∧ (r.1 = 15 → Cond.methodLink own idx Lib.Math.max.name ∈ lw_tbl) ∧ (r.1 = 16 → Cond.methodLink own idx Lib.Math.abs.name ∈ lw_tbl) ∧ (r.1 = 17 → Cond.methodLink own idx Lib.MathLoose.min_long.x ∈ lw_tbl) ∧ r.1 ≠ 4 ∧ (r.1 = 5 → Cond.methodLink own idx arraycopyName ∈ lw_tbl) ∧ (r.1 = 6 → Cond.methodLink own idx yPl ∈ lw_tbl) ∧ (1 ≤ r.1 → r.1 ≤ 3 → r.2.1 < nM ∧ (Cond.methodLink own idx (Y r.2.1) ∈ lw_tbl ∨ ∃ ho, (own, idx, Y r.2.1, ho) ∈ zNest) ∧ Cond.static (Y r.2.1) ∈ lw_g ∧ Cond.initialized (Y r.2.1).cls ∈ lw_g ∧ (parseMethodDescriptor (Y r.2.1).desc).map (fun d => d.parameters.length) = some r.2.2.1 ∧ zrk r.1 (O r.2.1))
  | .invokespecial idx => r.1 ≠ 5 ∧ r.1 ≠ 6 ∧ (r.1 = 4 → Cond.methodLink own idx Lib.objectInit ∈ lw_tbl) ∧ (1 ≤ r.1 → r.1 ≤ 3 → r.1 = 3 ∧ 1 ≤ r.2.2.1 ∧ 0 ≤ r.2.2.2 ∧ r.2.1 < nM ∧ (Cond.methodLink own idx (Y r.2.1) ∈ lw_tbl ∨ ∃ ho, (own, idx, Y r.2.1, ho) ∈ zNest) ∧ Cond.instanceMethod (Y r.2.1) ∈ lw_g ∧ Cond.initialized (Y r.2.1).cls ∈ lw_g ∧ (Y r.2.1).name = "<init>" ∧ (parseMethodDescriptor (Y r.2.1).desc).map (fun d => d.parameters.length) = some (r.2.2.1 - 1) ∧ O r.2.1 = none)
  | .invokevirtual idx => r.1 ≠ 4 ∧ r.1 ≠ 5 ∧ r.1 ≠ 6 ∧ (1 ≤ r.1 → r.1 ≤ 3 → 1 ≤ r.2.2.1 ∧ r.2.1 < nM ∧ Cond.methodLink own idx (Y r.2.1) ∈ lw_tbl ∧ Cond.instanceMethod (Y r.2.1) ∈ lw_g ∧ Cond.selects (Y r.2.1).cls (Y r.2.1) (Y r.2.1) ∈ lw_g ∧ Cond.initialized (Y r.2.1).cls ∈ lw_g ∧ (parseMethodDescriptor (Y r.2.1).desc).map (fun d => d.parameters.length) = some (r.2.2.1 - 1) ∧ zrk r.1 (O r.2.1) ∧ ∃ ci : Nat, ci < 12 ∧ r.2.2.2 = (ci : Int) ∧ (Y r.2.1).cls = zRc ci)
  | .ireturn => (r.2.1 = 0 ∧ ro = some .int) ∨ (r.2.1 = 1 ∧ ro = some .boolean)
  | .lreturn => ro = some .long
  | .return_ => ro = none
  | _ => True
def zln (i : Instr) : Nat := match i with
  | .bipush _ => 2
  | .ldc _ => 2
  | .iload _ => 2
  | .lload _ => 2
  | .aload _ => 2
  | .istore _ => 2
  | .lstore _ => 2
  | .astore _ => 2
  | .newarray _ => 2
  | .sipush _ => 3
  | .ldc_w _ => 3
  | .ldc2_w _ => 3
  | .iinc _ _ => 3
  | .ifCond _ _ => 3
  | .if_icmp _ _ => 3
  | .goto _ => 3
  | .getfield _ => 3
  | .putfield _ => 3
  | .invokestatic _ => 3
  | .invokevirtual _ => 3
  | .invokespecial _ => 3
  | .new _ => 3
  | .anewarray _ => 3
  | .tableswitch _ _ _ _ => 0
  | .lookupswitch _ _ => 0
  | _ => 1
def zRow (nM : Nat) (P : Nat → zM) (Y : Nat → MethodName) (B : Nat → ByteArray) (O : Nat → Option FieldType) (mi : Nat) : Prop :=
  ((P mi).1 < 12 → zRc (P mi).1 = (Y mi).cls) ∧ (zfind (P mi).2.2.2 0 = (P mi).2.2.2) ∧
  (∀ e cs, (e :: cs) <:+ (P mi).2.2.2 → decode (B mi) e.1 = .ok (e.2.2.1, e.2.2.2.1) ∧ zOK nM Y O (Y mi).cls (O mi) e.2.2.1 e.2.2.2.2 ∧ (zln e.2.2.1 = 0 ∨ zln e.2.2.1 = e.2.2.2.1) ∧ ∀ e2 cs2, cs = e2 :: cs2 → e2.1 = e.1 + e.2.2.2.1)
def zMok (nM : Nat) (P : Nat → zM) (Y : Nat → MethodName) (B : Nat → ByteArray) (O : Nat → Option FieldType) (mi : Nat) : Prop :=
  plainName (Y mi).cls = true ∧ ((Y mi).cls ≠ "java/lang/invoke/MethodHandle" ∧ (Y mi).cls ≠ "java/lang/invoke/VarHandle") ∧ Cond.code (Y mi) (B mi) (P mi).2.2.1 (O mi) ∈ lw_g ∧ (P mi).2.2.1 ≤ 41 ∧ ((P mi).2.1 = true → (Y mi).name = "<init>") ∧ zRow nM P Y B O mi
theorem zfind_head : ∀ (K : zc) (t : Nat) (e : ze) (cs : zc), zfind K t = e :: cs → e.1 = t
  | [], t, e, cs, h => by cases h
  | k :: K, t, e, cs, h => by
    unfold zfind at h
    cases hb : k.1 == t with
    | true =>
      rw [hb] at h
      cases h
      exact beq_iff_eq.mp hb
    | false =>
      rw [hb] at h
      exact zfind_head K t e cs h
def znorc (o : zo) : Prop := match o with
  | .inl _ => False
  | .inr (.inr (.inl _)) => False
  | _ => True
theorem z_mt_h {r : zr} {ls st : List zv} {h : zh} {o : zo} (hz : z_mt r ls st h = (true, o)) : ∃ b t ls' st', o = .inr (.inl (b, t, ls', st', h)) := by
  have ng : ∀ {g : Bool} {ls' st' : List zv}, zng g ls' st' h = (true, o) → ∃ b t ls' st', o = .inr (.inl (b, t, ls', st', h)) := fun q => ⟨_, _, _, _, ((Prod.mk.injEq _ _ _ _).mp q).2.symm⟩
  unfold z_mt at hz
  split at hz
  · split at hz
    · exact ng hz
    · simp [zno] at hz
  · split at hz
    · exact ng hz
    · simp [zno] at hz
  · split at hz
    · exact ng hz
    · simp [zno] at hz
  · split at hz
    · exact ng hz
    · simp [zno] at hz
  · simp [zno] at hz
theorem z_cl6 {r : zr} {ls st : List zv} {h : zh} {o : zo} (h6 : r.1 = 6) (hz : z_cl r ls st h = (true, o)) : ∃ (i x : Int) (s : List zv), st = (0, x) :: (3, i) :: s ∧ 0 ≤ i ∧ i < 6 ∧ zcat s ≤ 8 ∧ o = .inr (.inl (false, 0, ls, (0, zpl i x) :: s, h)) := by
  unfold z_cl at hz
  split at hz
  · omega
  · omega
  · split at hz
    · rename_i t x u i st
      simp only [zng, Prod.mk.injEq, Bool.and_eq_true, beq_iff_eq, decide_eq_true_eq] at hz
      obtain ⟨⟨rfl, rfl, hi0, hi6, hcat⟩, rfl⟩ := hz
      exact ⟨_, _, _, rfl, hi0, hi6, hcat, rfl⟩
    · simp [zno] at hz
  · rename_i h4 h5 h6'
    exact absurd h6 h6'
section Sound
variable {p : Program} {l : Launch} {e : Env} {R : Room} {s : State} {m : MethodId} {args : Array Value} {below : List Frame} {meth : Method} {c : Code} {Q : State → Prop}
variable {N0 b XL c0 s0 maxL pc : Nat} {aC dC : Nat → ClassId} {dI : Nat → Nat → Nat} {adK : Nat → Nat} {X : Nat → Int} {cc : ByteArray} {own : String} {ls st : List zv} {h : zh} {o : zo}
/-- a step that is no call and no end -/
theorem zstep_ok {nM : Nat} {Y : Nat → MethodName} {O : Nat → Option FieldType} {ro : Option FieldType} {oc len : Nat} {ini : Bool} {i : Instr} {r : zr} (Fx : zFx p s m args c N0 b XL maxL aC dC dI adK X cc own) (hN : s.heap.size = N0 + c0) (hf : 1 ≤ R.frames) (hlo : 60 ≤ R.locals) (hini : ini = true → meth.name = "<init>") (hoc : oc < 12 → zRc oc = own) (hml : ls.length ≤ maxL) (hd : decode cc pc = .ok (i, len)) (hlen : zln i = 0 ∨ zln i = len) (hOK : zOK nM Y O own ro i r)
    (hz : zs1 oc ini X XL i pc r ls st h = (true, o)) (hno : znorc o) (hpl : ∀ (i : Nat) (x : Int) (rest : List zv) (idx : Nat), i < 6 → st = (0, x) :: (3, (i : Int)) :: rest → zcat rest ≤ 8 → Cond.methodLink own idx yPl ∈ lw_tbl → decode cc pc = .ok (.invokestatic idx, 3) → zWP p l e R s m args below meth c Q N0 b c0 s0 maxL aC dC dI adK (pc + 3) ls ((0, zpl i x) :: rest) h → zWP p l e R s m args below meth c Q N0 b c0 s0 maxL aC dC dI adK pc ls st h)
    (hR : ∀ b t ls' st' h', o = .inr (.inl (b, t, ls', st', h')) → h'.1.length - c0 ≤ R.cells ∧ zsz h' - s0 ≤ R.slots) (kk : zcont (zWP p l e R s m args below meth c Q N0 b c0 s0 maxL aC dC dI adK) (pc + len) o) : zWP p l e R s m args below meth c Q N0 b c0 s0 maxL aC dC dI adK pc ls st h := by
  have hx := Fx.1
  have hb := Fx.2.1
  have hcl : ∀ {r : zr}, 1 ≤ r.1 → r.1 ≤ 3 → z_cl r ls st h = (true, o) → False := by
    intro r h1 h3 q
    unfold z_cl at q
    split at q
    · omega
    · omega
    · omega
    · have h1 := ((Prod.mk.injEq _ _ _ _).mp q).2
      subst h1
      exact hno
  have hcl0 : ∀ {r : zr}, r.1 ≠ 4 → r.1 ≠ 5 → r.1 ≠ 6 → z_cl r ls st h = (true, o) → False := by
    intro r h1 h3 h6 q
    unfold z_cl at q
    split at q
    · omega
    · omega
    · omega
    · have h1 := ((Prod.mk.injEq _ _ _ _).mp q).2
      subst h1
      exact hno
  cases i
  case iconst n =>
    obtain rfl : len = 1 := hlen.elim (fun q => absurd (show 1 = 0 from q) (by decide)) (fun q => q.symm)
    have hz : zng (decide (-128 ≤ n) && decide (n ≤ 127)) ls ((0, n) :: st) h = (true, o) := hz
    have hg := ((Prod.mk.injEq _ _ _ _).mp hz).1
    simp only [Bool.and_eq_true, decide_eq_true_eq] at hg
    exact zi_push (0, n) _ (zoki (by unfold z32; omega)) (fun H locs cells slots lsR rest k => lv_iconst hx hb hd rfl k) hz kk
  case bipush n =>
    obtain rfl : len = 2 := hlen.elim (fun q => absurd (show 2 = 0 from q) (by decide)) (fun q => q.symm)
    have hz : zng (decide (-128 ≤ n) && decide (n ≤ 127)) ls ((0, n) :: st) h = (true, o) := hz
    have hg := ((Prod.mk.injEq _ _ _ _).mp hz).1
    simp only [Bool.and_eq_true, decide_eq_true_eq] at hg
    have hn : z32 n := by unfold z32; omega
    exact zi_push (0, n) _ (zoki hn) (fun H locs cells slots lsR rest k => lv_bipush hx hb hd (by apply Int32.toInt_inj.mp; rw [Int8.toInt_toInt32, zt_o hn, Int8.toInt_ofInt_of_le (by omega) (by omega)]) k) hz kk
  case sipush n =>
    obtain rfl : len = 3 := hlen.elim (fun q => absurd (show 3 = 0 from q) (by decide)) (fun q => q.symm)
    have hz : zng (decide (-32768 ≤ n) && decide (n ≤ 32767)) ls ((0, n) :: st) h = (true, o) := hz
    have hg := ((Prod.mk.injEq _ _ _ _).mp hz).1
    simp only [Bool.and_eq_true, decide_eq_true_eq] at hg
    have hn : z32 n := by unfold z32; omega
    exact zi_push (0, n) _ (zoki hn) (fun H locs cells slots lsR rest k => lv_sipush hx hb hd (by apply Int32.toInt_inj.mp; rw [Int16.toInt_toInt32, zt_o hn, Int16.toInt_ofInt_of_le (by omega) (by omega)]) k) hz kk
  case lconst n =>
    obtain rfl : len = 1 := hlen.elim (fun q => absurd (show 1 = 0 from q) (by decide)) (fun q => q.symm)
    have hn : z64 (n.val : Int) := by unfold z64; omega
    exact zi_push (1, (n.val : Int)) true (zokl hn) (fun H locs cells slots lsR rest k => lv_lconst hx hb hd Int64.ofInt_eq_ofNat.symm k) hz kk
  case ldc idx =>
    obtain rfl : len = 2 := hlen.elim (fun q => absurd (show 2 = 0 from q) (by decide)) (fun q => q.symm)
    dsimp only [zs1] at hz
    split at hz
    · rename_i h9
      obtain ⟨g1, g2⟩ := hOK.1 h9
      exact zi_push (0, r.2.2.2) true (zoki g1) (fun H locs cells slots lsR rest k => lv_ldc hx hb Fx.2.2.2.1 (Fx.2.2.2.2.1 _ (zg_in g2 rfl)) hd k) hz kk
    · rename_i h11
      obtain ⟨g1, g2, g3⟩ := hOK.2 h11
      subst g3
      have hS := Fx.2.2.2.2.2.2.1.1 r.2.1 g1
      rw [← g2] at hS
      refine zi_push (3, (r.2.1 : Int)) true ⟨fun q => (by cases q), fun q => (by cases q), fun q => (by cases q)⟩ (fun H locs cells slots lsR rest k => va_ldcS hx hb Fx.2.2.2.1 hS hd ?_) hz kk
      exact k
    · simp [zno] at hz
  case ldc_w idx =>
    obtain rfl : len = 3 := hlen.elim (fun q => absurd (show 3 = 0 from q) (by decide)) (fun q => q.symm)
    dsimp only [zs1] at hz
    split at hz
    · rename_i h9
      obtain ⟨g1, g2⟩ := hOK.1 h9
      exact zi_push (0, r.2.2.2) true (zoki g1) (fun H locs cells slots lsR rest k => lv_ldcw hx hb Fx.2.2.2.1 (Fx.2.2.2.2.1 _ (zg_in g2 rfl)) hd k) hz kk
    · rename_i h11
      exact absurd h11 hOK.2
    · simp [zno] at hz
  case ldc2_w idx =>
    obtain rfl : len = 3 := hlen.elim (fun q => absurd (show 3 = 0 from q) (by decide)) (fun q => q.symm)
    dsimp only [zs1] at hz
    split at hz
    · exact zi_push (1, r.2.2.2) true (zokl hOK.1) (fun H locs cells slots lsR rest k => lv_ldc2 hx hb Fx.2.2.2.1 (Fx.2.2.2.2.1 _ (zg_in hOK.2 rfl)) hd k) hz kk
    · simp [zno] at hz
  case iload n =>
    obtain rfl : len = 2 := hlen.elim (fun q => absurd (show 2 = 0 from q) (by decide)) (fun q => q.symm)
    exact zi_ld 0 n (by decide) (fun H locs cells slots lsR rest x hv k => lv_iload hx hb hd hv k) hz kk
  case lload n =>
    obtain rfl : len = 2 := hlen.elim (fun q => absurd (show 2 = 0 from q) (by decide)) (fun q => q.symm)
    exact zi_ld 1 n (by decide) (fun H locs cells slots lsR rest x hv k => lv_lload hx hb hd hv k) hz kk
  case iload_n n =>
    obtain rfl : len = 1 := hlen.elim (fun q => absurd (show 1 = 0 from q) (by decide)) (fun q => q.symm)
    exact zi_ld 0 n.val (by decide) (fun H locs cells slots lsR rest x hv k => lv_iload_n hx hb hd rfl hv k) hz kk
  case lload_n n =>
    obtain rfl : len = 1 := hlen.elim (fun q => absurd (show 1 = 0 from q) (by decide)) (fun q => q.symm)
    exact zi_ld 1 n.val (by decide) (fun H locs cells slots lsR rest x hv k => lv_lload_n hx hb hd rfl hv k) hz kk
  case aload n =>
    obtain rfl : len = 2 := hlen.elim (fun q => absurd (show 2 = 0 from q) (by decide)) (fun q => q.symm)
    exact zi_lda n (fun H locs cells slots lsR rest x hv k => lv_aload hx hb hd hv k) hz kk
  case aload_n n =>
    obtain rfl : len = 1 := hlen.elim (fun q => absurd (show 1 = 0 from q) (by decide)) (fun q => q.symm)
    exact zi_lda n.val (fun H locs cells slots lsR rest x hv k => lv_aload_n hx hb hd rfl hv k) hz kk
  case istore n =>
    obtain rfl : len = 2 := hlen.elim (fun q => absurd (show 2 = 0 from q) (by decide)) (fun q => q.symm)
    exact zi_sti n (fun H locs cells slots lsR rest x lv hv hn k => lv_istore hx hb hd hv hn rfl k) hml hz kk
  case istore_n n =>
    obtain rfl : len = 1 := hlen.elim (fun q => absurd (show 1 = 0 from q) (by decide)) (fun q => q.symm)
    exact zi_sti n.val (fun H locs cells slots lsR rest x lv hv hn k => lv_istore_n hx hb hd rfl hv hn rfl k) hml hz kk
  case lstore n =>
    obtain rfl : len = 2 := hlen.elim (fun q => absurd (show 2 = 0 from q) (by decide)) (fun q => q.symm)
    exact zi_stl n (fun H locs cells slots lsR rest x lv hv hn k => lv_lstore hx hb hd hv hn rfl k) hml hz kk
  case lstore_n n =>
    obtain rfl : len = 1 := hlen.elim (fun q => absurd (show 1 = 0 from q) (by decide)) (fun q => q.symm)
    exact zi_stl n.val (fun H locs cells slots lsR rest x lv hv hn k => lv_lstore_n hx hb hd rfl hv hn rfl k) hml hz kk
  case astore n =>
    obtain rfl : len = 2 := hlen.elim (fun q => absurd (show 2 = 0 from q) (by decide)) (fun q => q.symm)
    exact zi_sta n (fun H locs cells slots lsR rest x lv hv hn k => lv_astore hx hb hd hv hn rfl k) hml hz kk
  case astore_n n =>
    obtain rfl : len = 1 := hlen.elim (fun q => absurd (show 1 = 0 from q) (by decide)) (fun q => q.symm)
    exact zi_sta n.val (fun H locs cells slots lsR rest x lv hv hn k => lv_astore_n hx hb hd rfl hv hn rfl k) hml hz kk
  case iinc n c =>
    obtain rfl : len = 3 := hlen.elim (fun q => absurd (show 3 = 0 from q) (by decide)) (fun q => q.symm)
    exact zi_iinc n c Fx hd hml hz kk
  case dup =>
    obtain rfl : len = 1 := hlen.elim (fun q => absurd (show 1 = 0 from q) (by decide)) (fun q => q.symm)
    exact zi_dup Fx hd hz kk
  case dup2 =>
    obtain rfl : len = 1 := hlen.elim (fun q => absurd (show 1 = 0 from q) (by decide)) (fun q => q.symm)
    exact zi_dup2 Fx hd hz kk
  case pop =>
    obtain rfl : len = 1 := hlen.elim (fun q => absurd (show 1 = 0 from q) (by decide)) (fun q => q.symm)
    exact zi_pop Fx hd hz kk
  case iadd =>
    obtain rfl : len = 1 := hlen.elim (fun q => absurd (show 1 = 0 from q) (by decide)) (fun q => q.symm)
    exact zi_b2 _ (fun x y => x + y) (fun H locs cells slots lsR rest x y k => lv_iadd hx hb hd k) (fun x y _ _ => by rw [zo_w, Int32.ofInt_add]) (fun x y _ _ => zw_32 _) hz kk
  case isub =>
    obtain rfl : len = 1 := hlen.elim (fun q => absurd (show 1 = 0 from q) (by decide)) (fun q => q.symm)
    exact zi_b2 _ (fun x y => x - y) (fun H locs cells slots lsR rest x y k => lv_isub hx hb hd k) (fun x y _ _ => by rw [zo_w, Int32.ofInt_sub]) (fun x y _ _ => zw_32 _) hz kk
  case imul =>
    obtain rfl : len = 1 := hlen.elim (fun q => absurd (show 1 = 0 from q) (by decide)) (fun q => q.symm)
    exact zi_b2 _ (fun x y => x * y) (fun H locs cells slots lsR rest x y k => lv_imul hx hb hd k) (fun x y _ _ => by rw [zo_w, Int32.ofInt_mul]) (fun x y _ _ => zw_32 _) hz kk
  case iand =>
    obtain rfl : len = 1 := hlen.elim (fun q => absurd (show 1 = 0 from q) (by decide)) (fun q => q.symm)
    exact zi_b2 _ (fun x y => x &&& y) (fun H locs cells slots lsR rest x y k => lv_iand hx hb hd k) (fun x y _ _ => Int32.ofInt_toInt _) (fun x y _ _ => z32_t _) hz kk
  case ior =>
    obtain rfl : len = 1 := hlen.elim (fun q => absurd (show 1 = 0 from q) (by decide)) (fun q => q.symm)
    exact zi_b2 _ (fun x y => x ||| y) (fun H locs cells slots lsR rest x y k => lv_ior hx hb hd k) (fun x y _ _ => Int32.ofInt_toInt _) (fun x y _ _ => z32_t _) hz kk
  case ixor =>
    obtain rfl : len = 1 := hlen.elim (fun q => absurd (show 1 = 0 from q) (by decide)) (fun q => q.symm)
    exact zi_b2 _ (fun x y => x ^^^ y) (fun H locs cells slots lsR rest x y k => lv_ixor hx hb hd k) (fun x y _ _ => Int32.ofInt_toInt _) (fun x y _ _ => z32_t _) hz kk
  case ishl =>
    obtain rfl : len = 1 := hlen.elim (fun q => absurd (show 1 = 0 from q) (by decide)) (fun q => q.symm)
    exact zi_b2 _ (fun x y => x <<< (y &&& 31)) (fun H locs cells slots lsR rest x y k => lv_ishl hx hb hd k) (fun x y _ _ => Int32.ofInt_toInt _) (fun x y _ _ => z32_t _) hz kk
  case ishr =>
    obtain rfl : len = 1 := hlen.elim (fun q => absurd (show 1 = 0 from q) (by decide)) (fun q => q.symm)
    exact zi_b2 _ (fun x y => x >>> (y &&& 31)) (fun H locs cells slots lsR rest x y k => lv_ishr hx hb hd k) (fun x y _ _ => Int32.ofInt_toInt _) (fun x y _ _ => z32_t _) hz kk
  case iushr =>
    obtain rfl : len = 1 := hlen.elim (fun q => absurd (show 1 = 0 from q) (by decide)) (fun q => q.symm)
    exact zi_b2 _ (fun x y => (x.toUInt32 >>> (y.toUInt32 &&& Int32.toUInt32 31)).toInt32) (fun H locs cells slots lsR rest x y k => lv_iushr hx hb hd rfl k) (fun x y _ _ => Int32.ofInt_toInt _) (fun x y _ _ => z32_t _) hz kk
  case idiv =>
    obtain rfl : len = 1 := hlen.elim (fun q => absurd (show 1 = 0 from q) (by decide)) (fun q => q.symm)
    exact zi_b2g _ (fun x y => x / y) (fun H locs cells slots lsR rest x y hne k => lv_idiv hx hb hd hne k) (fun x y h1 h2 => zo_div h1 h2) (fun x y _ _ => zw_32 _) hz kk
  case irem =>
    obtain rfl : len = 1 := hlen.elim (fun q => absurd (show 1 = 0 from q) (by decide)) (fun q => q.symm)
    exact zi_b2g _ (fun x y => x - x / y * y) (fun H locs cells slots lsR rest x y hne k => lv_irem hx hb hd hne k) (fun x y h1 h2 => zo_rem h1 h2) (fun x y h1 _ => zrem_32 h1) hz kk
  case ineg =>
    obtain rfl : len = 1 := hlen.elim (fun q => absurd (show 1 = 0 from q) (by decide)) (fun q => q.symm)
    exact zi_u1 0 0 (fun x => zw (-x)) (fun x _ => zoki (zw_32 _)) (fun H locs cells slots lsR rest x hok k => lv_ineg hx hb hd (by rw [← Int32.ofInt_neg, ← zo_w]; exact k)) hz kk
  case i2b =>
    obtain rfl : len = 1 := hlen.elim (fun q => absurd (show 1 = 0 from q) (by decide)) (fun q => q.symm)
    exact zi_u1 0 0 z_i2b (fun x _ => zoki (z32_t _)) (fun H locs cells slots lsR rest x hok k => lv_i2b hx hb hd (v := Int32.ofInt (z_i2b x)) (by unfold z_i2b; rw [Int32.ofInt_toInt]) k) hz kk
  case i2l =>
    obtain rfl : len = 1 := hlen.elim (fun q => absurd (show 1 = 0 from q) (by decide)) (fun q => q.symm)
    exact zi_u1 0 1 (fun x => x) (fun x hok => zokl (by have := hok.1 rfl; unfold z32 at this; unfold z64; simp only at this ⊢; omega)) (fun H locs cells slots lsR rest x hok k => lv_i2l hx hb hd (v := Int64.ofInt x) (by apply Int64.toInt_inj.mp; have h3 := hok.1 rfl; simp only at h3; rw [Int32.toInt_toInt64, zt_o h3, zt_ol (by unfold z32 at h3; unfold z64; omega)]) k) hz kk
  case ladd =>
    obtain rfl : len = 1 := hlen.elim (fun q => absurd (show 1 = 0 from q) (by decide)) (fun q => q.symm)
    exact zi_l2 _ (fun x y => x + y) (fun H locs cells slots lsR rest x y k => lv_ladd hx hb hd k) (fun x y => by rw [zo_wl, Int64.ofInt_add]) (fun x y => zwl_64 _) hz kk
  case lsub =>
    obtain rfl : len = 1 := hlen.elim (fun q => absurd (show 1 = 0 from q) (by decide)) (fun q => q.symm)
    exact zi_l2 _ (fun x y => x - y) (fun H locs cells slots lsR rest x y k => lv_lsub hx hb hd k) (fun x y => by rw [zo_wl, Int64.ofInt_sub]) (fun x y => zwl_64 _) hz kk
  case lmul =>
    obtain rfl : len = 1 := hlen.elim (fun q => absurd (show 1 = 0 from q) (by decide)) (fun q => q.symm)
    exact zi_l2 _ (fun x y => x * y) (fun H locs cells slots lsR rest x y k => lv_lmul hx hb hd k) (fun x y => by rw [zo_wl, Int64.ofInt_mul]) (fun x y => zwl_64 _) hz kk
  case land =>
    obtain rfl : len = 1 := hlen.elim (fun q => absurd (show 1 = 0 from q) (by decide)) (fun q => q.symm)
    exact zi_l2 _ (fun x y => x &&& y) (fun H locs cells slots lsR rest x y k => lv_land hx hb hd k) (fun x y => Int64.ofInt_toInt _) (fun x y => z64_t _) hz kk
  case lor =>
    obtain rfl : len = 1 := hlen.elim (fun q => absurd (show 1 = 0 from q) (by decide)) (fun q => q.symm)
    exact zi_l2 _ (fun x y => x ||| y) (fun H locs cells slots lsR rest x y k => lv_lor hx hb hd k) (fun x y => Int64.ofInt_toInt _) (fun x y => z64_t _) hz kk
  case lshl =>
    obtain rfl : len = 1 := hlen.elim (fun q => absurd (show 1 = 0 from q) (by decide)) (fun q => q.symm)
    exact zi_u2 0 1 1 z_lshl (fun x y _ _ => zokl (z64_t _)) (fun H locs cells slots lsR rest x y _ _ k => lv_lshl hx hb hd (v := Int64.ofInt (z_lshl x y)) (by unfold z_lshl; rw [Int64.ofInt_toInt]) k) hz kk
  case lcmp =>
    obtain rfl : len = 1 := hlen.elim (fun q => absurd (show 1 = 0 from q) (by decide)) (fun q => q.symm)
    refine zi_u2 1 1 0 z_lcmp (fun x y _ _ => zoki (by unfold z_lcmp z32; split <;> (try split) <;> omega)) (fun H locs cells slots lsR rest x y hy hx2 k => W.lcmp hx hb hd ?_) hz kk
    have e : lg_cmp (Int64.ofInt x) (Int64.ofInt y) = Int32.ofInt (z_lcmp x y) := by
      have h1 := hx2.2.1 rfl
      have h2 := hy.2.1 rfl
      simp only at h1 h2
      unfold lg_cmp z_lcmp
      have l1 : Int64.ofInt x < Int64.ofInt y ↔ x < y := by rw [Int64.lt_iff_toInt_lt, zt_ol h1, zt_ol h2]
      have l2 : Int64.ofInt y < Int64.ofInt x ↔ y < x := by rw [Int64.lt_iff_toInt_lt, zt_ol h1, zt_ol h2]
      have l3 : Int64.ofInt x = Int64.ofInt y ↔ x = y := by rw [← Int64.toInt_inj, zt_ol h1, zt_ol h2]
      simp only [l1, l2, l3]
      rcases Int.lt_trichotomy x y with q | q | q
      · have q1 : ¬ y < x := by omega
        have q2 : ¬ x = y := by omega
        simp [q, q1, q2]
      · subst q; simp
      · have q1 : ¬ x < y := by omega
        have q2 : ¬ x = y := by omega
        simp [q, q1, q2]
    rw [e]
    exact k
  case ifCond c off =>
    obtain rfl : len = 3 := hlen.elim (fun q => absurd (show 3 = 0 from q) (by decide)) (fun q => q.symm)
    exact zi_if c off r Fx hd hz kk
  case if_icmp c off =>
    obtain rfl : len = 3 := hlen.elim (fun q => absurd (show 3 = 0 from q) (by decide)) (fun q => q.symm)
    exact zi_icmp c off r Fx hd hz kk
  case goto off =>
    obtain rfl : len = 3 := hlen.elim (fun q => absurd (show 3 = 0 from q) (by decide)) (fun q => q.symm)
    have hz : (decide ((pc : Int) + off = (r.2.1 : Int)), (.inr (.inl (true, r.2.1, ls, st, h)) : zo)) = (true, o) := hz
    obtain ⟨g1, g2⟩ := (Prod.mk.injEq _ _ _ _).mp hz
    have g1 := of_decide_eq_true g1
    subst g2
    intro H lsR locs hP hI hl hs hls hc hz hS
    exact lv_goto hx hb hd g1 (kk.1 rfl H lsR locs hP hI hl hs hls hc hz hS)
  case tableswitch d lo hi offs => exact zi_table d lo hi offs len Fx hd hz kk
  case lookupswitch d ps => exact zi_lookup d ps len Fx hd hz kk
  case getfield idx =>
    obtain rfl : len = 3 := hlen.elim (fun q => absurd (show 3 = 0 from q) (by decide)) (fun q => q.symm)
    exact zi_get idx r Fx hd hOK.1 hOK.2.1 hOK.2.2.1 hOK.2.2.2 hz kk
  case putfield idx =>
    obtain rfl : len = 3 := hlen.elim (fun q => absurd (show 3 = 0 from q) (by decide)) (fun q => q.symm)
    exact zi_put oc ini idx r Fx hini hoc hd hOK.1 hOK.2.1 hOK.2.2.1 hOK.2.2.2 hz kk
  case iaload =>
    obtain rfl : len = 1 := hlen.elim (fun q => absurd (show 1 = 0 from q) (by decide)) (fun q => q.symm)
    exact zi_iald Fx hd hz kk
  case laload =>
    obtain rfl : len = 1 := hlen.elim (fun q => absurd (show 1 = 0 from q) (by decide)) (fun q => q.symm)
    exact zi_lald Fx hd hz kk
  case baload =>
    obtain rfl : len = 1 := hlen.elim (fun q => absurd (show 1 = 0 from q) (by decide)) (fun q => q.symm)
    exact zi_bald r Fx hd hz kk
  case aaload =>
    obtain rfl : len = 1 := hlen.elim (fun q => absurd (show 1 = 0 from q) (by decide)) (fun q => q.symm)
    exact zi_aald Fx hd hz kk
  case iastore =>
    obtain rfl : len = 1 := hlen.elim (fun q => absurd (show 1 = 0 from q) (by decide)) (fun q => q.symm)
    exact zi_iast Fx hd hz kk
  case lastore =>
    obtain rfl : len = 1 := hlen.elim (fun q => absurd (show 1 = 0 from q) (by decide)) (fun q => q.symm)
    exact zi_last Fx hd hz kk
  case bastore =>
    obtain rfl : len = 1 := hlen.elim (fun q => absurd (show 1 = 0 from q) (by decide)) (fun q => q.symm)
    exact zi_bast r Fx hd hz kk
  case aastore =>
    obtain rfl : len = 1 := hlen.elim (fun q => absurd (show 1 = 0 from q) (by decide)) (fun q => q.symm)
    exact zi_aast Fx hd hz kk
  case arraylength =>
    obtain rfl : len = 1 := hlen.elim (fun q => absurd (show 1 = 0 from q) (by decide)) (fun q => q.symm)
    exact zi_len Fx hd hz kk
  case newarray a =>
    obtain rfl : len = 2 := hlen.elim (fun q => absurd (show 2 = 0 from q) (by decide)) (fun q => q.symm)
    cases a
    case int => exact zi_newa 12 .int .int Fx hN hd (by decide) (by decide) rfl zarrw.1 rfl (fun n cA => rfl) (fun n hn => by show n * 4 ≤ 536870912; omega) hz hR kk
    case long => exact zi_newa 13 .long .long Fx hN hd (by decide) (by decide) rfl zarrw.2.1 rfl (fun n cA => rfl) (fun n hn => by show n * 8 ≤ 536870912; omega) hz hR kk
    case byte => exact zi_newa 14 .byte .byte Fx hN hd (by decide) (by decide) rfl zarrw.2.2.1 rfl (fun n cA => rfl) (fun n hn => by show n * 1 ≤ 536870912; omega) hz hR kk
    case boolean => exact zi_newa 15 .boolean .boolean Fx hN hd (by decide) (by decide) rfl zarrw.2.2.2 rfl (fun n cA => rfl) (fun n hn => by show n * 1 ≤ 536870912; omega) hz hR kk
    all_goals simp [zs1, zno] at hz
  case anewarray idx =>
    obtain rfl : len = 3 := hlen.elim (fun q => absurd (show 3 = 0 from q) (by decide)) (fun q => q.symm)
    exact zi_newq idx r Fx hN hd hOK.1 hOK.2.1 hOK.2.2 hz hR kk
  case new idx =>
    obtain rfl : len = 3 := hlen.elim (fun q => absurd (show 3 = 0 from q) (by decide)) (fun q => q.symm)
    exact zi_new idx r Fx hN hd hOK.1 hOK.2.1 hOK.2.2 hz hR kk
  case invokestatic idx =>
    obtain rfl : len = 3 := hlen.elim (fun q => absurd (show 3 = 0 from q) (by decide)) (fun q => q.symm)
    obtain ⟨g14, g15, g16, g17, hOK⟩ := hOK
    have hz : z_is r ls st h = (true, o) := hz
    unfold z_is at hz
    cases h14 : decide (14 ≤ r.1) with
    | true =>
      rw [h14] at hz
      have hz : z_mt r ls st h = (true, o) := hz
      have hh : ∃ b t ls' st', o = .inr (.inl (b, t, ls', st', h)) := z_mt_h hz
      obtain ⟨_, _, _, _, ho⟩ := hh
      obtain ⟨r1, r2⟩ := hR _ _ _ _ _ ho
      exact zi_math idx r Fx hf hlo r1 r2 hd g14 g15 g16 g17 hz kk
    | false =>
    rw [h14] at hz
    have hz : z_cl r ls st h = (true, o) := hz
    by_cases h5 : r.1 = 5
    · unfold z_cl at hz
      rw [h5] at hz
      exact zi_copy idx Fx hf hlo hd (hOK.2.1 h5) hz kk
    · by_cases h6 : r.1 = 6
      · obtain ⟨i, x, st', rfl, hi0, hi6, hcat, rfl⟩ := z_cl6 h6 hz
        have hi : ((i.toNat : Nat) : Int) = i := by omega
        refine hpl i.toNat x st' idx (by omega) (by rw [hi]) hcat (hOK.2.2.1 h6) hd ?_
        rw [hi]
        exact kk.2 rfl
      · exact absurd hz (fun q => hcl0 hOK.1 h5 h6 q)
  case invokespecial idx =>
    obtain rfl : len = 3 := hlen.elim (fun q => absurd (show 3 = 0 from q) (by decide)) (fun q => q.symm)
    have hz : z_cl r ls st h = (true, o) := hz
    by_cases h4 : r.1 = 4
    · unfold z_cl at hz
      rw [h4] at hz
      exact zi_obj idx Fx hf hlo hd (hOK.2.2.1 h4) hz kk
    · exact absurd hz (fun q => hcl0 h4 hOK.1 hOK.2.1 q)
  case invokevirtual idx => exact absurd hz (fun q => hcl0 hOK.1 hOK.2.1 hOK.2.2.1 q)
  case ireturn =>
    dsimp only [zs1] at hz
    split at hz
    · obtain rfl := ((Prod.mk.injEq _ _ _ _).mp hz).2
      exact absurd hno (fun q => q)
    · simp [zno] at hz
  case lreturn =>
    dsimp only [zs1] at hz
    split at hz
    · obtain rfl := ((Prod.mk.injEq _ _ _ _).mp hz).2
      exact absurd hno (fun q => q)
    · simp [zno] at hz
  case return_ =>
    dsimp only [zs1] at hz
    split at hz
    · obtain rfl := ((Prod.mk.injEq _ _ _ _).mp hz).2
      exact absurd hno (fun q => q)
    · simp [zno] at hz
  all_goals exact absurd hz (by simp [zs1, zno])
end Sound
