def R_law : String := "WordWarLaw"
def lw_P (b : Addr) (xs : List Int32) (args : Array Value) (s : State) : Prop := args = #[.ref b] ∧ s.IntsAt b xs ∧ xs.length ≤ 3072 ∧ (Jvm.Cond.and given_1 narrow_1).before args s = true
def lw_Q (_ : Array Value) (s : State) (o : Outcome) (t : State) : Prop := o = .returned (some (.int 1)) ∧ Framed s o t [] 600000 7302250
def lw_Z (below : List Frame) (a : Array Value) (s : State) : State → Prop := fun t => ∃ o, t.status = .running ∧ Ended t below o ∧ lw_Q a s o t
/-- the law's own end, with 1 on the stack, nothing written that was there before, its room as the claim has it -/
theorem lw_ret {p : Program} {l : Launch} {e : Env} {s : State} {m : MethodId} {below : List Frame} {meth : Method} {c : Code} {b : Nat} (hx : p.tables.exec = Jvm.exec) (hb : c.code = code) (hr : meth.sig.returnType = ret) (hlocks : meth.locks = false) {pc : Nat} {H : Heap} {ls : Array Slot} (hdg : decode code pc = .ok (.ireturn, 1)) : W p l e room_1 s m #[Value.ref b] below meth c H [] 600000 7302250 (lw_Z below #[Value.ref b] s) (F0 m pc ls [.int 1]) := by
  intro T hT X
  obtain ⟨fs, hret, hrun, hended, hW, hframe⟩ := X.leave (v := some (.int 1)) (hlocks := hlocks) (fun h => by rw [hr] at h; cases h)
  have hmeth' : T.vm.method? m = some meth := X.method'
  refine ⟨T.setFrames fs, ?_, .returned (some (.int 1)), hrun, hended, rfl, ⟨_, rfl⟩, hW, hframe⟩
  jvm_step X.here [X.here.top, hx, hb, hdg, hmeth', hr, ret, narrow_b1]
  (try refine ⟨rfl, ?_⟩); (try refine ⟨rfl, ?_⟩)
  first | (intro acts; rw [hret _ acts rfl rfl rfl]) | rw [hret _ _ rfl rfl rfl]
  exact Steps.refl _
/-- what holds at the law's entry: the machine, the code, the tables' words (any of lw_tbl by 'hts w (by decide +kernel)'), the script of L ints xs at the cell b, what the Statement gives of the start (any of its parts by flat_of_before) -/
def lw_At (p : Program) (s : State) (m : MethodId) (meth : Method) (c : Code) (b L : Nat) (xs : Nat → Int32) : Prop :=
  p.tables.exec = Jvm.exec ∧ c.code = code ∧ meth.sig.returnType = ret ∧ c.maxLocals = 4 ∧ s.vm.findClass R_law = some m.cls ∧ (∀ w ∈ lw_tbl, w.before #[Value.ref b] s = true) ∧ va_X b L xs s s.heap ∧ b < s.heap.size ∧ meth.locks = false ∧ (Jvm.Cond.and given_1 narrow_1).before #[Value.ref b] s = true
theorem zNest_in : ∀ q ∈ zNest, Cond.methodLinkNest q.1 q.2.1 q.2.2.1 q.2.2.2 ∈ lw_tbl := by
  intro q hq
  unfold zNest at hq
  simp only [List.mem_cons, List.not_mem_nil, or_false] at hq
  rcases hq with rfl | rfl | rfl | rfl | rfl | rfl | rfl | rfl | rfl | rfl | rfl | rfl | rfl | rfl | rfl | rfl | rfl | rfl
  · exact zseg_in (j := 1) (List.mem_of_getElem? (i := 32) (by decide +kernel))
  · exact zseg_in (j := 1) (List.mem_of_getElem? (i := 72) (by decide +kernel))
  · exact zseg_in (j := 1) (List.mem_of_getElem? (i := 122) (by decide +kernel))
  · exact zseg_in (j := 1) (List.mem_of_getElem? (i := 164) (by decide +kernel))
  · exact zseg_in (j := 1) (List.mem_of_getElem? (i := 187) (by decide +kernel))
  · exact zseg_in (j := 1) (List.mem_of_getElem? (i := 200) (by decide +kernel))
  · exact zseg_in (j := 2) (List.mem_of_getElem? (i := 0) (by decide +kernel))
  · exact zseg_in (j := 2) (List.mem_of_getElem? (i := 18) (by decide +kernel))
  · exact zseg_in (j := 2) (List.mem_of_getElem? (i := 56) (by decide +kernel))
  · exact zseg_in (j := 2) (List.mem_of_getElem? (i := 89) (by decide +kernel))
  · exact zseg_in (j := 2) (List.mem_of_getElem? (i := 196) (by decide +kernel))
  · exact zseg_in (j := 2) (List.mem_of_getElem? (i := 197) (by decide +kernel))
  · exact zseg_in (j := 2) (List.mem_of_getElem? (i := 216) (by decide +kernel))
  · exact zseg_in (j := 4) (List.mem_of_getElem? (i := 31) (by decide +kernel))
  · exact zseg_in (j := 4) (List.mem_of_getElem? (i := 167) (by decide +kernel))
  · exact zseg_in (j := 5) (List.mem_of_getElem? (i := 14) (by decide +kernel))
  · exact zseg_in (j := 5) (List.mem_of_getElem? (i := 48) (by decide +kernel))
  · exact zseg_in (j := 5) (List.mem_of_getElem? (i := 157) (by decide +kernel))
theorem zsref : ∀ i, i < 6 → Cond.stringRef "WordWar$LawReader" (zsk.getD i 0) (zstx.getD i "") ∈ lw_tbl := by
  intro i hi
  match i, hi with
  | 0, _ => exact zseg_in (j := 3) (List.mem_of_getElem? (i := 64) (by decide +kernel))
  | 1, _ => exact zseg_in (j := 3) (List.mem_of_getElem? (i := 129) (by decide +kernel))
  | 2, _ => exact zseg_in (j := 3) (List.mem_of_getElem? (i := 170) (by decide +kernel))
  | 3, _ => exact zseg_in (j := 3) (List.mem_of_getElem? (i := 153) (by decide +kernel))
  | 4, _ => exact zseg_in (j := 3) (List.mem_of_getElem? (i := 147) (by decide +kernel))
  | 5, _ => exact zseg_in (j := 3) (List.mem_of_getElem? (i := 152) (by decide +kernel))
  | i + 6, h => exact absurd h (by omega)
theorem zstat : Cond.laysStatic "java/lang/String" "COMPACT_STRINGS" "Z" ∈ lw_tbl ∧ Cond.initialized "java/lang/String" ∈ lw_tbl ∧ Cond.laysStatic "jdk/internal/util/Preconditions" "SIOOBE_FORMATTER" "Ljava/util/function/BiFunction;" ∈ lw_tbl ∧ Cond.initialized "jdk/internal/util/Preconditions" ∈ lw_tbl := ⟨zseg_in (j := 3) (List.mem_of_getElem? (i := 77) (by decide +kernel)), zseg_in (j := 1) (List.mem_of_getElem? (i := 17) (by decide +kernel)), zseg_in (j := 3) (List.mem_of_getElem? (i := 93) (by decide +kernel)), zseg_in (j := 1) (List.mem_of_getElem? (i := 19) (by decide +kernel))⟩
/-! the law's entry: what the start gives, and the claim out of our machine's run -/
def ztm (i : Nat) : Term := Term.string "WordWar$LawReader" (zsk.getD i 0)
def zfl : List Jvm.Cond := flatC (Jvm.Cond.and given_1 narrow_1)
set_option maxRecDepth 100000 in
theorem zfl_1 : ∀ i, i < 6 → Cond.exactly (ztm i) "java/lang/String" ∈ zfl ∧ Cond.eq (.field (ztm i) "java/lang/String" "coder" "B") (.int 0) ∈ zfl ∧ Cond.arrayOf (.field (ztm i) "java/lang/String" "value" "[B") .byte ∈ zfl ∧ Cond.eq (.length (.field (ztm i) "java/lang/String" "value" "[B")) (.int (Int32.ofNat (zlenS.getD i 0))) ∈ zfl := by decide +kernel
set_option maxRecDepth 100000 in
theorem zfl_2 : ∀ i, i < 6 → ∀ j, j < zlenS.getD i 0 → Cond.eq (.elem (.field (ztm i) "java/lang/String" "value" "[B") (.int (Int32.ofNat j))) (.int ((zbytS.getD i []).getD j 0)) ∈ zfl := by decide +kernel
set_option maxRecDepth 100000 in
theorem zfl_3 : ∀ i, i < 6 → ∀ j, j < 6 → i ≠ j → Cond.not (Cond.eq (ztm i) (ztm j)) ∈ zfl ∨ Cond.not (Cond.eq (ztm j) (ztm i)) ∈ zfl := by decide +kernel
set_option maxRecDepth 100000 in
theorem zfl_4 : Cond.eq (.static "java/lang/String" "COMPACT_STRINGS" "Z") (.int 1) ∈ zfl ∧ Cond.isRef (.static "jdk/internal/util/Preconditions" "SIOOBE_FORMATTER" "Ljava/util/function/BiFunction;") ∈ zfl := by decide +kernel
theorem zArr {s : State} {args : Array Value} (hts : ∀ w ∈ lw_tbl, w.before args s = true) : ∃ aC : Nat → ClassId, ∀ (k : Nat) (q : ClassId × FieldType), (ztys aC)[k]? = some q → ArrOfT s q.1 q.2 ∧ va_RA s q.1 q.2 := by
  have prim : ∀ ty : FieldType, (∀ C, ty ≠ .object C) → Cond.arrayClass ty ∈ lw_tbl → ∃ cA, ArrOfT s cA ty ∧ va_RA s cA ty := by
    intro ty hno hw
    obtain ⟨c, k, comp, h1, h2, h3⟩ := Cond.arrayClass_spec (hts _ hw)
    refine ⟨c, fun n z => ⟨fun k h => (by cases h), k, h2, comp, h3⟩, ?_⟩
    cases ty <;> first | exact h1 | exact absurd rfl (hno _)
  have obj : ∀ C : String, Cond.arrayOver (.object C) ∈ lw_tbl → ∃ cA, ArrOfT s cA (.object C) ∧ va_RA s cA (.object C) := by
    intro C hw
    obtain ⟨comp, c, k, h1, h2, h3, h4, h5⟩ := Cond.arrayOver_spec (hts _ hw)
    exact ⟨c, fun n z => ⟨fun k h => (by cases h), k, h3, comp, h4⟩, k, comp, h3, h4, h1, h5⟩
  have un : ∀ {w : Cond}, w ∈ lw_g → w ∈ lw_tbl := fun h => (List.mem_filter.mp h).1
  obtain ⟨a12, p12⟩ := prim .int (fun _ h => by cases h) (un zarrw.1)
  obtain ⟨a13, p13⟩ := prim .long (fun _ h => by cases h) (un zarrw.2.1)
  obtain ⟨a14, p14⟩ := prim .byte (fun _ h => by cases h) (un zarrw.2.2.1)
  obtain ⟨a15, p15⟩ := prim .boolean (fun _ h => by cases h) (un zarrw.2.2.2)
  obtain ⟨a16, p16⟩ := obj _ zarrq.1
  obtain ⟨a17, p17⟩ := obj _ zarrq.2.1
  obtain ⟨a18, p18⟩ := obj _ zarrq.2.2
  refine ⟨fun k => match k with | 12 => a12 | 13 => a13 | 14 => a14 | 15 => a15 | 16 => a16 | 17 => a17 | _ => a18, fun k q hq => ?_⟩
  match k, hq with
  | 0, hq => cases hq; exact p12
  | 1, hq => cases hq; exact p13
  | 2, hq => cases hq; exact p14
  | 3, hq => cases hq; exact p15
  | 4, hq => cases hq; exact p16
  | 5, hq => cases hq; exact p17
  | 6, hq => cases hq; exact p18
  | k + 7, hq => simp [ztys] at hq
theorem zKn {s : State} {args : Array Value} (hts : ∀ w ∈ lw_tbl, w.before args s = true) : ∃ (dC : Nat → ClassId) (dI : Nat → Nat → Nat), ∀ (c : Nat) (q : vw_C), zcls[c]? = some q → u_Kn s q.1 q.2.1 q.2.2 (dC c) (dI c) := by
  have h : ∀ c : Nat, ∃ q : ClassId × (Nat → Nat), c < 12 → u_Kn s (zRc c) (zT c) (zN c) q.1 q.2 := by
    intro c
    by_cases hc : c < 12
    · obtain ⟨cC, iS, hk⟩ := u_known (ws := lw_g) (fun w hw => hts w (List.mem_filter.mp hw).1) (zin_all hc) (hts _ (List.mem_filter.mp (zinst hc).1).1)
      exact ⟨(cC, iS), fun _ => hk⟩
    · exact ⟨(0, fun _ => 0), fun q => absurd q hc⟩
  obtain ⟨f, hf⟩ := Classical.axiomOfChoice h
  refine ⟨fun c => (f c).1, fun c => (f c).2, fun c q hq => ?_⟩
  have hc : c < 12 := by
    have := (List.getElem?_eq_some_iff.mp hq).1
    simpa [zcls] using this
  rw [zcls_get hc] at hq
  cases hq
  exact hf c hc
theorem zCx {s : State} {b : Nat} (hts : ∀ w ∈ lw_tbl, w.before #[Value.ref b] s = true) (hgv : (Jvm.Cond.and given_1 narrow_1).before #[Value.ref b] s = true) : ∃ adK : Nat → Nat, zcx s.heap.size adK s := by
  have hs := flat_of_before _ hgv
  have hA : ∀ a : Nat, a < s.heap.size → ¬ (fun q => s.heap.size ≤ q) a := fun a ha => Nat.not_le.mpr ha
  obtain ⟨adK, adV, hS, hev⟩ := vk_Sof (args := #[Value.ref b]) (s := s) (N := 6) (tm := ztm) (len := zlenS) (byt := zbytS) (A := fun q => s.heap.size ≤ q) (fun i hi => Nat.lt_trans (zlenS_ok i hi) (by decide)) (fun i hi => hs _ (zfl_1 i hi).1) (fun i hi => hs _ (zfl_1 i hi).2.1) (fun i hi => hs _ (zfl_1 i hi).2.2.1) (fun i hi => hs _ (zfl_1 i hi).2.2.2) (fun i hi j hj => hs _ (zfl_2 i hi j hj)) (fun i j hi hj hne => (zfl_3 i hi j hj hne).elim (fun q => Or.inl (hs _ q)) (fun q => Or.inr (hs _ q))) hA
  refine ⟨adK, fun i hi => ?_, fun q hq => va_Nw.of rfl (hts _ (zNest_in q hq)), va_AO.of (hts _ zarrq.1), va_AO.of (hts _ zarrq.2.1), va_AO.of (hts _ zarrq.2.2), adV, hS, ?_, ?_⟩
  · exact vk_R.of (hts _ (zsref i hi)) (hev i hi)
  · exact va_Zof (hts _ zstat.1) (hts _ zstat.2.1) (va_eqt (hs _ zfl_4.1)) hA
  · exact va_Zqof (hts _ zstat.2.2.1) (hts _ zstat.2.2.2) (hs _ zfl_4.2) hA
/-- the claim's walk out of a run of our machine -/
theorem zwhole {p : Program} {e : Env} {s : State} {m : MethodId} {below : List Frame} {meth : Method} {c : Code} (l : Launch) {b L : Nat} {xs : Nat → Int32} (hL : L ≤ 3072) (C0 : lw_At p s m meth c b L xs) {d F : Nat} {hv : zh} (hd : d ≤ 1000) (hl1 : hv.1.length ≤ 600000) (hl2 : zsz hv ≤ 7302250)
    (hrun : zgo 99 false (fun j => (xs j).toInt) L (fun mi as h => zcall zP (fun j => (xs j).toInt) L F d mi as h) q_L_law.2.2.2 F q_L_law.2.2.2 [(4, 0), (9, 0), (9, 0), (9, 0)] [] ([], fun _ _ => 0) = some (1, hv)) :
    W p l e room_1 s m #[Value.ref b] below meth c s.heap [] 0 0 (lw_Z below #[Value.ref b] s) (entryFrame m ([Value.ref b] : List Value).toArray 4) := by
  obtain ⟨hx, hb, hr, hml, hown, hts, hX, hbl, hlocks, hgv⟩ := id C0
  obtain ⟨dC, dI, hKc⟩ := zKn hts
  obtain ⟨aC, hKa⟩ := zArr hts
  obtain ⟨adK, hcx⟩ := zCx hts hgv
  have hX32 : ∀ j, z32 (xs j).toInt := fun j => z32_t _
  have hXs : va_X b L (fun j => Int32.ofInt (xs j).toInt) s s.heap := by
    have : (fun j => Int32.ofInt (xs j).toInt) = xs := by funext j; exact Int32.ofInt_toInt _
    rw [this]; exact hX
  have Fx : zFx p s m #[Value.ref b] c s.heap.size b L 4 aC dC dI adK (fun j => (xs j).toInt) code "WordWarLaw" := ⟨hx, hb, hml, hown, fun w hw => hts w (List.mem_filter.mp hw).1, ⟨hKc, hKa⟩, hcx, hXs, hbl, hbl, Nat.le_refl _, hX32, hL⟩
  have ih := zsound (l := l) (N0 := s.heap.size) (b := b) (XL := L) (aC := aC) (dC := dC) (dI := dI) (adK := adK) (X := fun j => (xs j).toInt) (nM := znM) (P := zP) (Y := zY) (B := zB) (O := zO) (F := F) (Bp := bS_pl) (mp := 3) hbl hX32 hL zAll zplM d
  have key := zgo_ok (p := p) (l := l) (e := e) (R := room_1) (s := s) (m := m) (args := #[Value.ref b]) (below := below) (meth := meth) (c := c) (Q := lw_Z below #[Value.ref b] s) (N0 := s.heap.size) (b := b) (XL := L) (c0 := 0) (s0 := 0) (maxL := 4) (aC := aC) (dC := dC) (dI := dI) (adK := adK) (X := fun j => (xs j).toInt) (cc := code) (own := "WordWarLaw") (nM := znM) (mi := znM) (F := F) (d := d) (P := zP) (Y := zY) (B := zB) (O := zO) (Bp := bS_pl) (mp := 3) (v := 1) (hv := hv) rfl rfl rfl Fx rfl (by show d + 9 ≤ 2048; omega) (by show 60 * (d + 9) ≤ 84000; omega) (by show hv.1.length - 0 ≤ 600000; omega) (by show zsz hv - 0 ≤ 7302250; omega) (fun q => by cases q) zLawRow zAll ih zplM (fun pc len ls st h i r hdd hln hOK hz => ?_) F
  · have hK0 : (zP znM).2.2.2 = q_L_law.2.2.2 := rfl
    cases hq : q_L_law.2.2.2 with
    | nil => cases hq
    | cons e1 cs =>
      have he1 : e1.1 = 0 := zfind_head _ 0 e1 cs (zLawRow.2.1.trans (hK0.trans hq))
      rw [hq] at hrun
      have k2 := key e1 cs [(4, 0), (9, 0), (9, 0), (9, 0)] [] ([], fun _ _ => 0) (by rw [hK0, hq]; exact List.suffix_refl _) (by decide) (by rw [hK0, hq]; exact hrun)
      rw [he1] at k2
      rw [lg_entry_eq]
      have hl := lv_entry ([.ref b]) (n := 4) (Nat.le_of_ble_eq_true rfl)
      exact k2 s.heap _ [] (fun k q h => by simp [zwd] at h) (fun k hk => absurd hk (Nat.not_lt_zero k)) (lv_has_sub hl (fun q hq => by
        obtain ⟨i, w, h1, h2, rfl⟩ := (zlv_mem _ _ _).mp hq
        match i, h1 with
        | 0, h1 => cases h1; exact List.mem_cons_self
        | 1, h1 => cases h1; exact absurd rfl h2
        | 2, h1 => cases h1; exact absurd rfl h2
        | 3, h1 => cases h1; exact absurd rfl h2
        | i + 4, h1 => simp at h1)) (fun w hw => absurd hw List.not_mem_nil) (fun w hw => by
        simp only [List.mem_cons, List.not_mem_nil, or_false] at hw
        rcases hw with rfl | rfl | rfl | rfl
        · exact ⟨fun q => (by cases q), fun q => (by cases q), fun q => (by cases q)⟩
        · exact zok9
        · exact zok9
        · exact zok9) (Nat.le_refl _) (Nat.le_refl _) va_S.rf
  · have hend := zs1_end hz
    have hh : hv = h := zs1_grow hz
    subst hh
    have hfin : ∀ (H : Heap) (lsR : Array Slot) (locs : List Loc), decode code pc = .ok (.ireturn, 1) → va_S (fun q => s.heap.size ≤ q) s.heap H locs → W p l e room_1 s m #[Value.ref b] below meth c H locs (hv.1.length - 0) (zsz hv - 0) (lw_Z below #[Value.ref b] s) (F0 m pc lsR [.int 1]) := by
      intro H lsR locs hdd hS
      exact va_forget hS.2.2 (W.widen (k := 600000) (n := 7302250) (by omega) (by omega) (lw_ret hx hb hr hlocks hdd))
    cases i
    case ireturn =>
      obtain rfl : len = 1 := hln.elim (fun q => absurd (show 1 = 0 from q) (by decide)) (fun q => q.symm)
      dsimp only [zs1] at hz
      split at hz
      · rename_i t x
        simp only [Prod.mk.injEq, Sum.inl.injEq, and_true] at hz
        obtain ⟨hg, rfl⟩ := hz
        have ht : t = 0 := by
          simp only [Bool.and_eq_true, beq_iff_eq] at hg
          exact hg.1
        subst ht
        intro H lsR locs hP hI hl hs hls hc hz hS
        exact hfin H lsR locs hdd hS
      · simp [zno] at hz
    case lreturn => exact absurd (show some FieldType.boolean = some .long from hOK) (by decide)
    case return_ => exact absurd (show some FieldType.boolean = none from hOK) (by decide)
    all_goals cases hend
