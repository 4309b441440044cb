section Go
variable {p : Program} {l : Launch} {e : Env} {R : Room} {s : State} {m : MethodId} {args : Array Value} {below : List Frame} {meth : Method} {c : Code} {Q : State → Prop}
variable {N0 b XL c0 s0 maxL pc : Nat} {aC dC : Nat → ClassId} {dI : Nat → Nat → Nat} {adK : Nat → Nat} {X : Nat → Int} {cc : ByteArray} {own : String} {ls st : List zv} {h : zh} {o : zo}
/-- a method's end -/
theorem zret_ok {nM : Nat} {Y : Nat → MethodName} {O : Nat → Option FieldType} {ro : Option FieldType} {oc len rk : Nat} {ini : Bool} {i : Instr} {r : zr} {v : Int} {hv : zh} (Fx : zFx p s m args c N0 b XL maxL aC dC dI adK X cc own) (hro : meth.sig.returnType = ro) (hlocks : meth.locks = false) (hrk : zrk rk ro) (hd : decode cc pc = .ok (i, len)) (hlen : zln i = 0 ∨ zln i = len) (hOK : zOK nM Y O own ro i r)
    (hz : zs1 oc ini X XL i pc r ls st h = (true, .inl (v, hv))) : zWP p l e R s m args below meth c (MQ below (zQc N0 aC dC dI rk v hv) args s (hv.1.length - c0) (zsz hv - s0) (fun q => N0 ≤ q)) N0 b c0 s0 maxL aC dC dI adK pc ls st h := by
  have hx := Fx.1
  have hb := Fx.2.1
  have hh : hv = h := zs1_grow hz
  subst hh
  cases i
  case ireturn =>
    obtain rfl : len = 1 := hlen.elim (fun q => absurd (show 1 = 0 from q) (by decide)) (fun q => q.symm)
    dsimp only [zs1] at hz
    split at hz
    · rename_i t x
      simp only [Prod.mk.injEq, Bool.and_eq_true, Bool.or_eq_true, beq_iff_eq, decide_eq_true_eq, Sum.inl.injEq, and_true] at hz
      obtain ⟨⟨rfl, hb01⟩, rfl⟩ := hz
      intro H lsR locs hP hI hl hs hls hc hz hS
      have hx32 : z32 x := (hs (0, x) List.mem_cons_self).1 rfl
      have hrk1 : rk = 1 := by
        rcases hOK with ⟨-, q⟩ | ⟨-, q⟩ <;> rcases hrk with ⟨g, -⟩ | ⟨-, g⟩ | ⟨-, g⟩ <;> first | exact g | (rw [q] at g; cases g)
      subst hrk1
      have hq : ∀ t : State, t.heap = H → s.WarmedH t.vm → zQc N0 aC dC dI 1 x hv args s (.returned (some (.int (Int32.ofInt x)))) t := fun t ht _ => ⟨rfl, by rw [ht]; exact hP, hS.F ht, hI, fun _ => hx32, fun q => by cases q⟩
      rcases hOK with ⟨-, q⟩ | ⟨q1, q⟩
      · exact W.iret hx hb (hro.trans q) hq hS.2.2 hd hlocks
      · rw [q1] at hb01
        have h01 : x = 0 ∨ x = 1 := by
          rcases hb01 with g | g
          · cases g
          · exact g
        exact W.zret (ty := .boolean) hx hb (hro.trans q) (by rcases h01 with rfl | rfl <;> rfl) hq hS.2.2 hd hlocks
    · simp [zno] at hz
  case lreturn =>
    obtain rfl : len = 1 := hlen.elim (fun q => absurd (show 1 = 0 from q) (by decide)) (fun q => q.symm)
    dsimp only [zs1] at hz
    split at hz
    · rename_i t x
      simp only [Prod.mk.injEq, beq_iff_eq, Sum.inl.injEq, and_true] at hz
      obtain ⟨rfl, rfl⟩ := hz
      intro H lsR locs hP hI hl hs hls hc hz hS
      have hx64 : z64 x := (hs (1, x) List.mem_cons_self).2.1 rfl
      have q : ro = some .long := hOK
      have hrk1 : rk = 2 := by
        rcases hrk with ⟨-, g | g⟩ | ⟨g, -⟩ | ⟨-, g⟩ <;> first | exact g | (rw [q] at g; cases g)
      subst hrk1
      exact W.lret hx hb (hro.trans q) (fun t ht _ => ⟨rfl, by rw [ht]; exact hP, hS.F ht, hI, ⟨fun (q : (2 : Nat) = 1) => absurd q (by decide), fun _ => hx64⟩⟩) hS.2.2 hd hlocks
    · simp [zno] at hz
  case return_ =>
    obtain rfl : len = 1 := hlen.elim (fun q => absurd (show 1 = 0 from q) (by decide)) (fun q => q.symm)
    dsimp only [zs1] at hz
    split at hz
    · intro H lsR locs hP hI hl hs hls hc hz' hS
      have q : ro = none := hOK
      have hrk1 : rk = 3 := by
        rcases hrk with ⟨-, g | g⟩ | ⟨-, g⟩ | ⟨g, -⟩ <;> first | exact g | (rw [q] at g; cases g)
      subst hrk1
      exact W.vret hx hb (hro.trans q) (fun t ht _ => ⟨rfl, by rw [ht]; exact hP, hS.F ht, hI, ⟨fun (q : (3 : Nat) = 1) => absurd q (by decide), fun (q : (3 : Nat) = 2) => absurd q (by decide)⟩⟩) hS.2.2 hd hlocks
    · simp [zno] at hz
  all_goals exact absurd (zs1_end hz) (by simp [zisret])
/-- the tables of the program, and what its methods keep to at a depth -/
def zIH (l : Launch) (N0 b XL : Nat) (aC dC : Nat → ClassId) (dI : Nat → Nat → Nat) (adK : Nat → Nat) (X : Nat → Int) (nM : Nat) (P : Nat → zM) (Y : Nat → MethodName) (B : Nat → ByteArray) (O : Nat → Option FieldType) (F d : Nat) : Prop := ∀ (j : Nat) (as : List zv) (h : zh) (v : Int) (h2 : zh) (rk : Nat), j < nM → zcall P X XL F d j as h = some (v, h2) → zinv h → (∀ a ∈ as, zvok h a) → zrk rk (O j) → zMet l N0 b XL aC dC dI adK X (Y j) (B j) (P j).2.2.1 (O j) rk (d + 8) as h v h2
def zPlM (l : Launch) (N0 b XL : Nat) (aC dC : Nat → ClassId) (dI : Nat → Nat → Nat) (adK : Nat → Nat) (X : Nat → Int) (B : ByteArray) (mL : Nat) : Prop := Cond.code yPl B mL (some .int) ∈ lw_g ∧ Cond.static yPl ∈ lw_g ∧ Cond.initialized yPl.cls ∈ lw_g ∧ mL ≤ 41 ∧ ∀ (i : Nat) (x : Int) (h : zh), i < 6 → z32 x → zinv h → zMet l N0 b XL aC dC dI adK X yPl B mL (some .int) 1 7 [(3, (i : Int)), (0, x)] h (zpl i x) h
theorem zgo_ok {nM mi F d : Nat} {P : Nat → zM} {Y : Nat → MethodName} {B : Nat → ByteArray} {O : Nat → Option FieldType} {Bp : ByteArray} {mp : Nat} {v : Int} {hv : zh} (hcc : cc = B mi) (hown : own = (Y mi).cls) (hmL : maxL = (P mi).2.2.1) (Fx : zFx p s m args c N0 b XL maxL aC dC dI adK X cc own) (hN : s.heap.size = N0 + c0) (hf : d + 9 ≤ R.frames) (hlo : 60 * (d + 9) ≤ R.locals) (hR1 : hv.1.length - c0 ≤ R.cells) (hR2 : zsz hv - s0 ≤ R.slots) (hnm : (P mi).2.1 = true → meth.name = "<init>") (hM : zRow nM P Y B O mi) (hA : ∀ j, j < nM → zMok nM P Y B O j) (hIH : zIH l N0 b XL aC dC dI adK X nM P Y B O F d) (hpl : zPlM l N0 b XL aC dC dI adK X Bp mp)
    (hret : ∀ (pc len : Nat) (ls st : List zv) (h : zh) (i : Instr) (r : zr), decode cc pc = .ok (i, len) → (zln i = 0 ∨ zln i = len) → zOK nM Y O own (O mi) i r → zs1 (P mi).1 (P mi).2.1 X XL i pc r ls st h = (true, .inl (v, hv)) → zWP p l e R s m args below meth c Q N0 b c0 s0 maxL aC dC dI adK pc ls st h) :
    ∀ (n : Nat) (e1 : ze) (cs : zc) (ls st : List zv) (h : zh), (e1 :: cs) <:+ (P mi).2.2.2 → ls.length ≤ maxL → zgo (P mi).1 (P mi).2.1 X XL (fun mi as h => zcall P X XL F d mi as h) (P mi).2.2.2 n (e1 :: cs) ls st h = some (v, hv) → zWP p l e R s m args below meth c Q N0 b c0 s0 maxL aC dC dI adK e1.1 ls st h
  | 0, e1, cs, ls, st, h, _, _, hg => by simp [zgo] at hg
  | n + 1, e1, cs, ls, st, h, hsuf, hll, hg => by
    unfold zgo at hg
    obtain ⟨hoc, -, hrows⟩ := id hM
    obtain ⟨hd, hOK, hlen, hnx⟩ := hrows e1 cs hsuf
    rw [← hcc] at hd
    rw [← hown] at hOK
    have hk : zWP p l e R s m args below meth c Q N0 b c0 s0 maxL aC dC dI adK e1.1 (zkill e1.2.1 ls) st h → zWP p l e R s m args below meth c Q N0 b c0 s0 maxL aC dC dI adK e1.1 ls st h := fun k H lsR locs hP hI hl hs hls hc hz hS => k H lsR locs hP hI (lv_has_sub hl zlv_kill) hs (zok_kill hls) hc hz hS
    apply hk
    have hll : (zkill e1.2.1 ls).length ≤ maxL := by rw [zkill_len]; exact hll
    generalize zkill e1.2.1 ls = ls at hg hll
    cases ho : zs1 (P mi).1 (P mi).2.1 X XL e1.2.2.1 e1.1 e1.2.2.2.2 ls st h with
    | mk g o =>
    rw [ho] at hg
    unfold zdr at hg
    cases g with
    | false => cases hg
    | true =>
    have hgrow := zs1_grow ho
    have hsame := zs1_len ho
    have next : ∀ (ls' st' : List zv) (h' : zh), ls'.length ≤ maxL → zgo (P mi).1 (P mi).2.1 X XL (fun mi as h => zcall P X XL F d mi as h) (P mi).2.2.2 n cs ls' st' h' = some (v, hv) → zWP p l e R s m args below meth c Q N0 b c0 s0 maxL aC dC dI adK (e1.1 + e1.2.2.2.1) ls' st' h' := by
      intro ls' st' h' hl' hg'
      cases cs with
      | nil => cases n <;> simp [zgo] at hg'
      | cons e2 cs2 =>
        have := zgo_ok hcc hown hmL Fx hN hf hlo hR1 hR2 hnm hM hA hIH hpl hret n e2 cs2 ls' st' h' ((List.suffix_cons e1 (e2 :: cs2)).trans hsuf) hl' hg'
        rw [hnx e2 cs2 rfl] at this
        exact this
    have jump : ∀ (t : Nat) (ls' st' : List zv) (h' : zh), ls'.length ≤ maxL → zgo (P mi).1 (P mi).2.1 X XL (fun mi as h => zcall P X XL F d mi as h) (P mi).2.2.2 n (zfind (P mi).2.2.2 t) ls' st' h' = some (v, hv) → zWP p l e R s m args below meth c Q N0 b c0 s0 maxL aC dC dI adK t ls' st' h' := by
      intro t ls' st' h' hl' hg'
      cases hfd : zfind (P mi).2.2.2 t with
      | nil => rw [hfd] at hg'; cases n <;> simp [zgo] at hg'
      | cons e2 cs2 =>
        rw [hfd] at hg'
        have := zgo_ok hcc hown hmL Fx hN hf hlo hR1 hR2 hnm hM hA hIH hpl hret n e2 cs2 ls' st' h' (by rw [← hfd]; exact zfind_suffix _ _) hl' hg'
        rw [zfind_head _ _ _ _ hfd] at this
        exact this
    have grows : ∀ (cs' : zc) (ls' st' : List zv) (h' : zh), zgo (P mi).1 (P mi).2.1 X XL (fun mi as h => zcall P X XL F d mi as h) (P mi).2.2.2 n cs' ls' st' h' = some (v, hv) → zle2 h' hv := fun cs' ls' st' h' hg' => zgo_grow (fun mi as h r q => zcall_grow d mi as h r q) n cs' ls' st' h' _ hg'
    have hplace : ∀ (i : Nat) (x : Int) (rest : List zv) (idx : Nat), i < 6 → st = (0, x) :: (3, (i : Int)) :: rest → zcat rest ≤ 8 → Cond.methodLink own idx yPl ∈ lw_tbl → decode cc e1.1 = .ok (.invokestatic idx, 3) → zle2 h hv → zWP p l e R s m args below meth c Q N0 b c0 s0 maxL aC dC dI adK (e1.1 + 3) ls ((0, zpl i x) :: rest) h → zWP p l e R s m args below meth c Q N0 b c0 s0 maxL aC dC dI adK e1.1 ls st h := by
      intro i x rest idx hi hst hcat hlk hd3 hle kk H lsR locs hP hI hl hs hls hc hz hS
      obtain ⟨p1, p2, p3, p4, p5⟩ := hpl
      have hx : z32 x := (hs (0, x) (by rw [hst]; exact List.mem_cons_self)).1 rfl
      have h1 := hle.1
      have h2 := hle.2
      exact zcall_S (n := 2) (d := 7) (as := [(3, (i : Int)), (0, x)]) (rest := rest) Fx hN p1 p3 (Or.inl hlk) p2 (by decide) (by decide +kernel) p4 (by omega) (by omega) hd3 (by rw [hst]; simp) (by rw [hst]; rfl) (by rw [hst]; rfl) hcat zle2_r (by omega) (by omega) (p5 i x h hi hx hI) kk H lsR locs hP hI hl hs hls hc hz hS
    rcases o with ⟨v0, h0⟩ | ⟨bb, t, ls', st', h'⟩ | ⟨rk, mj, as, ls', st', h'⟩ | ⟨x, sl, dd, ls', st', h'⟩
    · have hg : some (v0, h0) = some (v, hv) := hg
      cases hg
      exact hret _ _ _ _ _ _ _ hd hlen hOK ho
    · have hle : zle2 h h' := hgrow
      have hl' : ls'.length ≤ maxL := by have q : ls'.length = ls.length := hsame; omega
      have hle2 : zle2 h' hv := by
        cases bb with
        | true => exact grows _ _ _ _ hg
        | false => exact grows _ _ _ _ hg
      have e1' := hle2.1
      have e2' := hle2.2
      refine zstep_ok (nM := nM) (Y := Y) (O := O) (ro := O mi) Fx hN (by omega) (by omega) hnm (fun q => by rw [hown]; exact hoc q) hll hd hlen hOK ho trivial (fun i x rest idx a1 a2 a3 a4 a5 a6 => hplace i x rest idx a1 a2 a3 a4 a5 (zle2_t hle hle2) a6) (fun b t a1 a2 a3 q => ?_) ⟨fun q => ?_, fun q => ?_⟩
      · cases q
        exact ⟨by omega, by omega⟩
      · subst q
        exact jump _ _ _ _ hl' hg
      · subst q
        exact next _ _ _ hl' hg
    · have hh : h' = h := hgrow
      subst hh
      have hl' : ls'.length ≤ maxL := by have q : ls'.length = ls.length := hsame; omega
      simp only [cond_true] at hg
      cases hq : zcall P X XL F d mj as h' with
      | none => rw [hq] at hg; cases hg
      | some q =>
      obtain ⟨w, h2⟩ := q
      rw [hq] at hg
      have hle : zle2 h' h2 := zcall_grow d mj as h' _ hq
      have hle2 : zle2 h2 hv := grows _ _ _ _ hg
      have b1 := hle2.1
      have b2 := hle2.2
      have r1 : h2.1.length - c0 ≤ R.cells := by omega
      have r2 : zsz h2 - s0 ≤ R.slots := by omega
      obtain ⟨hci, hcl⟩ : ziscall e1.2.2.1 = true ∧ z_cl e1.2.2.2.2 ls st h' = (true, .inr (.inr (.inl (rk, mj, as, ls', st', h')))) := zs1_calp ho
      obtain ⟨k1, k3, kn, kcat, krec, keq⟩ := z_cl_call hcl
      simp only [Prod.mk.injEq] at keq
      obtain ⟨krk, kmj, kas, kls, kst, -⟩ := keq
      subst kls
      have kk := next _ _ _ hl' hg
      have hoks : (∀ w ∈ st, zvok h' w) → ∀ a ∈ as, zvok h' a := fun hs a ha => hs a (by rw [kas] at ha; exact List.mem_of_mem_take (List.mem_reverse.mp ha))
      intro H lsR locs hP hI hl hs hls hc hz hS
      generalize hi : e1.2.2.1 = i at hd hOK hlen hci
      cases i
      case invokestatic idx =>
        obtain ⟨-, -, -, -, -, -, -, hv4⟩ := hOK
        obtain ⟨c1, c2, c3, c4, c5, c6⟩ := hv4 k1 k3
        have hl3 : e1.2.2.2.1 = 3 := hlen.elim (fun q => absurd (show 3 = 0 from q) (by decide)) (fun q => q.symm)
        rw [hl3] at hd kk
        rw [← kmj] at c1 c2 c3 c4 c5 c6
        rw [← krk] at c6
        obtain ⟨m1, m2, m3, m4, -⟩ := hA mj c1
        exact zcall_S (d := d + 8) Fx hN m3 c4 c2 c3 m2 c5 m4 (by omega) (by omega) hd kn kas kst (by rw [kst]; exact kcat) hle r1 r2 (hIH mj as h' w h2 rk c1 hq hI (hoks hs) c6) kk H lsR locs hP hI hl hs hls hc hz hS
      case invokevirtual idx =>
        obtain ⟨-, -, -, hv4⟩ := hOK
        obtain ⟨c0', c1, c2, c3, c4, c5, c6, c7, ci, c8, c9, c10⟩ := hv4 k1 k3
        have hl3 : e1.2.2.2.1 = 3 := hlen.elim (fun q => absurd (show 3 = 0 from q) (by decide)) (fun q => q.symm)
        rw [hl3] at hd kk
        rw [← kmj] at c1 c2 c3 c4 c5 c6 c7 c10
        rw [← krk] at c7
        obtain ⟨m1, m2, m3, m4, -⟩ := hA mj c1
        obtain ⟨a, as', ka, ka0, kac⟩ : ∃ a as', (st.take e1.2.2.2.2.2.2.1).reverse = (2, a) :: as' ∧ 0 ≤ a ∧ ((zat h' a).1 : Int) = e1.2.2.2.2.2.2.2 := by
          rcases krec with q | q
          · omega
          · exact q
        have hn1 : e1.2.2.2.2.2.2.1 = e1.2.2.2.2.2.2.1 - 1 + 1 := by omega
        have hM' := hIH mj as h' w h2 rk c1 hq hI (hoks hs) c7
        rw [kas, ka] at hM'
        exact zcall_V (d := d + 8) (n := e1.2.2.2.2.2.2.1 - 1) Fx hN m3 c5 c2 c3 c4 c8 c10 m2 c6 m4 (by omega) (by omega) hd (by omega) (by rw [← hn1, ka]) (by rw [← zgd_at]; omega) (by rw [← hn1]; exact kst) (by rw [kst]; exact kcat) hle r1 r2 hM' kk H lsR locs hP hI hl hs hls hc hz hS
      case invokespecial idx =>
        obtain ⟨-, -, -, hv4⟩ := hOK
        obtain ⟨c3', c0', cn', c1, c2, c3, c4, c5, c6, c7⟩ := hv4 k1 k3
        have hl3 : e1.2.2.2.1 = 3 := hlen.elim (fun q => absurd (show 3 = 0 from q) (by decide)) (fun q => q.symm)
        rw [hl3] at hd kk
        rw [← kmj] at c1 c2 c3 c4 c5 c6 c7
        have hrk3 : rk = 3 := by omega
        subst hrk3
        obtain ⟨m1, m2, m3, m4, -⟩ := hA mj c1
        have hn1 : e1.2.2.2.2.2.2.1 = e1.2.2.2.2.2.2.1 - 1 + 1 := by omega
        have hM' := hIH mj as h' w h2 3 c1 hq hI (hoks hs) (Or.inr (Or.inr ⟨rfl, c7⟩))
        rw [c7] at m3 hM'
        obtain ⟨a, as', ka, ka0, kac⟩ : ∃ a as', (st.take e1.2.2.2.2.2.2.1).reverse = (2, a) :: as' ∧ 0 ≤ a ∧ ((zat h' a).1 : Int) = e1.2.2.2.2.2.2.2 := by
          rcases krec with q | q
          · omega
          · exact q
        rw [kas, ka] at hM'
        exact zcall_I (d := d + 8) (n := e1.2.2.2.2.2.2.1 - 1) Fx hN m3 c4 c2 c3 c5 m2 c6 m4 (by omega) (by omega) hd (by omega) (by rw [← hn1, ka]) (by rw [← hn1]; exact kst) (by rw [kst]; exact kcat) hle r1 r2 hM' kk H lsR locs hP hI hl hs hls hc hz hS
      all_goals cases hci
    · have hh : h' = h := hgrow
      subst hh
      have hl' : ls'.length ≤ maxL := by have q : ls'.length = ls.length := hsame; omega
      have hg : zswk x (fun t => zgo (P mi).1 (P mi).2.1 X XL (fun mi as h => zcall P X XL F d mi as h) (P mi).2.2.2 n (zfind (P mi).2.2.2 t) ls' st' h') sl dd = some (v, hv) := hg
      rw [zswk_i] at hg
      have hle2 : zle2 h' hv := grows _ _ _ _ hg
      refine zstep_ok (nM := nM) (Y := Y) (O := O) (ro := O mi) Fx hN (by omega) (by omega) hnm (fun q => by rw [hown]; exact hoc q) hll hd hlen hOK ho trivial (fun i x rest idx a1 a2 a3 a4 a5 a6 => hplace i x rest idx a1 a2 a3 a4 a5 hle2 a6) (fun b t a1 a2 a3 q => by cases q) (jump _ _ _ _ hl' hg)
end Go
