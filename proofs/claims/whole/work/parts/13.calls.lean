section Calls2
variable {p : Program} {l : Launch} {e : Env} {R : Room} {s : State} {m : MethodId} {args : Array Value} {below : List Frame} {meth : Method} {c : Code} {Q : State → Prop}
variable {N0 b XL c0 s0 maxL pc : Nat} {aC dC : Nat → ClassId} {dI : Nat → Nat → Nat} {adK : Nat → Nat} {X : Nat → Int} {cc : ByteArray} {own : String} {ls st : List zv} {h : zh} {o : zo}
def zres (rk : Nat) (v : Int) : Option Value := match rk with
  | 1 => some (.int (Int32.ofInt v))
  | 2 => some (.long (Int64.ofInt v))
  | _ => none
def zvr (rk : Nat) (v : Int) : Prop := (rk = 1 → z32 v) ∧ (rk = 2 → z64 v)
def zPc (N0 b XL : Nat) (aC dC : Nat → ClassId) (dI : Nat → Nat → Nat) (adK : Nat → Nat) (X : Nat → Int) (as : List zv) (h : zh) : Array Value → State → Prop := va_Pc (as.map (zrv N0 adK b)) (fun U => U.heap.size = N0 + h.1.length ∧ va_P (dC, dI) zcls (zwd N0 aC h) U.heap ∧ va_K (dC, dI) zcls (ztys aC) U ∧ zcx N0 adK U ∧ va_X b XL (fun j => Int32.ofInt (X j)) U U.heap)
def zQc (N0 : Nat) (aC dC : Nat → ClassId) (dI : Nat → Nat → Nat) (rk : Nat) (v : Int) (h2 : zh) : Array Value → State → Outcome → State → Prop := fun _ st o t => o = .returned (zres rk v) ∧ va_P (dC, dI) zcls (zwd N0 aC h2) t.heap ∧ va_F (fun q => N0 ≤ q) st t ∧ zinv h2 ∧ zvr rk v
def zMet (l : Launch) (N0 b XL : Nat) (aC dC : Nat → ClassId) (dI : Nat → Nat → Nat) (adK : Nat → Nat) (X : Nat → Int) (y : MethodName) (B : ByteArray) (mL : Nat) (ret : Option FieldType) (rk d : Nat) (as : List zv) (h : zh) (v : Int) (h2 : zh) : Prop :=
  Met l y (.code y B mL ret :: lw_g) { frames := d, cells := h2.1.length - h.1.length, slots := zsz h2 - zsz h, locals := 60 * d } (zPc N0 b XL aC dC dI adK X as h) (zQc N0 aC dC dI rk v h2) (h2.1.length - h.1.length) (zsz h2 - zsz h) (fun q => N0 ≤ q)
theorem zPc_blind {as : List zv} : FrameBlind (zPc N0 b XL aC dC dI adK X as h) := by
  intro a U g mk q
  obtain ⟨q0, q1, q2, q3, q4, q5⟩ := q
  exact ⟨q0, q1, q2, va_K.moved (u := U) (U := U.calling g mk a) (Vm.Alike.refl U.vm) q3, zcx_warm (s := U) (U := U.calling g mk a) (State.WarmedH.refl U) (fun _ _ _ => rfl) q4, va_X.moved (u := U) (U := U.calling g mk a) (Vm.Alike.refl U.vm) q5⟩
theorem zlg_good {y : MethodName} {B : ByteArray} {mL : Nat} {ret : Option FieldType} (hc : Cond.code y B mL ret ∈ lw_g) : GoodIn lw_g (.code y B mL ret :: lw_g) := by
  intro w hw
  have key : ∀ w ∈ lw_g, w ∈ lw_g ∧ ((w.onTables && w.keeps) = true ∨ ∃ ty, w = .arrayClass ty) := fun w hw => ⟨hw, good_of_word (List.mem_filter.mp hw).2⟩
  rcases List.mem_cons.mp hw with rfl | hw
  · exact key _ hc
  · exact key _ hw
theorem zwsize {H : Heap} {locs : List Loc} (hP : va_P (dC, dI) zcls (zwd N0 aC h) H) (hS : va_S (fun q => N0 ≤ q) s.heap H locs) (hN : s.heap.size = N0 + c0) (hc : c0 ≤ h.1.length) (hup : H.size ≤ s.heap.size + (h.1.length - c0)) : H.size = N0 + h.1.length := by
  rcases Nat.eq_zero_or_pos h.1.length with q | q
  · have := hS.1
    omega
  · have := (hP (h.1.length - 1) _ (zwd_get (by omega))).lt
    have h1 : N0 + (h.1.length - 1) < H.size := this
    omega
theorem zpre {as : List zv} {H : Heap} {locs : List Loc} (Fx : zFx p s m args c N0 b XL maxL aC dC dI adK X cc own) (hN : s.heap.size = N0 + c0) (hP : va_P (dC, dI) zcls (zwd N0 aC h) H) (hS : va_S (fun q => N0 ≤ q) s.heap H locs) (hc : c0 ≤ h.1.length) (hup : H.size ≤ s.heap.size + (h.1.length - c0)) : ∀ U : State, U.heap = H → s.WarmedH U.vm → zPc N0 b XL aC dC dI adK X as h (as.map (zrv N0 adK b)).toArray U := by
  intro U hU hW
  obtain ⟨-, -, -, -, -, hK, hcx, hX, hbl, hbN, -, -, -⟩ := id Fx
  refine ⟨rfl, ?_, ?_, va_K.moved hW.alike hK, zcx_warm hW (fun a h1 h2 => by rw [hU]; exact hS.2.1 a h1 h2) hcx, ?_⟩
  · rw [hU]; exact zwsize hP hS hN hc hup
  · rw [hU]; exact hP
  · rw [hU]
    exact (va_X.moved hW.alike hX).kept (hS.2.1 b hbl (by show ¬ N0 ≤ b; omega))
theorem zcl_tail {rk : Nat} {v : Int} {h2 : zh} {rest : List zv} {a : Array Value} {st0 : List Value} {H : Heap} {lsR : Array Slot} {locs : List Loc} (hg : zle2 h h2)
    (hr : va_Run p l e R s m args below meth c H locs (h.1.length - c0) (zsz h - s0) (h2.1.length - h.1.length) (zsz h2 - zsz h) (F0 m pc lsR st0) (rest.map (zrv N0 adK b)) (zQc N0 aC dC dI rk v h2 a) (fun q => N0 ≤ q))
    (hS : va_S (fun q => N0 ≤ q) s.heap H locs) (hl : lv_has lsR maxL (zlv (zrv N0 adK b) 0 ls)) (hs : ∀ w ∈ rest, zvok h w) (hls : ∀ w ∈ ls, zvok h w) (hc : c0 ≤ h.1.length) (hz : s0 ≤ zsz h) (kk : zWP p l e R s m args below meth c Q N0 b c0 s0 maxL aC dC dI adK (pc + 3) ls (zps rk v rest) h2) : W p l e R s m args below meth c H locs (h.1.length - c0) (zsz h - s0) Q (F0 m pc lsR st0) := by
  intro T hT X0
  obtain ⟨v', st₀, t, T', L, h0, X', hL, e1, e2, ⟨hv, hP2, hF, hI2, hok⟩, hst⟩ := hr T hT X0
  have hv : v' = zres rk v := by cases hv; rfl
  subst hv
  have hS2 : va_S (fun q => N0 ≤ q) s.heap T'.heap (locs ++ L) := by
    obtain ⟨f1, f2⟩ := hF
    rw [h0] at f1 f2
    refine ⟨Nat.le_trans hS.1 (by rw [e1]; exact f1), fun q h1 h3 => ?_, fun q hq => ?_⟩
    · rw [e1, f2 q (Nat.lt_of_lt_of_le h1 hS.1) h3]
      exact hS.2.1 q h1 h3
    · rcases List.mem_append.mp hq with q1 | q1
      · exact hS.2.2 q q1
      · exact hL q q1
  have hst2 : (zps rk v rest).map (zrv N0 adK b) = (zres rk v).toList ++ rest.map (zrv N0 adK b) := by
    match rk with
    | 0 => rfl
    | 1 => rfl
    | 2 => rfl
    | k + 3 => rfl
  have hoks : ∀ w ∈ zps rk v rest, zvok h2 w := by
    intro w hw
    unfold zps at hw
    split at hw
    · rcases List.mem_cons.mp hw with rfl | hw
      · exact zoki (hok.1 rfl)
      · exact zok_mono hg.1 (hs w hw)
    · rcases List.mem_cons.mp hw with rfl | hw
      · exact zokl (hok.2 rfl)
      · exact zok_mono hg.1 (hs w hw)
    · exact zok_mono hg.1 (hs w hw)
  have hg1 := hg.1
  have hg2 := hg.2
  have W2 := kk T'.heap lsR (locs ++ L) (by rw [e1]; exact hP2) hI2 hl hoks (fun w hw => zok_mono hg.1 (hls w hw)) (by omega) (by omega) hS2
  rw [hst2] at W2
  have c1 : h2.1.length - c0 = h.1.length - c0 + (h2.1.length - h.1.length) := by omega
  have c2 : zsz h2 - s0 = zsz h - s0 + (zsz h2 - zsz h) := by omega
  rw [c1, c2] at W2
  obtain ⟨t2, a1, b1⟩ := W2 T' rfl X'
  exact ⟨t2, hst t2 a1, b1⟩
/-- the words for a call, and its room -/
theorem zCB {y : MethodName} {B : ByteArray} {mL idx n d mc ms : Nat} {ret : Option FieldType} (Fx : zFx p s m args c N0 b XL maxL aC dC dI adK X cc own) (hcode : Cond.code y B mL ret ∈ lw_g) (hini : Cond.initialized y.cls ∈ lw_g) (hlk : Cond.methodLink own idx y ∈ lw_tbl) (hy : y.cls ≠ "java/lang/invoke/MethodHandle" ∧ y.cls ≠ "java/lang/invoke/VarHandle") (hp : (parseMethodDescriptor y.desc).map (fun d => d.parameters.length) = some n) (hm : mL ≤ 41) (hf : d + 1 ≤ R.frames) (hlo : 60 * d + 60 ≤ R.locals) : CallB R s args own idx y B mL ret (.code y B mL ret :: lw_g) { frames := d, cells := mc, slots := ms, locals := 60 * d } mc ms n := by
  obtain ⟨-, -, -, -, hts, -⟩ := id Fx
  exact callB_of n hts (zlg_good hcode) rfl rfl rfl (hts _ hini) (hts _ (zg_in hlk rfl)) ⟨hy.1, hy.2, hp⟩ ⟨hf, by show 8 + (mL + 11) + 60 * d ≤ _; omega⟩
theorem zCN {y : MethodName} {ho : String} {B : ByteArray} {mL idx n d mc ms : Nat} {ret : Option FieldType} (Fx : zFx p s m args c N0 b XL maxL aC dC dI adK X cc own) (hcode : Cond.code y B mL ret ∈ lw_g) (hini : Cond.initialized y.cls ∈ lw_g) (hlk : (own, idx, y, ho) ∈ zNest) (hy : y.cls ≠ "java/lang/invoke/MethodHandle" ∧ y.cls ≠ "java/lang/invoke/VarHandle") (hp : (parseMethodDescriptor y.desc).map (fun d => d.parameters.length) = some n) (hm : mL ≤ 41) (hf : d + 1 ≤ R.frames) (hlo : 60 * d + 60 ≤ R.locals) : va_CN R s args own idx y ho B mL ret (.code y B mL ret :: lw_g) { frames := d, cells := mc, slots := ms, locals := 60 * d } mc ms n := by
  obtain ⟨-, -, -, -, hts, -, hcx, -⟩ := id Fx
  exact va_cnB n hts (zlg_good hcode) rfl rfl rfl (hcx.2.1 _ hlk) (hts _ hini) ⟨hy.1, hy.2, hp⟩ ⟨hf, by show 8 + (mL + 11) + 60 * d ≤ _; omega⟩
theorem zrv_rev {as st : List zv} {n : Nat} (ha : as = (st.take n).reverse) : st.map (zrv N0 adK b) = (as.map (zrv N0 adK b)).reverse ++ (st.drop n).map (zrv N0 adK b) := by
  subst ha
  rw [List.map_reverse, List.reverse_reverse, ← List.map_append, List.take_append_drop]
theorem zcall_S {y : MethodName} {B : ByteArray} {mL idx n d rk : Nat} {ret : Option FieldType} {v : Int} {h2 : zh} {as rest : List zv} (Fx : zFx p s m args c N0 b XL maxL aC dC dI adK X cc own) (hN : s.heap.size = N0 + c0) (hcode : Cond.code y B mL ret ∈ lw_g) (hini : Cond.initialized y.cls ∈ lw_g) (hlk : Cond.methodLink own idx y ∈ lw_tbl ∨ ∃ ho, (own, idx, y, ho) ∈ zNest) (hst : Cond.static y ∈ lw_g) (hy : y.cls ≠ "java/lang/invoke/MethodHandle" ∧ y.cls ≠ "java/lang/invoke/VarHandle") (hp : (parseMethodDescriptor y.desc).map (fun d => d.parameters.length) = some n) (hm : mL ≤ 41) (hf : d + 1 ≤ R.frames) (hlo : 60 * d + 60 ≤ R.locals)
    (hd : decode cc pc = .ok (.invokestatic idx, 3)) (hn : n ≤ st.length) (has : as = (st.take n).reverse) (hrest : rest = st.drop n) (hcat : zcat rest ≤ 8) (hg : zle2 h h2) (hR1 : h2.1.length - c0 ≤ R.cells) (hR2 : zsz h2 - s0 ≤ R.slots) (hM : zMet l N0 b XL aC dC dI adK X y B mL ret rk d as h v h2) (kk : zWP p l e R s m args below meth c Q N0 b c0 s0 maxL aC dC dI adK (pc + 3) ls (zps rk v rest) h2) : zWP p l e R s m args below meth c Q N0 b c0 s0 maxL aC dC dI adK pc ls st h := by
  intro H lsR locs hP hI hl hs hls hc hz hS
  refine zW_size fun hup => ?_
  obtain ⟨hx, hb, hml, hown, hts, -⟩ := id Fx
  have hg1 := hg.1
  have hg2 := hg.2
  have hlen : (as.map (zrv N0 adK b)).length = n := by rw [has]; simp; omega
  have hroom := lv_room (m := m) (pc := pc) (ls := lsR) (rest := st.map (zrv N0 adK b)) (st := rest.map (zrv N0 adK b)) (by rw [zcat_eq]; exact hcat)
  have hsr : ∀ w ∈ rest, zvok h w := fun w hw => hs w (by rw [hrest] at hw; exact List.mem_of_mem_drop hw)
  have hstk : (F0 m pc lsR (st.map (zrv N0 adK b))).stack = (as.map (zrv N0 adK b)).reverse ++ rest.map (zrv N0 adK b) := by
    show st.map (zrv N0 adK b) = _
    rw [zrv_rev has, hrest]
  rcases hlk with hlk | ⟨ho, hlk⟩
  · exact zcl_tail hg (va_runS ⟨hx, hb, hml, hown, hts⟩ hM ⟨zCB Fx hcode hini hlk hy hp hm hf hlo, hts _ hst⟩ ⟨zPc_blind, zpre Fx hN hP hS hc hup⟩ rfl hlen hl.1 hstk hroom hd ⟨by omega, by omega⟩) hS hl hsr hls hc hz kk
  · exact zcl_tail hg (va_runSN ⟨hx, hb, hml, hown, hts⟩ hM ⟨zCN Fx hcode hini hlk hy hp hm hf hlo, hts _ hst, trivial⟩ ⟨zPc_blind, zpre Fx hN hP hS hc hup⟩ rfl hlen hl.1 hstk hroom hd ⟨by omega, by omega⟩) hS hl hsr hls hc hz kk
theorem zcall_I {y : MethodName} {B : ByteArray} {mL idx n d : Nat} {v : Int} {h2 : zh} {a : Int} {as rest : List zv} (Fx : zFx p s m args c N0 b XL maxL aC dC dI adK X cc own) (hN : s.heap.size = N0 + c0) (hcode : Cond.code y B mL none ∈ lw_g) (hini : Cond.initialized y.cls ∈ lw_g) (hlk : Cond.methodLink own idx y ∈ lw_tbl ∨ ∃ ho, (own, idx, y, ho) ∈ zNest) (hst : Cond.instanceMethod y ∈ lw_g) (hnm : y.name = "<init>") (hy : y.cls ≠ "java/lang/invoke/MethodHandle" ∧ y.cls ≠ "java/lang/invoke/VarHandle") (hp : (parseMethodDescriptor y.desc).map (fun d => d.parameters.length) = some n) (hm : mL ≤ 41) (hf : d + 1 ≤ R.frames) (hlo : 60 * d + 60 ≤ R.locals)
    (hd : decode cc pc = .ok (.invokespecial idx, 3)) (hn : n + 1 ≤ st.length) (has : (2, a) :: as = (st.take (n + 1)).reverse) (hrest : rest = st.drop (n + 1)) (hcat : zcat rest ≤ 8) (hg : zle2 h h2) (hR1 : h2.1.length - c0 ≤ R.cells) (hR2 : zsz h2 - s0 ≤ R.slots) (hM : zMet l N0 b XL aC dC dI adK X y B mL none 3 d ((2, a) :: as) h v h2) (kk : zWP p l e R s m args below meth c Q N0 b c0 s0 maxL aC dC dI adK (pc + 3) ls (zps 3 v rest) h2) : zWP p l e R s m args below meth c Q N0 b c0 s0 maxL aC dC dI adK pc ls st h := by
  intro H lsR locs hP hI hl hs hls hc hz hS
  refine zW_size fun hup => ?_
  obtain ⟨hx, hb, hml, hown, hts, -⟩ := id Fx
  have hg1 := hg.1
  have hg2 := hg.2
  have hlen : (as.map (zrv N0 adK b)).length = n := by
    have := congrArg List.length has
    simp at this
    simp
    omega
  have hroom := lv_room (m := m) (pc := pc) (ls := lsR) (rest := st.map (zrv N0 adK b)) (st := rest.map (zrv N0 adK b)) (by rw [zcat_eq]; exact hcat)
  have hsr : ∀ w ∈ rest, zvok h w := fun w hw => hs w (by rw [hrest] at hw; exact List.mem_of_mem_drop hw)
  have hstk : (F0 m pc lsR (st.map (zrv N0 adK b))).stack = (as.map (zrv N0 adK b)).reverse ++ .ref (N0 + a.toNat) :: rest.map (zrv N0 adK b) := by
    show st.map (zrv N0 adK b) = _
    rw [zrv_rev has, hrest]
    simp [zrv]
  rcases hlk with hlk | ⟨ho, hlk⟩
  · exact zcl_tail hg (va_runI (b := N0 + a.toNat) ⟨hx, hb, hml, hown, hts⟩ hM ⟨zCB Fx hcode hini hlk hy hp hm hf hlo, hnm, hts _ hst⟩ ⟨zPc_blind, zpre (as := (2, a) :: as) Fx hN hP hS hc hup⟩ rfl hlen hl.1 hstk hroom hd ⟨by omega, by omega⟩) hS hl hsr hls hc hz kk
  · exact zcl_tail hg (va_runIN (b := N0 + a.toNat) ⟨hx, hb, hml, hown, hts⟩ hM ⟨zCN Fx hcode hini hlk hy hp hm hf hlo, hnm, hts _ hst⟩ ⟨zPc_blind, zpre (as := (2, a) :: as) Fx hN hP hS hc hup⟩ rfl hlen hl.1 hstk hroom hd ⟨by omega, by omega⟩) hS hl hsr hls hc hz kk
theorem zcall_V {y : MethodName} {B : ByteArray} {mL idx n d rk ci : Nat} {ret : Option FieldType} {v : Int} {h2 : zh} {a : Int} {as rest : List zv} (Fx : zFx p s m args c N0 b XL maxL aC dC dI adK X cc own) (hN : s.heap.size = N0 + c0) (hcode : Cond.code y B mL ret ∈ lw_g) (hini : Cond.initialized y.cls ∈ lw_g) (hlk : Cond.methodLink own idx y ∈ lw_tbl) (hst : Cond.instanceMethod y ∈ lw_g) (hse : Cond.selects y.cls y y ∈ lw_g) (hci : ci < 12) (hcy : y.cls = zRc ci) (hy : y.cls ≠ "java/lang/invoke/MethodHandle" ∧ y.cls ≠ "java/lang/invoke/VarHandle") (hp : (parseMethodDescriptor y.desc).map (fun d => d.parameters.length) = some n) (hm : mL ≤ 41) (hf : d + 1 ≤ R.frames) (hlo : 60 * d + 60 ≤ R.locals)
    (hd : decode cc pc = .ok (.invokevirtual idx, 3)) (hn : n + 1 ≤ st.length) (has : (2, a) :: as = (st.take (n + 1)).reverse) (hk : (zgd h a.toNat).1 = ci) (hrest : rest = st.drop (n + 1)) (hcat : zcat rest ≤ 8) (hg : zle2 h h2) (hR1 : h2.1.length - c0 ≤ R.cells) (hR2 : zsz h2 - s0 ≤ R.slots) (hM : zMet l N0 b XL aC dC dI adK X y B mL ret rk d ((2, a) :: as) h v h2) (kk : zWP p l e R s m args below meth c Q N0 b c0 s0 maxL aC dC dI adK (pc + 3) ls (zps rk v rest) h2) : zWP p l e R s m args below meth c Q N0 b c0 s0 maxL aC dC dI adK pc ls st h := by
  intro H lsR locs hP hI hl hs hls hc hz hS
  refine zW_size fun hup => ?_
  obtain ⟨hx, hb, hml, hown, hts, hK, -⟩ := id Fx
  have hg1 := hg.1
  have hg2 := hg.2
  have hlen : (as.map (zrv N0 adK b)).length = n := by
    have := congrArg List.length has
    simp at this
    simp
    omega
  have hroom := lv_room (m := m) (pc := pc) (ls := lsR) (rest := st.map (zrv N0 adK b)) (st := rest.map (zrv N0 adK b)) (by rw [zcat_eq]; exact hcat)
  have hsr : ∀ w ∈ rest, zvok h w := fun w hw => hs w (by rw [hrest] at hw; exact List.mem_of_mem_drop hw)
  have hstk : (F0 m pc lsR (st.map (zrv N0 adK b))).stack = (as.map (zrv N0 adK b)).reverse ++ .ref (N0 + a.toNat) :: rest.map (zrv N0 adK b) := by
    show st.map (zrv N0 adK b) = _
    rw [zrv_rev has, hrest]
    simp [zrv]
  have hlt : a.toNat < h.1.length := zgd_lt (by omega)
  obtain ⟨f1, -⟩ := zfld (aC := aC) (N0 := N0) hlt hI hk hci
  have hrecv := va_recv hK hP (ci := ci) (q0 := a.toNat) (zcls_get hci) f1
  rw [← hcy] at hrecv
  exact zcl_tail hg (va_runV (C := y.cls) (b := N0 + a.toNat) ⟨hx, hb, hml, hown, hts⟩ hM ⟨zCB Fx hcode hini hlk hy hp hm hf hlo, hts _ hst, hts _ hse⟩ ⟨zPc_blind, hrecv, zpre (as := (2, a) :: as) Fx hN hP hS hc hup⟩ rfl hlen hl.1 hstk hroom hd ⟨by omega, by omega⟩) hS hl hsr hls hc hz kk
end Calls2
