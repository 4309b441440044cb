/-! placeOf, and the members of String that it calls: walked over the texts -/
def yS_coder : MethodName := ⟨"java/lang/String", "coder", "()B"⟩
abbrev bS_coder : ByteArray := prog_17_method_152_code
theorem wS_coder_c : Cond.code yS_coder bS_coder 1 (some .byte) ∈ lw_g := zg_in (zseg_in (j := 3) (List.mem_of_getElem? (i := 75) (show (zseg 3)[75]? = some (.code ⟨"java/lang/String", "coder", "()B"⟩ prog_17_method_152_code 1 (some .byte)) from rfl))) rfl
theorem wS_coder_i : Cond.initialized yS_coder.cls ∈ lw_g := zg_in (zseg_in (j := 1) (List.mem_of_getElem? (i := 17) (by decide +kernel))) rfl
theorem wS_coder_m : Cond.instanceMethod yS_coder ∈ lw_g := zg_in (zseg_in (j := 3) (List.mem_of_getElem? (i := 73) (by decide +kernel))) rfl
theorem wS_coder_s : Cond.selects "java/lang/String" yS_coder yS_coder ∈ lw_g := zg_in (zseg_in (j := 3) (List.mem_of_getElem? (i := 74) (by decide +kernel))) rfl
def yS_isL : MethodName := ⟨"java/lang/String", "isLatin1", "()Z"⟩
abbrev bS_isL : ByteArray := prog_17_method_154_code
theorem wS_isL_c : Cond.code yS_isL bS_isL 1 (some .boolean) ∈ lw_g := zg_in (zseg_in (j := 3) (List.mem_of_getElem? (i := 85) (show (zseg 3)[85]? = some (.code ⟨"java/lang/String", "isLatin1", "()Z"⟩ prog_17_method_154_code 1 (some .boolean)) from rfl))) rfl
theorem wS_isL_i : Cond.initialized yS_isL.cls ∈ lw_g := zg_in (zseg_in (j := 1) (List.mem_of_getElem? (i := 17) (by decide +kernel))) rfl
theorem wS_isL_m : Cond.instanceMethod yS_isL ∈ lw_g := zg_in (zseg_in (j := 3) (List.mem_of_getElem? (i := 83) (by decide +kernel))) rfl
theorem wS_isL_s : Cond.selects "java/lang/String" yS_isL yS_isL ∈ lw_g := zg_in (zseg_in (j := 3) (List.mem_of_getElem? (i := 84) (by decide +kernel))) rfl
def yS_len : MethodName := ⟨"java/lang/String", "length", "()I"⟩
abbrev bS_len : ByteArray := prog_17_method_54_code
theorem wS_len_c : Cond.code yS_len bS_len 1 (some .int) ∈ lw_g := zg_in (zseg_in (j := 3) (List.mem_of_getElem? (i := 71) (show (zseg 3)[71]? = some (.code ⟨"java/lang/String", "length", "()I"⟩ prog_17_method_54_code 1 (some .int)) from rfl))) rfl
theorem wS_len_i : Cond.initialized yS_len.cls ∈ lw_g := zg_in (zseg_in (j := 1) (List.mem_of_getElem? (i := 17) (by decide +kernel))) rfl
theorem wS_len_m : Cond.instanceMethod yS_len ∈ lw_g := zg_in (zseg_in (j := 3) (List.mem_of_getElem? (i := 69) (by decide +kernel))) rfl
theorem wS_len_s : Cond.selects "java/lang/String" yS_len yS_len ∈ lw_g := zg_in (zseg_in (j := 3) (List.mem_of_getElem? (i := 70) (by decide +kernel))) rfl
def yS_chk : MethodName := ⟨"jdk/internal/util/Preconditions", "checkIndex", "(IILjava/util/function/BiFunction;)I"⟩
abbrev bS_chk : ByteArray := prog_22_method_11_code
theorem wS_chk_c : Cond.code yS_chk bS_chk 3 (some .int) ∈ lw_g := zg_in (zseg_in (j := 3) (List.mem_of_getElem? (i := 96) (show (zseg 3)[96]? = some (.code ⟨"jdk/internal/util/Preconditions", "checkIndex", "(IILjava/util/function/BiFunction;)I"⟩ prog_22_method_11_code 3 (some .int)) from rfl))) rfl
theorem wS_chk_i : Cond.initialized yS_chk.cls ∈ lw_g := zg_in (zseg_in (j := 1) (List.mem_of_getElem? (i := 19) (by decide +kernel))) rfl
theorem wS_chk_m : Cond.static yS_chk ∈ lw_g := zg_in (zseg_in (j := 3) (List.mem_of_getElem? (i := 95) (by decide +kernel))) rfl
def yS_sck : MethodName := ⟨"java/lang/String", "checkIndex", "(II)V"⟩
abbrev bS_sck : ByteArray := prog_17_method_155_code
theorem wS_sck_c : Cond.code yS_sck bS_sck 2 none ∈ lw_g := zg_in (zseg_in (j := 3) (List.mem_of_getElem? (i := 91) (show (zseg 3)[91]? = some (.code ⟨"java/lang/String", "checkIndex", "(II)V"⟩ prog_17_method_155_code 2 none) from rfl))) rfl
theorem wS_sck_i : Cond.initialized yS_sck.cls ∈ lw_g := zg_in (zseg_in (j := 1) (List.mem_of_getElem? (i := 17) (by decide +kernel))) rfl
theorem wS_sck_m : Cond.static yS_sck ∈ lw_g := zg_in (zseg_in (j := 3) (List.mem_of_getElem? (i := 90) (by decide +kernel))) rfl
def yS_l1c : MethodName := ⟨"java/lang/StringLatin1", "charAt", "([BI)C"⟩
abbrev bS_l1c : ByteArray := prog_18_method_2_code
theorem wS_l1c_c : Cond.code yS_l1c bS_l1c 2 (some .char) ∈ lw_g := zg_in (zseg_in (j := 3) (List.mem_of_getElem? (i := 88) (show (zseg 3)[88]? = some (.code ⟨"java/lang/StringLatin1", "charAt", "([BI)C"⟩ prog_18_method_2_code 2 (some .char)) from rfl))) rfl
theorem wS_l1c_i : Cond.initialized yS_l1c.cls ∈ lw_g := zg_in (zseg_in (j := 1) (List.mem_of_getElem? (i := 18) (by decide +kernel))) rfl
theorem wS_l1c_m : Cond.static yS_l1c ∈ lw_g := zg_in (zseg_in (j := 3) (List.mem_of_getElem? (i := 87) (by decide +kernel))) rfl
def yS_chr : MethodName := ⟨"java/lang/String", "charAt", "(I)C"⟩
abbrev bS_chr : ByteArray := prog_17_method_56_code
theorem wS_chr_c : Cond.code yS_chr bS_chr 2 (some .char) ∈ lw_g := zg_in (zseg_in (j := 3) (List.mem_of_getElem? (i := 81) (show (zseg 3)[81]? = some (.code ⟨"java/lang/String", "charAt", "(I)C"⟩ prog_17_method_56_code 2 (some .char)) from rfl))) rfl
theorem wS_chr_i : Cond.initialized yS_chr.cls ∈ lw_g := zg_in (zseg_in (j := 1) (List.mem_of_getElem? (i := 17) (by decide +kernel))) rfl
theorem wS_chr_m : Cond.instanceMethod yS_chr ∈ lw_g := zg_in (zseg_in (j := 3) (List.mem_of_getElem? (i := 79) (by decide +kernel))) rfl
theorem wS_chr_s : Cond.selects "java/lang/String" yS_chr yS_chr ∈ lw_g := zg_in (zseg_in (j := 3) (List.mem_of_getElem? (i := 80) (by decide +kernel))) rfl
abbrev bS_pl : ByteArray := prog_8_method_14_code
theorem wS_pl_c : Cond.code yPl bS_pl 3 (some .int) ∈ lw_g := zg_in (zseg_in (j := 3) (List.mem_of_getElem? (i := 67) (show (zseg 3)[67]? = some (.code ⟨"WordWar$LawReader", "placeOf", "(Ljava/lang/String;I)I"⟩ prog_8_method_14_code 3 (some .int)) from rfl))) rfl
theorem wS_pl_i : Cond.initialized yPl.cls ∈ lw_g := zg_in (zseg_in (j := 1) (List.mem_of_getElem? (i := 8) (by decide +kernel))) rfl
theorem wS_pl_m : Cond.static yPl ∈ lw_g := zg_in (zseg_in (j := 3) (List.mem_of_getElem? (i := 66) (by decide +kernel))) rfl
theorem wS_f38 : Cond.fieldLink "java/lang/String" 38 "java/lang/String" "COMPACT_STRINGS" "Z" ∈ lw_g := zg_in (zseg_in (j := 3) (List.mem_of_getElem? (i := 76) (by decide +kernel))) rfl
theorem wS_f15 : Cond.fieldLink "java/lang/String" 15 "java/lang/String" "coder" "B" ∈ lw_g := zg_in (zseg_in (j := 9) (List.mem_of_getElem? (i := 60) (by decide +kernel))) rfl
theorem wS_f9 : Cond.fieldLink "java/lang/String" 9 "java/lang/String" "value" "[B" ∈ lw_g := zg_in (zseg_in (j := 9) (List.mem_of_getElem? (i := 59) (by decide +kernel))) rfl
theorem wS_f1053 : Cond.fieldLink "java/lang/String" 1053 "jdk/internal/util/Preconditions" "SIOOBE_FORMATTER" "Ljava/util/function/BiFunction;" ∈ lw_g := zg_in (zseg_in (j := 3) (List.mem_of_getElem? (i := 92) (by decide +kernel))) rfl
theorem wS_l335 : Cond.methodLink "java/lang/String" 335 yS_coder ∈ lw_g := zg_in (zseg_in (j := 3) (List.mem_of_getElem? (i := 72) (by decide +kernel))) rfl
theorem wS_l492 : Cond.methodLink "java/lang/String" 492 yS_isL ∈ lw_g := zg_in (zseg_in (j := 3) (List.mem_of_getElem? (i := 82) (by decide +kernel))) rfl
theorem wS_l495 : Cond.methodLink "java/lang/String" 495 yS_l1c ∈ lw_g := zg_in (zseg_in (j := 3) (List.mem_of_getElem? (i := 86) (by decide +kernel))) rfl
theorem wS_l9 : Cond.methodLink "java/lang/StringLatin1" 9 yS_sck ∈ lw_g := zg_in (zseg_in (j := 3) (List.mem_of_getElem? (i := 89) (by decide +kernel))) rfl
theorem wS_l1059 : Cond.methodLink "java/lang/String" 1059 yS_chk ∈ lw_g := zg_in (zseg_in (j := 3) (List.mem_of_getElem? (i := 94) (by decide +kernel))) rfl
theorem wS_l131 : Cond.methodLink "WordWar$LawReader" 131 yS_len ∈ lw_g := zg_in (zseg_in (j := 3) (List.mem_of_getElem? (i := 68) (by decide +kernel))) rfl
theorem wS_l136 : Cond.methodLink "WordWar$LawReader" 136 yS_chr ∈ lw_g := zg_in (zseg_in (j := 3) (List.mem_of_getElem? (i := 78) (by decide +kernel))) rfl
def zHv (N0 : Nat) (adK adV : Nat → Nat) (U : State) (H : Heap) : Prop := vk_S 6 zlenS zbytS adK adV (fun q => N0 ≤ q) U H ∧ va_Z "java/lang/String" "COMPACT_STRINGS" "Z" (.int 1) (fun q => N0 ≤ q) U H ∧ va_Zq "jdk/internal/util/Preconditions" "SIOOBE_FORMATTER" "Ljava/util/function/BiFunction;" (fun q => N0 ≤ q) U H
def zSi (r : Option Value) : Array Value → State → Outcome → State → Prop := fun _ st o t => o = .returned r ∧ t.heap = st.heap
def zMi (l : Launch) (N0 : Nat) (adK adV : Nat → Nat) (y : MethodName) (B : ByteArray) (mL : Nat) (ret : Option FieldType) (d : Nat) (av : List Value) (r : Option Value) : Prop :=
  Met l y (.code y B mL ret :: lw_g) { frames := d, cells := 0, slots := 0, locals := 60 * d } (va_Pc av (fun U => zHv N0 adK adV U U.heap)) (zSi r) 0 0 (fun _ => False)
section Place
variable {p : Program} {l : Launch} {e : Env} {R : Room} {s : State} {m : MethodId} {args : Array Value} {below : List Frame} {meth : Method} {c : Code} {Q : State → Prop} {N0 : Nat} {adK adV : Nat → Nat} {cc : ByteArray} {pc nL : Nat} {ls : Array Slot} {own : String}
theorem zHv_blind {av : List Value} : FrameBlind (va_Pc av (fun U => zHv N0 adK adV U U.heap)) := by
  intro a U g mk q
  obtain ⟨q0, q1, q2, q3⟩ := q
  exact ⟨q0, q1.moved (U := U.calling g mk a) (Vm.Alike.refl U.vm), q2.moved (U := U.calling g mk a) (Vm.Alike.refl U.vm), q3.moved (U := U.calling g mk a) (Vm.Alike.refl U.vm)⟩
theorem zHv_pre {av : List Value} (hE : zHv N0 adK adV s s.heap) : ∀ U : State, U.heap = s.heap → s.WarmedH U.vm → va_Pc av (fun U => zHv N0 adK adV U U.heap) av.toArray U := by
  intro U hU hW
  refine ⟨rfl, ?_⟩
  show zHv N0 adK adV U U.heap
  rw [hU]
  exact ⟨hE.1.moved hW.alike, hE.2.1.moved hW.alike, hE.2.2.moved hW.alike⟩
theorem zst_tail {r : Option Value} {a : Array Value} {st0 rest : List Value} (hr : va_Run p l e R s m args below meth c s.heap [] 0 0 0 0 (F0 m pc ls st0) rest (zSi r a) (fun _ => False)) (kk : W p l e R s m args below meth c s.heap [] 0 0 Q (F0 m (pc + 3) ls (r.toList ++ rest))) : W p l e R s m args below meth c s.heap [] 0 0 Q (F0 m pc ls st0) := by
  intro T hT X0
  obtain ⟨v', st₀, t, T', L, h0, X', hL, e1, e2, ⟨hv, hh⟩, hst⟩ := hr T hT X0
  have hv : v' = r := by cases hv; rfl
  subst hv
  have hL0 : L = [] := by
    cases L with
    | nil => rfl
    | cons q L => exact (hL q List.mem_cons_self).elim
  subst hL0
  obtain ⟨t2, a1, b1⟩ := kk T' (by rw [e1, hh, h0]) X'
  exact ⟨t2, hst t2 a1, b1⟩
theorem zst_V {y : MethodName} {B : ByteArray} {mL idx n d i : Nat} {ret : Option FieldType} {r : Option Value} {As rest : List Value} (hx : p.tables.exec = Jvm.exec) (hb : c.code = cc) (hml : c.maxLocals = nL) (hl : ls.size = nL) (hown : s.vm.findClass own = some m.cls) (hts : ∀ w ∈ lw_g, w.before args s = true) (hcode : Cond.code y B mL ret ∈ lw_g) (hini : Cond.initialized y.cls ∈ lw_g) (hlk : Cond.methodLink own idx y ∈ lw_g) (hst : Cond.instanceMethod y ∈ lw_g) (hse : Cond.selects "java/lang/String" y y ∈ lw_g) (hy : y.cls ≠ "java/lang/invoke/MethodHandle" ∧ y.cls ≠ "java/lang/invoke/VarHandle") (hp : (parseMethodDescriptor y.desc).map (fun d => d.parameters.length) = some n) (hm : mL ≤ 41) (hf : d + 1 ≤ R.frames) (hlo : 60 * d + 60 ≤ R.locals) (hE : zHv N0 adK adV s s.heap) (hi : i < 6)
    (hM : zMi l N0 adK adV y B mL ret d (.ref (adK i) :: As) r) (hd : decode cc pc = .ok (.invokevirtual idx, 3)) (hn : As.length = n) (hcat : (rest.map fun v => v.category).sum ≤ 8) (kk : W p l e R s m args below meth c s.heap [] 0 0 Q (F0 m (pc + 3) ls (r.toList ++ rest))) : W p l e R s m args below meth c s.heap [] 0 0 Q (F0 m pc ls (As.reverse ++ .ref (adK i) :: rest)) :=
  zst_tail (va_runV (C := "java/lang/String") (b := adK i) ⟨hx, hb, hml, hown, hts⟩ hM ⟨callB_of n hts (zlg_good hcode) rfl rfl rfl (hts _ hini) (hts _ hlk) ⟨hy.1, hy.2, hp⟩ ⟨hf, by show 8 + (mL + 11) + 60 * d ≤ _; omega⟩, hts _ hst, hts _ hse⟩ ⟨zHv_blind, vk_recv hE.1 hi va_S.rf, zHv_pre hE⟩ rfl hn hl rfl (lv_room hcat) hd ⟨Nat.zero_le _, Nat.zero_le _⟩) kk
theorem zst_S {y : MethodName} {B : ByteArray} {mL idx n d : Nat} {ret : Option FieldType} {r : Option Value} {As rest : List Value} (hx : p.tables.exec = Jvm.exec) (hb : c.code = cc) (hml : c.maxLocals = nL) (hl : ls.size = nL) (hown : s.vm.findClass own = some m.cls) (hts : ∀ w ∈ lw_g, w.before args s = true) (hcode : Cond.code y B mL ret ∈ lw_g) (hini : Cond.initialized y.cls ∈ lw_g) (hlk : Cond.methodLink own idx y ∈ lw_g) (hst : Cond.static y ∈ lw_g) (hy : y.cls ≠ "java/lang/invoke/MethodHandle" ∧ y.cls ≠ "java/lang/invoke/VarHandle") (hp : (parseMethodDescriptor y.desc).map (fun d => d.parameters.length) = some n) (hm : mL ≤ 41) (hf : d + 1 ≤ R.frames) (hlo : 60 * d + 60 ≤ R.locals) (hE : zHv N0 adK adV s s.heap)
    (hM : zMi l N0 adK adV y B mL ret d As r) (hd : decode cc pc = .ok (.invokestatic idx, 3)) (hn : As.length = n) (hcat : (rest.map fun v => v.category).sum ≤ 8) (kk : W p l e R s m args below meth c s.heap [] 0 0 Q (F0 m (pc + 3) ls (r.toList ++ rest))) : W p l e R s m args below meth c s.heap [] 0 0 Q (F0 m pc ls (As.reverse ++ rest)) :=
  zst_tail (va_runS ⟨hx, hb, hml, hown, hts⟩ hM ⟨callB_of n hts (zlg_good hcode) rfl rfl rfl (hts _ hini) (hts _ hlk) ⟨hy.1, hy.2, hp⟩ ⟨hf, by show 8 + (mL + 11) + 60 * d ≤ _; omega⟩, hts _ hst⟩ ⟨zHv_blind, zHv_pre hE⟩ rfl hn hl rfl (lv_room hcat) hd ⟨Nat.zero_le _, Nat.zero_le _⟩) kk
end Place
section Place2
variable {l : Launch} {N0 : Nat} {adK adV : Nat → Nat}
theorem cS_coder {i : Nat} (hi : i < 6) : zMi l N0 adK adV yS_coder bS_coder 1 (some .byte) 1 [.ref (adK i)] (some (.int 0)) := by
  refine Met.ofW (cc := bS_coder) (maxL := 1) (ret := some .byte) (by decide) rfl ?_
  intro p e s m args below meth c s₁ Bd hml hv
  obtain ⟨rfl, hE⟩ := hv
  have hE : zHv N0 adK adV s s.heap := hE
  have hx := Bd.exec
  have hb := Bd.bytes
  have hts : ∀ w ∈ lw_g, w.before _ s = true := fun w hw => atoms_spec (ws := Cond.code yS_coder bS_coder 1 (some .byte) :: lw_g) Bd.pre w (List.mem_cons_of_mem _ hw)
  have hown : s.vm.findClass "java/lang/String" = some m.cls := findClass_of_methodNamed Bd.named
  have hlocks := Bd.notSynchronized
  rw [lg_entry_eq]
  have hl := lv_entry ([.ref (adK i)]) (n := 1) (Nat.le_of_ble_eq_true rfl)
  generalize (lg_sl ([.ref (adK i)]) ++ List.replicate (1 - (lg_sl ([.ref (adK i)])).length) Slot.unset).toArray = ls at hl ⊢
  have hl : lv_has ls 1 [(0, .ref (adK i))] := hl
  refine va_gets hx hb hE.2.1 va_S.rf hown (hts _ wS_f38) (fun x h => h) (show decode bS_coder 0 = .ok (.getstatic 38, 3) by decide +kernel) ?_
  refine lv_if_eq (tgt := 13) hx hb (off := 10) (show decode bS_coder 3 = .ok (.ifCond .eq 10, 3) by decide +kernel) (by decide) (fun q => absurd q (by decide)) (fun _ => ?_)
  refine lv_aload_n hx hb (show decode bS_coder 6 = .ok (.aload_n 0, 1) by decide +kernel) rfl (lv_at hl 0 rfl) ?_
  refine vk_getf hx hb (hE.1.1 i hi).2.1 va_S.rf hown (hts _ wS_f15) (fun x h => h) (show decode bS_coder 7 = .ok (.getfield 15, 3) by decide +kernel) ?_
  refine lv_goto (tgt := 14) (off := 4) hx hb (show decode bS_coder 10 = .ok (.goto 4, 3) by decide +kernel) (by decide) ?_
  exact W.zret (ty := .byte) hx hb Bd.returns rfl (fun t ht _ => ⟨rfl, ht⟩) (fun q hq => by cases hq) (show decode bS_coder 14 = .ok (.ireturn, 1) by decide +kernel) hlocks
theorem cS_isL {i : Nat} (hi : i < 6) : zMi l N0 adK adV yS_isL bS_isL 1 (some .boolean) 1 [.ref (adK i)] (some (.int 1)) := by
  refine Met.ofW (cc := bS_isL) (maxL := 1) (ret := some .boolean) (by decide) rfl ?_
  intro p e s m args below meth c s₁ Bd hml hv
  obtain ⟨rfl, hE⟩ := hv
  have hE : zHv N0 adK adV s s.heap := hE
  have hx := Bd.exec
  have hb := Bd.bytes
  have hts : ∀ w ∈ lw_g, w.before _ s = true := fun w hw => atoms_spec (ws := Cond.code yS_isL bS_isL 1 (some .boolean) :: lw_g) Bd.pre w (List.mem_cons_of_mem _ hw)
  have hown : s.vm.findClass "java/lang/String" = some m.cls := findClass_of_methodNamed Bd.named
  have hlocks := Bd.notSynchronized
  rw [lg_entry_eq]
  have hl := lv_entry ([.ref (adK i)]) (n := 1) (Nat.le_of_ble_eq_true rfl)
  generalize (lg_sl ([.ref (adK i)]) ++ List.replicate (1 - (lg_sl ([.ref (adK i)])).length) Slot.unset).toArray = ls at hl ⊢
  have hl : lv_has ls 1 [(0, .ref (adK i))] := hl
  refine va_gets hx hb hE.2.1 va_S.rf hown (hts _ wS_f38) (fun x h => h) (show decode bS_isL 0 = .ok (.getstatic 38, 3) by decide +kernel) ?_
  refine lv_if_eq (tgt := 17) hx hb (off := 14) (show decode bS_isL 3 = .ok (.ifCond .eq 14, 3) by decide +kernel) (by decide) (fun q => absurd q (by decide)) (fun _ => ?_)
  refine lv_aload_n hx hb (show decode bS_isL 6 = .ok (.aload_n 0, 1) by decide +kernel) rfl (lv_at hl 0 rfl) ?_
  refine vk_getf hx hb (hE.1.1 i hi).2.1 va_S.rf hown (hts _ wS_f15) (fun x h => h) (show decode bS_isL 7 = .ok (.getfield 15, 3) by decide +kernel) ?_
  refine lv_if_ne (tgt := 17) hx hb (off := 7) (show decode bS_isL 10 = .ok (.ifCond .ne 7, 3) by decide +kernel) (by decide) (fun q => absurd rfl q) (fun _ => ?_)
  refine lv_iconst (v := 1) (n := 1) hx hb (show decode bS_isL 13 = .ok (.iconst 1, 1) by decide +kernel) rfl ?_
  refine lv_goto (tgt := 18) (off := 4) hx hb (show decode bS_isL 14 = .ok (.goto 4, 3) by decide +kernel) (by decide) ?_
  exact W.zret (ty := .boolean) hx hb Bd.returns rfl (fun t ht _ => ⟨rfl, ht⟩) (fun q hq => by cases hq) (show decode bS_isL 18 = .ok (.ireturn, 1) by decide +kernel) hlocks
theorem cS_len {i : Nat} (hi : i < 6) : zMi l N0 adK adV yS_len bS_len 1 (some .int) 2 [.ref (adK i)] (some (.int (Int32.ofNat (zlenS.getD i 0)))) := by
  refine Met.ofW (cc := bS_len) (maxL := 1) (ret := some .int) (by decide) rfl ?_
  intro p e s m args below meth c s₁ Bd hml hv
  obtain ⟨rfl, hE⟩ := hv
  have hE : zHv N0 adK adV s s.heap := hE
  have hx := Bd.exec
  have hb := Bd.bytes
  have hts : ∀ w ∈ lw_g, w.before _ s = true := fun w hw => atoms_spec (ws := Cond.code yS_len bS_len 1 (some .int) :: lw_g) Bd.pre w (List.mem_cons_of_mem _ hw)
  have hown : s.vm.findClass "java/lang/String" = some m.cls := findClass_of_methodNamed Bd.named
  have hlocks := Bd.notSynchronized
  rw [lg_entry_eq]
  have hl := lv_entry ([.ref (adK i)]) (n := 1) (Nat.le_of_ble_eq_true rfl)
  generalize (lg_sl ([.ref (adK i)]) ++ List.replicate (1 - (lg_sl ([.ref (adK i)])).length) Slot.unset).toArray = ls at hl ⊢
  have hl : lv_has ls 1 [(0, .ref (adK i))] := hl
  refine lv_aload_n hx hb (show decode bS_len 0 = .ok (.aload_n 0, 1) by decide +kernel) rfl (lv_at hl 0 rfl) ?_
  refine vk_getf hx hb (hE.1.1 i hi).2.2.1 va_S.rf hown (hts _ wS_f9) (fun x h => h) (show decode bS_len 1 = .ok (.getfield 9, 3) by decide +kernel) ?_
  refine va_tlen hx hb (hE.1.1 i hi).2.2.2 va_S.rf (v := Int32.ofNat (zlenS.getD i 0)) rfl (show decode bS_len 4 = .ok (.arraylength, 1) by decide +kernel) ?_
  refine lv_aload_n hx hb (show decode bS_len 5 = .ok (.aload_n 0, 1) by decide +kernel) rfl (lv_at hl 0 rfl) ?_
  refine zst_V (As := []) (rest := [.int (Int32.ofNat (zlenS.getD i 0))]) (d := 1) (n := 0) (idx := 335) hx hb hml hl.1 hown hts wS_coder_c wS_coder_i wS_l335 wS_coder_m wS_coder_s (by decide) (by decide +kernel) (by decide) (by decide) (by decide) hE hi (cS_coder hi) (show decode bS_len 6 = .ok (.invokevirtual 335, 3) by decide +kernel) rfl (by show (1 + 0 : Nat) ≤ 8; decide) ?_
  refine lv_ishr hx hb (show decode bS_len 9 = .ok (.ishr, 1) by decide +kernel) ?_
  have hsh : ∀ i, i < 6 → Int32.ofNat (zlenS.getD i 0) >>> ((0 : Int32) &&& 31) = Int32.ofNat (zlenS.getD i 0) := by decide
  rw [hsh i hi]
  exact W.iret hx hb Bd.returns (fun t ht _ => ⟨rfl, ht⟩) (fun q hq => by cases hq) (show decode bS_len 10 = .ok (.ireturn, 1) by decide +kernel) hlocks
theorem cS_chk {k n : Int32} {v : Value} (hcat : ¬ v.category = 2) (h0 : ¬ k < 0) (h1 : k < n) : zMi l N0 adK adV yS_chk bS_chk 3 (some .int) 1 [.int k, .int n, v] (some (.int k)) := by
  refine Met.ofW (cc := bS_chk) (maxL := 3) (ret := some .int) (by decide) rfl ?_
  intro p e s m args below meth c s₁ Bd hml hv
  obtain ⟨rfl, hE⟩ := hv
  have hx := Bd.exec
  have hb := Bd.bytes
  have hlocks := Bd.notSynchronized
  rw [lg_entry_eq]
  have hl := lv_entry ([.int k, .int n, v]) (n := 3) (by
    have e : lg_sl [.int k, .int n, v] = [.val (.int k), .val (.int n)] ++ (if v.category = 2 then [.val v, .second] else [.val v]) := by simp [lg_sl, Value.category]
    rw [e, if_neg hcat]
    exact Nat.le_refl 3)
  generalize (lg_sl ([.int k, .int n, v]) ++ List.replicate (3 - (lg_sl ([.int k, .int n, v])).length) Slot.unset).toArray = ls at hl ⊢
  have hl : lv_has ls 3 [(0, .int k), (1, .int n), (2, v)] := hl
  refine lv_iload_n hx hb (show decode bS_chk 0 = .ok (.iload_n 0, 1) by decide +kernel) rfl (lv_at hl 0 rfl) ?_
  refine lv_if_lt (tgt := 9) hx hb (off := 8) (show decode bS_chk 1 = .ok (.ifCond .lt 8, 3) by decide +kernel) (by decide) (fun q => absurd q h0) (fun _ => ?_)
  refine lv_iload_n hx hb (show decode bS_chk 4 = .ok (.iload_n 0, 1) by decide +kernel) rfl (lv_at hl 0 rfl) ?_
  refine lv_iload_n hx hb (show decode bS_chk 5 = .ok (.iload_n 1, 1) by decide +kernel) rfl (lv_at hl 1 rfl) ?_
  refine lv_icmp_lt (tgt := 16) hx hb (off := 10) (show decode bS_chk 6 = .ok (.if_icmp .lt 10, 3) by decide +kernel) (by decide) (fun _ => ?_) (fun q => absurd h1 q)
  refine lv_iload_n hx hb (show decode bS_chk 16 = .ok (.iload_n 0, 1) by decide +kernel) rfl (lv_at hl 0 rfl) ?_
  exact W.iret hx hb Bd.returns (fun t ht _ => ⟨rfl, ht⟩) (fun q hq => by cases hq) (show decode bS_chk 17 = .ok (.ireturn, 1) by decide +kernel) hlocks
theorem cS_sck {k n : Int32} (h0 : ¬ k < 0) (h1 : k < n) : zMi l N0 adK adV yS_sck bS_sck 2 none 2 [.int k, .int n] none := by
  refine Met.ofW (cc := bS_sck) (maxL := 2) (ret := none) (by decide) rfl ?_
  intro p e s m args below meth c s₁ Bd hml hv
  obtain ⟨rfl, hE⟩ := hv
  have hE : zHv N0 adK adV s s.heap := hE
  have hx := Bd.exec
  have hb := Bd.bytes
  have hts : ∀ w ∈ lw_g, w.before _ s = true := fun w hw => atoms_spec (ws := Cond.code yS_sck bS_sck 2 none :: lw_g) Bd.pre w (List.mem_cons_of_mem _ hw)
  have hown : s.vm.findClass "java/lang/String" = some m.cls := findClass_of_methodNamed Bd.named
  have hlocks := Bd.notSynchronized
  rw [lg_entry_eq]
  have hl := lv_entry ([.int k, .int n]) (n := 2) (Nat.le_of_ble_eq_true rfl)
  generalize (lg_sl ([.int k, .int n]) ++ List.replicate (2 - (lg_sl ([.int k, .int n])).length) Slot.unset).toArray = ls at hl ⊢
  have hl : lv_has ls 2 [(0, .int k), (1, .int n)] := hl
  have fin : ∀ v : Value, ¬ v.category = 2 → va_Z "jdk/internal/util/Preconditions" "SIOOBE_FORMATTER" "Ljava/util/function/BiFunction;" v (fun q => N0 ≤ q) s s.heap → W p l e (headSpec (Cond.code yS_sck bS_sck 2 none :: lw_g) { frames := 2, cells := 0, slots := 0, locals := 60 * 2 }).room s m #[Value.int k, Value.int n] below meth c s.heap [] 0 0 (MQ below (zSi none) #[Value.int k, Value.int n] s 0 0 (fun _ => False)) (F0 m 0 ls []) := by
    intro v hcat hZ
    refine lv_iload_n hx hb (show decode bS_sck 0 = .ok (.iload_n 0, 1) by decide +kernel) rfl (lv_at hl 0 rfl) ?_
    refine lv_iload_n hx hb (show decode bS_sck 1 = .ok (.iload_n 1, 1) by decide +kernel) rfl (lv_at hl 1 rfl) ?_
    refine va_gets hx hb hZ va_S.rf hown (hts _ wS_f1053) (fun x h => h) (show decode bS_sck 2 = .ok (.getstatic 1053, 3) by decide +kernel) ?_
    refine zst_S (As := [.int k, .int n, v]) (rest := []) (d := 1) (n := 3) (idx := 1059) hx hb hml hl.1 hown hts wS_chk_c wS_chk_i wS_l1059 wS_chk_m (by decide) (by decide +kernel) (by decide) (by decide) (by decide) hE (cS_chk hcat h0 h1) (show decode bS_sck 5 = .ok (.invokestatic 1059, 3) by decide +kernel) rfl (by decide) ?_
    refine lv_pop hx hb (show decode bS_sck 8 = .ok (.pop, 1) by decide +kernel) rfl ?_
    exact W.vret hx hb Bd.returns (fun t ht _ => ⟨rfl, ht⟩) (fun q hq => by cases hq) (show decode bS_sck 9 = .ok (.return_, 1) by decide +kernel) hlocks
  rcases hE.2.2 with hZ | ⟨t, hZ⟩
  · exact fin .null (by decide) hZ
  · exact fin (.ref t) (by show ¬ (1 : Nat) = 2; decide) hZ
def zchS (i k : Nat) : Int32 := (zbytS.getD i []).getD k 0
theorem zchS_ok : ∀ i, i < 6 → ∀ k, k < zlenS.getD i 0 → ((zchS i k &&& (Int16.ofInt 255).toInt32).toUInt32 % 65536).toInt32 = zchS i k ∧ narrow .char (.int (zchS i k)) = .int (zchS i k) := by decide +kernel
theorem zlenS_ok : ∀ i, i < 6 → zlenS.getD i 0 < 11 := by decide
theorem cS_l1c {i k : Nat} (hi : i < 6) (hk : k < zlenS.getD i 0) : zMi l N0 adK adV yS_l1c bS_l1c 2 (some .char) 3 [.ref (adV i), .int (nI k)] (some (.int (zchS i k))) := by
  have hlen := zlenS_ok i hi
  refine Met.ofW (cc := bS_l1c) (maxL := 2) (ret := some .char) (by decide) rfl ?_
  intro p e s m args below meth c s₁ Bd hml hv
  obtain ⟨rfl, hE⟩ := hv
  have hE : zHv N0 adK adV s s.heap := hE
  have hx := Bd.exec
  have hb := Bd.bytes
  have hts : ∀ w ∈ lw_g, w.before _ s = true := fun w hw => atoms_spec (ws := Cond.code yS_l1c bS_l1c 2 (some .char) :: lw_g) Bd.pre w (List.mem_cons_of_mem _ hw)
  have hown : s.vm.findClass "java/lang/StringLatin1" = some m.cls := findClass_of_methodNamed Bd.named
  have hlocks := Bd.notSynchronized
  rw [lg_entry_eq]
  have hl := lv_entry ([.ref (adV i), .int (nI k)]) (n := 2) (Nat.le_of_ble_eq_true rfl)
  generalize (lg_sl ([.ref (adV i), .int (nI k)]) ++ List.replicate (2 - (lg_sl ([.ref (adV i), .int (nI k)])).length) Slot.unset).toArray = ls at hl ⊢
  have hl : lv_has ls 2 [(0, .ref (adV i)), (1, .int (nI k))] := hl
  refine lv_iload_n hx hb (show decode bS_l1c 0 = .ok (.iload_n 1, 1) by decide +kernel) rfl (lv_at hl 1 rfl) ?_
  refine lv_aload_n hx hb (show decode bS_l1c 1 = .ok (.aload_n 0, 1) by decide +kernel) rfl (lv_at hl 0 rfl) ?_
  refine va_tlen hx hb (hE.1.1 i hi).2.2.2 va_S.rf (v := nI (zlenS.getD i 0)) rfl (show decode bS_l1c 2 = .ok (.arraylength, 1) by decide +kernel) ?_
  refine zst_S (As := [.int (nI k), .int (nI (zlenS.getD i 0))]) (rest := []) (d := 2) (n := 2) (idx := 9) hx hb hml hl.1 hown hts wS_sck_c wS_sck_i wS_l9 wS_sck_m (by decide) (by decide +kernel) (by decide) (by decide) (by decide) hE (cS_sck (nI_pos (by omega)) (nI_lt hk (by omega))) (show decode bS_l1c 3 = .ok (.invokestatic 9, 3) by decide +kernel) rfl (by decide) ?_
  refine lv_aload_n hx hb (show decode bS_l1c 6 = .ok (.aload_n 0, 1) by decide +kernel) rfl (lv_at hl 0 rfl) ?_
  refine lv_iload_n hx hb (show decode bS_l1c 7 = .ok (.iload_n 1, 1) by decide +kernel) rfl (lv_at hl 1 rfl) ?_
  refine va_tb hx hb (hE.1.1 i hi).2.2.2 va_S.rf (vp_in_nI hk (by omega)) (v := .int (zchS i k)) (by rw [nI_clamp (by omega)]; rfl) (show decode bS_l1c 8 = .ok (.baload, 1) by decide +kernel) ?_
  refine lv_sipush (n := 255) hx hb (show decode bS_l1c 9 = .ok (.sipush 255, 3) by decide +kernel) rfl ?_
  refine lv_iand hx hb (show decode bS_l1c 12 = .ok (.iand, 1) by decide +kernel) ?_
  refine lv_i2c hx hb (show decode bS_l1c 13 = .ok (.i2c, 1) by decide +kernel) (zchS_ok i hi k hk).1 ?_
  exact W.zret (ty := .char) hx hb Bd.returns (zchS_ok i hi k hk).2 (fun t ht _ => ⟨rfl, ht⟩) (fun q hq => by cases hq) (show decode bS_l1c 14 = .ok (.ireturn, 1) by decide +kernel) hlocks
theorem cS_chr {i k : Nat} (hi : i < 6) (hk : k < zlenS.getD i 0) : zMi l N0 adK adV yS_chr bS_chr 2 (some .char) 4 [.ref (adK i), .int (nI k)] (some (.int (zchS i k))) := by
  refine Met.ofW (cc := bS_chr) (maxL := 2) (ret := some .char) (by decide) rfl ?_
  intro p e s m args below meth c s₁ Bd hml hv
  obtain ⟨rfl, hE⟩ := hv
  have hE : zHv N0 adK adV s s.heap := hE
  have hx := Bd.exec
  have hb := Bd.bytes
  have hts : ∀ w ∈ lw_g, w.before _ s = true := fun w hw => atoms_spec (ws := Cond.code yS_chr bS_chr 2 (some .char) :: lw_g) Bd.pre w (List.mem_cons_of_mem _ hw)
  have hown : s.vm.findClass "java/lang/String" = some m.cls := findClass_of_methodNamed Bd.named
  have hlocks := Bd.notSynchronized
  rw [lg_entry_eq]
  have hl := lv_entry ([.ref (adK i), .int (nI k)]) (n := 2) (Nat.le_of_ble_eq_true rfl)
  generalize (lg_sl ([.ref (adK i), .int (nI k)]) ++ List.replicate (2 - (lg_sl ([.ref (adK i), .int (nI k)])).length) Slot.unset).toArray = ls at hl ⊢
  have hl : lv_has ls 2 [(0, .ref (adK i)), (1, .int (nI k))] := hl
  refine lv_aload_n hx hb (show decode bS_chr 0 = .ok (.aload_n 0, 1) by decide +kernel) rfl (lv_at hl 0 rfl) ?_
  refine zst_V (As := []) (rest := []) (d := 1) (n := 0) (idx := 492) hx hb hml hl.1 hown hts wS_isL_c wS_isL_i wS_l492 wS_isL_m wS_isL_s (by decide) (by decide +kernel) (by decide) (by decide) (by decide) hE hi (cS_isL hi) (show decode bS_chr 1 = .ok (.invokevirtual 492, 3) by decide +kernel) rfl (by decide) ?_
  refine lv_if_eq (tgt := 16) hx hb (off := 12) (show decode bS_chr 4 = .ok (.ifCond .eq 12, 3) by decide +kernel) (by decide) (fun q => absurd q (by decide)) (fun _ => ?_)
  refine lv_aload_n hx hb (show decode bS_chr 7 = .ok (.aload_n 0, 1) by decide +kernel) rfl (lv_at hl 0 rfl) ?_
  refine vk_getf hx hb (hE.1.1 i hi).2.2.1 va_S.rf hown (hts _ wS_f9) (fun x h => h) (show decode bS_chr 8 = .ok (.getfield 9, 3) by decide +kernel) ?_
  refine lv_iload_n hx hb (show decode bS_chr 11 = .ok (.iload_n 1, 1) by decide +kernel) rfl (lv_at hl 1 rfl) ?_
  refine zst_S (As := [.ref (adV i), .int (nI k)]) (rest := []) (d := 3) (n := 2) (idx := 495) hx hb hml hl.1 hown hts wS_l1c_c wS_l1c_i wS_l495 wS_l1c_m (by decide) (by decide +kernel) (by decide) (by decide) (by decide) hE (cS_l1c hi hk) (show decode bS_chr 12 = .ok (.invokestatic 495, 3) by decide +kernel) rfl (by decide) ?_
  exact W.zret (ty := .char) hx hb Bd.returns (zchS_ok i hi k hk).2 (fun t ht _ => ⟨rfl, ht⟩) (fun q hq => by cases hq) (show decode bS_chr 15 = .ok (.ireturn, 1) by decide +kernel) hlocks
theorem zpl_at : ∀ i, i < 6 → (zstr.getD i []).length = zlenS.getD i 0 ∧ ∀ k, k < zlenS.getD i 0 → Int32.ofInt ((zstr.getD i []).getD k 0) = zchS i k ∧ z32b ((zstr.getD i []).getD k 0) = true := by decide +kernel
set_option maxHeartbeats 4000000 in
theorem cS_pl {b XL : Nat} {aC dC : Nat → ClassId} {dI : Nat → Nat → Nat} {X : Nat → Int} {i : Nat} {x : Int} {h : zh} (hi : i < 6) (hx32 : z32 x) (hI : zinv h) : zMet l N0 b XL aC dC dI adK X yPl bS_pl 3 (some .int) 1 7 [(3, (i : Int)), (0, x)] h (zpl i x) h := by
  have hlen := zlenS_ok i hi
  obtain ⟨pl1, pl2⟩ := zpl_at i hi
  unfold zMet
  rw [Nat.sub_self, Nat.sub_self]
  refine Met.ofW (cc := bS_pl) (maxL := 3) (ret := some .int) (by decide) rfl ?_
  intro p e s m args below meth c s₁ Bd hml hv
  obtain ⟨rfl, hsz, hP, hK, hcx, hXs⟩ := hv
  obtain ⟨adV, hE⟩ := hcx.2.2.2.2.2
  have hE : zHv N0 adK adV s s.heap := hE
  have hx := Bd.exec
  have hb := Bd.bytes
  have hts : ∀ w ∈ lw_g, w.before _ s = true := fun w hw => atoms_spec (ws := Cond.code yPl bS_pl 3 (some .int) :: lw_g) Bd.pre w (List.mem_cons_of_mem _ hw)
  have hown : s.vm.findClass "WordWar$LawReader" = some m.cls := findClass_of_methodNamed Bd.named
  have hlocks := Bd.notSynchronized
  have harg : ([(3, (i : Int)), (0, x)] : List zv).map (zrv N0 adK b) = [.ref (adK i), .int (Int32.ofInt x)] := rfl
  rw [harg] at *
  rw [lg_entry_eq]
  have hl := lv_entry ([.ref (adK i), .int (Int32.ofInt x)]) (n := 3) (Nat.le_of_ble_eq_true rfl)
  generalize (lg_sl ([.ref (adK i), .int (Int32.ofInt x)]) ++ List.replicate (3 - (lg_sl ([.ref (adK i), .int (Int32.ofInt x)])).length) Slot.unset).toArray = ls at hl ⊢
  have hl : lv_has ls 3 [(0, .ref (adK i)), (1, .int (Int32.ofInt x))] := hl
  have ret : ∀ (pc : Nat) (ls : Array Slot) (v : Int), v = zpl i x → z32 v → decode bS_pl pc = .ok (.ireturn, 1) → W p l e (headSpec (Cond.code yPl bS_pl 3 (some .int) :: lw_g) { frames := 7, cells := 0, slots := 0, locals := 60 * 7 }).room s m [.ref (adK i), .int (Int32.ofInt x)].toArray below meth c s.heap [] 0 0 (MQ below (zQc N0 aC dC dI 1 (zpl i x) h) [.ref (adK i), .int (Int32.ofInt x)].toArray s 0 0 (fun q => N0 ≤ q)) (F0 m pc ls [.int (Int32.ofInt v)]) := by
    intro pc ls v hv hv32 hd
    subst hv
    exact W.iret hx hb Bd.returns (fun t ht _ => ⟨rfl, by rw [ht]; exact hP, va_S.rf.F ht, hI, ⟨fun _ => hv32, fun (q : (1 : Nat) = 2) => absurd q (by decide)⟩⟩) (fun q hq => by cases hq) hd hlocks
  have loop : ∀ (n k : Nat) (ls : Array Slot), n + k = zlenS.getD i 0 → zplf x ((zstr.getD i []).drop k) (k : Int) = zpl i x → lv_has ls 3 [(2, .int (nI k)), (0, .ref (adK i)), (1, .int (Int32.ofInt x))] → W p l e (headSpec (Cond.code yPl bS_pl 3 (some .int) :: lw_g) { frames := 7, cells := 0, slots := 0, locals := 60 * 7 }).room s m [.ref (adK i), .int (Int32.ofInt x)].toArray below meth c s.heap [] 0 0 (MQ below (zQc N0 aC dC dI 1 (zpl i x) h) [.ref (adK i), .int (Int32.ofInt x)].toArray s 0 0 (fun q => N0 ≤ q)) (F0 m 2 ls []) := by
    intro n
    induction n with
    | zero =>
      intro k ls hk hz hl
      refine lv_iload_n hx hb (show decode bS_pl 2 = .ok (.iload_n 2, 1) by decide +kernel) rfl (lv_at hl 0 rfl) ?_
      refine lv_aload_n hx hb (show decode bS_pl 3 = .ok (.aload_n 0, 1) by decide +kernel) rfl (lv_at hl 1 rfl) ?_
      refine zst_V (As := []) (rest := [.int (nI k)]) (d := 2) (n := 0) (idx := 131) hx hb hml hl.1 hown hts wS_len_c wS_len_i wS_l131 wS_len_m wS_len_s (by decide) (by decide +kernel) (by decide) (by decide) (by decide) hE hi (cS_len hi) (show decode bS_pl 4 = .ok (.invokevirtual 131, 3) by decide +kernel) rfl (by show (1 + 0 : Nat) ≤ 8; decide) ?_
      refine lv_icmp_ge (tgt := 27) (off := 20) hx hb (show decode bS_pl 7 = .ok (.if_icmp .ge 20, 3) by decide +kernel) (by decide) (fun _ => ?_) (fun q => absurd (nI_le (a := zlenS.getD i 0) (b := k) (by omega) (by omega)) q)
      refine lv_iconst (n := -1) (v := Int32.ofInt (-1)) hx hb (show decode bS_pl 27 = .ok (.iconst (-1), 1) by decide +kernel) rfl ?_
      refine ret 28 ls (-1) ?_ (by unfold z32; omega) (show decode bS_pl 28 = .ok (.ireturn, 1) by decide +kernel)
      rw [← hz, List.drop_eq_nil_of_le (by omega)]
      rfl
    | succ n ih =>
      intro k ls hk hz hl
      have hkl : k < zlenS.getD i 0 := by omega
      obtain ⟨c1, c2⟩ := pl2 k hkl
      have c32 : z32 ((zstr.getD i []).getD k 0) := by
        unfold z32b at c2
        simp only [Bool.and_eq_true, decide_eq_true_eq] at c2
        exact c2
      have hdrop : (zstr.getD i []).drop k = (zstr.getD i []).getD k 0 :: (zstr.getD i []).drop (k + 1) := by
        have hk2 : k < (zstr.getD i []).length := by omega
        rw [List.drop_eq_getElem_cons hk2]
        congr 1
        rw [List.getD_eq_getElem?_getD (l := zstr.getD i []), List.getElem?_eq_getElem hk2]
        rfl
      rw [hdrop] at hz
      unfold zplf at hz
      refine lv_iload_n hx hb (show decode bS_pl 2 = .ok (.iload_n 2, 1) by decide +kernel) rfl (lv_at hl 0 rfl) ?_
      refine lv_aload_n hx hb (show decode bS_pl 3 = .ok (.aload_n 0, 1) by decide +kernel) rfl (lv_at hl 1 rfl) ?_
      refine zst_V (As := []) (rest := [.int (nI k)]) (d := 2) (n := 0) (idx := 131) hx hb hml hl.1 hown hts wS_len_c wS_len_i wS_l131 wS_len_m wS_len_s (by decide) (by decide +kernel) (by decide) (by decide) (by decide) hE hi (cS_len hi) (show decode bS_pl 4 = .ok (.invokevirtual 131, 3) by decide +kernel) rfl (by show (1 + 0 : Nat) ≤ 8; decide) ?_
      refine lv_icmp_ge (tgt := 27) (off := 20) hx hb (show decode bS_pl 7 = .ok (.if_icmp .ge 20, 3) by decide +kernel) (by decide) (fun q => absurd q (nI_ge hkl (by omega))) (fun _ => ?_)
      refine lv_aload_n hx hb (show decode bS_pl 10 = .ok (.aload_n 0, 1) by decide +kernel) rfl (lv_at hl 1 rfl) ?_
      refine lv_iload_n hx hb (show decode bS_pl 11 = .ok (.iload_n 2, 1) by decide +kernel) rfl (lv_at hl 0 rfl) ?_
      refine zst_V (As := [.int (nI k)]) (rest := []) (d := 4) (n := 1) (idx := 136) hx hb hml hl.1 hown hts wS_chr_c wS_chr_i wS_l136 wS_chr_m wS_chr_s (by decide) (by decide +kernel) (by decide) (by decide) (by decide) hE hi (cS_chr hi hkl) (show decode bS_pl 12 = .ok (.invokevirtual 136, 3) by decide +kernel) rfl (by decide) ?_
      refine lv_iload_n hx hb (show decode bS_pl 15 = .ok (.iload_n 1, 1) by decide +kernel) rfl (lv_at hl 2 rfl) ?_
      refine lv_icmp_ne (tgt := 21) (off := 5) hx hb (show decode bS_pl 16 = .ok (.if_icmp .ne 5, 3) by decide +kernel) (by decide) (fun q => ?_) (fun q => ?_)
      · rw [← c1, zo_eq c32 hx32] at q
        rw [if_neg q] at hz
        refine lv_iinc (v := nI (k + 1)) (k := 0) hx hb (show decode bS_pl 21 = .ok (.iinc 2 1, 3) by decide +kernel) hl rfl (by rw [nI_succ]; rfl) (by decide) rfl (fun ls hl => ?_)
        refine lv_goto (tgt := 2) (off := -22) hx hb (show decode bS_pl 24 = .ok (.goto (-22), 3) by decide +kernel) (by decide) ?_
        refine ih (k + 1) ls (by omega) ?_ hl
        rw [← hz]
        rfl
      · rw [← c1, zo_eq c32 hx32] at q
        rw [if_pos q] at hz
        refine lv_iload_n hx hb (show decode bS_pl 19 = .ok (.iload_n 2, 1) by decide +kernel) rfl (lv_at hl 0 rfl) ?_
        have := ret 20 ls (k : Int) hz (by unfold z32; omega) (show decode bS_pl 20 = .ok (.ireturn, 1) by decide +kernel)
        rw [Int32.ofInt_eq_ofNat] at this
        exact this
  refine lv_iconst (n := 0) (v := 0) hx hb (show decode bS_pl 0 = .ok (.iconst 0, 1) by decide +kernel) rfl ?_
  refine lv_istore_n (lv' := [(2, .int 0), (0, .ref (adK i)), (1, .int (Int32.ofInt x))]) hx hb (show decode bS_pl 1 = .ok (.istore_n 2, 1) by decide +kernel) rfl hl (by decide) rfl (fun ls hl => ?_)
  exact loop (zlenS.getD i 0) 0 ls rfl (by unfold zpl; rfl) hl
theorem zplM {b XL : Nat} {aC dC : Nat → ClassId} {dI : Nat → Nat → Nat} {X : Nat → Int} : zPlM l N0 b XL aC dC dI adK X bS_pl 3 := ⟨wS_pl_c, wS_pl_m, wS_pl_i, by decide, fun i x h hi hx hI => cS_pl hi hx hI⟩
end Place2

