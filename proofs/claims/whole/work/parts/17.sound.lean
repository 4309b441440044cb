theorem zent_lv {rv : zv → Value} (hrv : ∀ v : zv, (rv v).category = if v.1 = 1 then 2 else 1) : ∀ (as : List zv) (k m : Nat) (q : Nat × Value), q ∈ zlv rv k (zent as ++ List.replicate m (9, 0)) → q ∈ lv_args k (as.map rv)
  | [], k, m, q, hq => by
    exfalso
    obtain ⟨i, w, h1, h2, -⟩ := (zlv_mem _ _ _).mp hq
    have := List.mem_of_getElem? h1
    simp [zent] at this
    exact h2 (by rw [this.2])
  | (t, x) :: as, k, m, q, hq => by
    by_cases ht : t = 1
    · subst ht
      have hq : q ∈ zlv rv k ((1, x) :: (9, 0) :: (zent as ++ List.replicate m (9, 0))) := hq
      unfold zlv at hq
      rw [if_neg (show ¬ (1 : Nat) = 9 by decide)] at hq
      unfold zlv at hq
      rw [if_pos rfl] at hq
      show q ∈ (k, rv (1, x)) :: lv_args (if (rv (1, x)).category = 2 then k + 2 else k + 1) (as.map rv)
      rw [if_pos (show (rv (1, x)).category = 2 from hrv (1, x))]
      rcases List.mem_cons.mp hq with h | h
      · rw [h]; exact List.mem_cons_self
      · exact List.mem_cons_of_mem _ (zent_lv hrv as (k + 2) m q h)
    · have he : zent ((t, x) :: as) = (t, x) :: zent as := by
        match t, ht with
        | 0, _ => rfl
        | 1, h => exact absurd rfl h
        | t + 2, _ => rfl
      rw [he] at hq
      have hq : q ∈ zlv rv k ((t, x) :: (zent as ++ List.replicate m (9, 0))) := hq
      show q ∈ (k, rv (t, x)) :: lv_args (if (rv (t, x)).category = 2 then k + 2 else k + 1) (as.map rv)
      rw [if_neg (by rw [hrv]; simp [ht])]
      unfold zlv at hq
      split at hq
      · exact List.mem_cons_of_mem _ (zent_lv hrv as (k + 1) m q hq)
      · rcases List.mem_cons.mp hq with h | h
        · rw [h]; exact List.mem_cons_self
        · exact List.mem_cons_of_mem _ (zent_lv hrv as (k + 1) m q h)
theorem zent_len {rv : zv → Value} (hrv : ∀ v : zv, (rv v).category = if v.1 = 1 then 2 else 1) : ∀ (as : List zv), (lg_sl (as.map rv)).length = (zent as).length
  | [] => rfl
  | (t, x) :: as => by
    have ih := zent_len hrv as
    unfold lg_sl at ih ⊢
    simp only [List.map_cons, List.flatMap_cons, List.length_append, ih]
    by_cases ht : t = 1
    · subst ht
      have hc : (rv (1, x)).category = 2 := hrv (1, x)
      rw [if_pos hc]
      show 2 + _ = (zent as).length + 1 + 1
      omega
    · have he : zent ((t, x) :: as) = (t, x) :: zent as := by
        match t, ht with
        | 0, _ => rfl
        | 1, h => exact absurd rfl h
        | t + 2, _ => rfl
      rw [he, if_neg (by rw [hrv]; simp [ht])]
      show 1 + _ = (zent as).length + 1
      omega
theorem zent_ok {h : zh} : ∀ (as : List zv), (∀ a ∈ as, zvok h a) → ∀ w ∈ zent as, zvok h w
  | [], _, w, hw => by simp [zent] at hw
  | (t, x) :: as, ha, w, hw => by
    have ih := zent_ok as (fun a h => ha a (List.mem_cons_of_mem _ h)) w
    have h0 := ha _ List.mem_cons_self
    by_cases ht : t = 1
    · subst ht
      have hw : w ∈ (1, x) :: (9, 0) :: zent as := hw
      rcases List.mem_cons.mp hw with rfl | hw
      · exact h0
      · rcases List.mem_cons.mp hw with rfl | hw
        · exact zok9
        · exact ih hw
    · have he : zent ((t, x) :: as) = (t, x) :: zent as := by
        match t, ht with
        | 0, _ => rfl
        | 1, h => exact absurd rfl h
        | t + 2, _ => rfl
      rw [he] at hw
      rcases List.mem_cons.mp hw with rfl | hw
      · exact h0
      · exact ih hw
section Whole
variable {l : Launch} {N0 b XL : Nat} {aC dC : Nat → ClassId} {dI : Nat → Nat → Nat} {adK : Nat → Nat} {X : Nat → Int} {nM : Nat} {P : Nat → zM} {Y : Nat → MethodName} {B : Nat → ByteArray} {O : Nat → Option FieldType} {F : Nat} {Bp : ByteArray} {mp : Nat}
set_option maxHeartbeats 4000000 in
theorem zsound (hbN : b < N0) (hX : ∀ j, z32 (X j)) (hXL : XL ≤ 3072) (hA : ∀ j, j < nM → zMok nM P Y B O j) (hpl : zPlM l N0 b XL aC dC dI adK X Bp mp) : ∀ d, zIH l N0 b XL aC dC dI adK X nM P Y B O F d
  | 0 => fun j as h v h2 rk hj hc _ _ _ => by simp [zcall] at hc
  | d + 1 => by
    intro j as h v h2 rk hj hc hI hoks hrk
    have ihd := zsound hbN hX hXL hA hpl d
    unfold zcall at hc
    cases hb : decide ((zent as).length ≤ (P j).2.2.1) with
    | false => rw [hb] at hc; cases hc
    | true =>
    rw [hb] at hc
    have hc : zgo (P j).1 (P j).2.1 X XL (fun mi as h => zcall P X XL F d mi as h) (P j).2.2.2 F (P j).2.2.2 (zentry (P j).2.2.1 as) [] h = some (v, h2) := hc
    have hb := of_decide_eq_true hb
    obtain ⟨m1, m2, m3, m4, m5, m6⟩ := id (hA j hj)
    unfold zMet
    refine Met.ofW (cc := B j) (maxL := (P j).2.2.1) (ret := O j) m1 rfl ?_
    intro p e s m args below meth c s₁ Bd hml hv
    obtain ⟨rfl, hsz, hP, hK, hcx, hXs⟩ := hv
    have hts : ∀ w ∈ lw_g, w.before (as.map (zrv N0 adK b)).toArray s = true := fun w hw => atoms_spec (ws := Cond.code (Y j) (B j) (P j).2.2.1 (O j) :: lw_g) Bd.pre w (List.mem_cons_of_mem _ hw)
    have Fx : zFx p s m (as.map (zrv N0 adK b)).toArray c N0 b XL (P j).2.2.1 aC dC dI adK X (B j) (Y j).cls := ⟨Bd.exec, Bd.bytes, hml, findClass_of_methodNamed Bd.named, hts, hK, hcx, hXs, by omega, hbN, by omega, hX, hXL⟩
    cases hK0 : (P j).2.2.2 with
    | nil =>
      rw [hK0] at hc
      cases F <;> simp [zgo] at hc
    | cons e1 cs =>
    have he1 : e1.1 = 0 := zfind_head _ 0 e1 cs (m6.2.1.trans hK0)
    have hc' : zgo (P j).1 (P j).2.1 X XL (fun mi as h => zcall P X XL F d mi as h) (P j).2.2.2 F (e1 :: cs) (zentry (P j).2.2.1 as) [] h = some (v, h2) := by
      rw [← hK0]; exact hc
    have hle : zle2 h h2 := zgo_grow (fun mi as h r q => zcall_grow d mi as h r q) F _ _ _ h _ hc
    have key := zgo_ok (p := p) (l := l) (e := e) (R := (headSpec (Cond.code (Y j) (B j) (P j).2.2.1 (O j) :: lw_g) { frames := d + 1 + 8, cells := h2.1.length - h.1.length, slots := zsz h2 - zsz h, locals := 60 * (d + 1 + 8) }).room) (s := s) (m := m) (args := (as.map (zrv N0 adK b)).toArray) (below := below) (meth := meth) (c := c) (Q := MQ below (zQc N0 aC dC dI rk v h2) (as.map (zrv N0 adK b)).toArray s (h2.1.length - h.1.length) (zsz h2 - zsz h) (fun q => N0 ≤ q)) (c0 := h.1.length) (s0 := zsz h) (nM := nM) (mi := j) (F := F) (d := d) (P := P) (Y := Y) (B := B) (O := O) (v := v) (hv := h2) rfl rfl rfl Fx hsz (by show d + 9 ≤ d + 1 + 8; omega) (by show 60 * (d + 9) ≤ 60 * (d + 1 + 8); omega) (Nat.le_refl _) (Nat.le_refl _) (fun q => by rw [(name_of_methodNamed Bd.named Bd.method).1]; exact m5 q) m6 hA ihd hpl (fun pc len ls st h i r hd hln hOK hz => zret_ok Fx Bd.returns Bd.notSynchronized hrk hd hln hOK hz) F e1 cs (zentry (P j).2.2.1 as) [] h (by rw [hK0]; exact List.suffix_refl _) (by unfold zentry; simp; omega) hc'
    rw [he1] at key
    rw [lg_entry_eq]
    have hcat : ∀ v : zv, (zrv N0 adK b v).category = if v.1 = 1 then 2 else 1 := fun v => zrv_cat
    have hl := lv_entry (as.map (zrv N0 adK b)) (n := (P j).2.2.1) (by rw [zent_len hcat]; exact hb)
    have key2 := key s.heap _ [] hP hI (lv_has_sub hl (fun q hq => zent_lv hcat as 0 _ q hq)) (fun w hw => absurd hw List.not_mem_nil) (fun w hw => by
      unfold zentry at hw
      rcases List.mem_append.mp hw with hw | hw
      · exact zent_ok as hoks w hw
      · rw [(List.mem_replicate.mp hw).2]; exact zok9) (Nat.le_refl _) (Nat.le_refl _) va_S.rf
    rw [Nat.sub_self, Nat.sub_self] at key2
    exact key2
end Whole
