section Alloc
variable {p : Program} {l : Launch} {e : Env} {R : Room} {s : State} {m : MethodId} {args : Array Value} {below : List Frame} {meth : Method} {c : Code} {Q : State → Prop}
variable {N0 b XL c0 s0 maxL pc : Nat} {aC dC : Nat → ClassId} {dI : Nat → Nat → Nat} {adK : Nat → Nat} {X : Nat → Int} {cc : ByteArray} {own : String} {ls st : List zv} {h : zh} {o : zo}
theorem zec_c {kd : Nat} (h16 : 16 ≤ kd) (h19 : kd < 19) : zec kd < 12 ∧ (ztys aC)[kd - 12]? = some (aC kd, .object (zRc (zec kd))) := by
  have h3 : kd = 16 ∨ kd = 17 ∨ kd = 18 := by omega
  rcases h3 with rfl | rfl | rfl
  · exact ⟨by decide, rfl⟩
  · exact ⟨by decide, rfl⟩
  · exact ⟨by decide, rfl⟩
theorem zi_aast (Fx : zFx p s m args c N0 b XL maxL aC dC dI adK X cc own) (hd : decode cc pc = .ok (.aastore, 1)) (hz : z_aas ls st h = (true, o)) (kk : zcont (zWP p l e R s m args below meth c Q N0 b c0 s0 maxL aC dC dI adK) (pc + 1) o) : zWP p l e R s m args below meth c Q N0 b c0 s0 maxL aC dC dI adK pc ls st h := by
  unfold z_aas at hz
  split at hz
  · rename_i w v t i u a st
    simp only [zng, Prod.mk.injEq, Bool.and_eq_true, Bool.or_eq_true, beq_iff_eq, decide_eq_true_eq] at hz
    obtain ⟨⟨⟨⟨rfl, rfl⟩, rfl⟩, hix, hv0, hvl, hve⟩, rfl⟩ := hz
    have hix : 0 ≤ a ∧ 16 ≤ (zgd h a.toNat).1 ∧ (zgd h a.toNat).1 < 19 ∧ 0 ≤ i ∧ i < ((zgd h a.toNat).2.1 : Int) := by
      rcases hix with q | q | q <;> (obtain ⟨q1, q2, q3, q4⟩ := z_ix_spec q; exact ⟨q1, by omega, by omega, q3, q4⟩)
    obtain ⟨ha, h16, h19, h0, h1⟩ := hix
    rw [zgd_at, zgd_at] at hve
    simp only [zgd_at] at kk
    obtain ⟨e12, et⟩ := zec_c (aC := aC) h16 h19
    intro H lsR locs hP hI hl hs hls hc hz hS
    have hlt : a.toNat < h.1.length := zgd_lt (by omega)
    obtain ⟨f1, f2, f3, f4⟩ := zarr_r (N0 := N0) (aC := aC) hI hlt h16 h19
    have hi : z32 i := zix_32 h0 h1 f4
    obtain ⟨fv, -⟩ := zfld (aC := aC) (N0 := N0) hvl hI hve e12
    refine va_astq Fx.1 Fx.2.1 Fx.2.2.2.2.2.1 hP zwd_D hS a.toNat _ v.toNat (zec (zgd h a.toNat).1) f1 et fv (zcls_get e12) (zo_in hi h0 h1) hd fun H1 locs1 hP1 hD1 hS1 => ?_
    rw [zo_nat h0 hi] at hP1
    have hin : i.toNat < (zgd h a.toNat).2.2.length := by omega
    have hg : ∀ j, zgd (h.1.set a.toNat ((zgd h a.toNat).1, (zgd h a.toNat).2.1, (zgd h a.toNat).2.2.set i.toNat (some v.toNat)), h.2) j = if a.toNat = j then ((zgd h a.toNat).1, (zgd h a.toNat).2.1, (zgd h a.toNat).2.2.set i.toNat (some v.toNat)) else zgd h j := fun j => zgd_set hlt
    have hga := hg a.toNat
    rw [if_pos rfl] at hga
    have hset : ∀ j, ((zgd h a.toNat).2.2.set i.toNat (some v.toNat)).getD j none = if j = i.toNat then some v.toNat else (zgd h a.toNat).2.2.getD j none := by
      intro j
      rw [List.getD_eq_getElem?_getD, List.getD_eq_getElem?_getD, List.getElem?_set]
      by_cases hj : i.toNat = j
      · subst hj
        rw [if_pos rfl, if_pos hin, if_pos rfl]
        rfl
      · rw [if_neg hj, if_neg (Ne.symm hj)]
    have ho : ∀ j, j ≠ a.toNat → zgd (h.1.set a.toNat ((zgd h a.toNat).1, (zgd h a.toNat).2.1, (zgd h a.toNat).2.2.set i.toNat (some v.toNat)), h.2) j = zgd h j ∧ h.2 j = h.2 j := fun j hj => ⟨by rw [hg j, if_neg (Ne.symm hj)], rfl⟩
    have hlen : (h.1.set a.toNat ((zgd h a.toNat).1, (zgd h a.toNat).2.1, (zgd h a.toNat).2.2.set i.toNat (some v.toNat))).length = h.1.length := by simp
    rw [zwd_set (h' := (h.1.set a.toNat ((zgd h a.toNat).1, (zgd h a.toNat).2.1, (zgd h a.toNat).2.2.set i.toNat (some v.toNat)), h.2)) hlt hlen ?_ ho] at hP1
    · have hsz : zsz (h.1.set a.toNat ((zgd h a.toNat).1, (zgd h a.toNat).2.1, (zgd h a.toNat).2.2.set i.toNat (some v.toNat)), h.2) = zsz h := zsz_set hlt rfl
      have := kk.2 rfl H1 lsR locs1 hP1 (zinv_set (k := a.toNat) hI hlen (by
        rw [hga]
        refine Or.inr ⟨by show 12 ≤ (zgd h a.toNat).1; omega, h19, f4, fun q => ?_, fun q q2 => ?_, fun _ => ⟨by simp [f2], fun j q hq => ?_⟩⟩
        · simp only at q; omega
        · simp only at q2; omega
        · rw [hset] at hq
          by_cases hj : j = i.toNat
          · rw [if_pos hj] at hq
            cases hq
            exact hvl
          · rw [if_neg hj] at hq
            exact f3 j q hq) ho) hl (fun w hw => zok_len hlen (hs w (List.mem_cons_of_mem _ (List.mem_cons_of_mem _ (List.mem_cons_of_mem _ hw))))) (fun w hw => zok_len hlen (hls w hw)) (by rw [hlen]; exact hc) (by rw [hsz]; exact hz) hS1
      rw [hlen, hsz] at this
      exact this
    · rw [hga, zce_r (l := ((zgd h a.toNat).1, (zgd h a.toNat).2.1, (zgd h a.toNat).2.2.set i.toNat (some v.toNat))) h16]
      congr 7
      funext j
      unfold va_up
      rw [hset]
      split <;> rfl
  · simp [zno] at hz
theorem zsz_app {h : zh} {f : Nat → Nat → Int} {l : zl} : zsz (h.1 ++ [l], f) = zsz h + l.2.1 := by
  unfold zsz
  simp
theorem zgc_mono {n n' : Nat} (hn : n ≤ n') {l : zl} {f : Nat → Int} (hg : zgc n l f) : zgc n' l f := by
  rcases hg with ⟨h1, h2, h3, h4, h5, h6⟩ | ⟨h1, h2, h3, h4, h5, h6⟩
  · exact Or.inl ⟨h1, h2, h3, h4, fun j hj => Nat.lt_of_lt_of_le (h5 j hj) hn, fun j a ha => Nat.lt_of_lt_of_le (h6 j a ha) hn⟩
  · exact Or.inr ⟨h1, h2, h3, h4, h5, fun q => ⟨(h6 q).1, fun j a ha => Nat.lt_of_lt_of_le ((h6 q).2 j a ha) hn⟩⟩
/-- a cell is made: where it lies, and the world with it -/
theorem znew_go {lsR : Array Slot} {l1 : zl} {q : Nat} {e1 : va_E} {H1 : Heap} {locs1 : List Loc} (hN : s.heap.size = N0 + c0) (hI : zinv h) (hg : zgc (h.1.length + 1) l1 (fun _ => 0)) (he : e1 = zce N0 aC l1 (fun _ => 0)) (hl : lv_has lsR maxL (zlv (zrv N0 adK b) 0 ls)) (hs : ∀ w ∈ st, zvok h w) (hls : ∀ w ∈ ls, zvok h w) (hc : c0 ≤ h.1.length) (hz : s0 ≤ zsz h)
    (k : zWP p l e R s m args below meth c Q N0 b c0 s0 maxL aC dC dI adK pc ls ((2, (h.1.length : Int)) :: st) (h.1 ++ [l1], zclr h.2 h.1.length)) (hP1 : va_P (dC, dI) zcls (zwd N0 aC h ++ [(q, e1)]) H1) (hD1 : va_D (fun q => N0 ≤ q) (zwd N0 aC h ++ [(q, e1)])) (hS1 : va_S (fun q => N0 ≤ q) s.heap H1 locs1) : W p l e R s m args below meth c H1 locs1 (h.1.length - c0 + 1) (zsz h - s0 + l1.2.1) Q (F0 m pc lsR (.ref q :: st.map (zrv N0 adK b))) := by
  refine zW_size fun hsize => ?_
  have hq : q = N0 + h.1.length := by
    have hin : (zwd N0 aC h ++ [(q, e1)])[h.1.length]? = some (q, e1) := by
      rw [List.getElem?_append_right (by rw [zwd_len]; omega), zwd_len, Nat.sub_self]
      rfl
    have h1 : q < H1.size := (hP1 _ _ hin).lt
    have h2 : N0 ≤ q := hD1.2 _ _ hin
    rcases Nat.lt_or_ge q (N0 + h.1.length) with hlt | hge
    · exfalso
      have hk : q - N0 < h.1.length := by omega
      have := hD1.1 (q - N0) h.1.length (N0 + (q - N0), zce N0 aC (zgd h (q - N0)) (h.2 (q - N0))) (q, e1) (by rw [List.getElem?_append_left (by rw [zwd_len]; exact hk), zwd_get hk]) hin (by show N0 + (q - N0) = q; omega)
      omega
    · omega
  subst hq
  have hlen : (h.1 ++ [l1]).length = h.1.length + 1 := by simp
  have hga : ∀ j, zgd (h.1 ++ [l1], zclr h.2 h.1.length) j = if j < h.1.length then zgd h j else if j = h.1.length then l1 else (99, 0, []) := fun j => zgd_app
  have hcl : ∀ j, (h.1 ++ [l1], zclr h.2 h.1.length).2 j = if j = h.1.length then (fun _ => 0) else h.2 j := fun j => zclr_row
  have ho : ∀ j, j < h.1.length → zgd (h.1 ++ [l1], zclr h.2 h.1.length) j = zgd h j ∧ (h.1 ++ [l1], zclr h.2 h.1.length).2 j = h.2 j := fun j hj => ⟨by rw [hga, if_pos hj], by rw [hcl, if_neg (by omega)]⟩
  rw [zwd_push (h' := (h.1 ++ [l1], zclr h.2 h.1.length)) rfl hlen (by rw [hga, if_neg (by omega), if_pos rfl, hcl, if_pos rfl]; exact he) ho] at hP1
  have hI' : zinv (h.1 ++ [l1], zclr h.2 h.1.length) := by
    intro j hj
    show zgc (h.1 ++ [l1]).length _ _
    have hj : j < (h.1 ++ [l1]).length := hj
    rw [hlen] at hj ⊢
    by_cases hjl : j < h.1.length
    · rw [(ho j hjl).1, (ho j hjl).2]
      exact zgc_mono (Nat.le_succ _) (hI j hjl)
    · rw [hga, if_neg hjl, if_pos (by omega), hcl, if_pos (by omega)]
      exact hg
  have hle : h.1.length ≤ (h.1 ++ [l1], zclr h.2 h.1.length).1.length := by show h.1.length ≤ (h.1 ++ [l1]).length; omega
  have := k H1 lsR locs1 hP1 hI' hl (fun w hw => by
    rcases List.mem_cons.mp hw with rfl | hw
    · exact zokr (by simp) (by show _ < (h.1 ++ [l1]).length; simp)
    · exact zok_mono hle (hs w hw)) (fun w hw => zok_mono hle (hls w hw)) (by omega) (by rw [zsz_app]; omega) hS1
  rw [zsz_app] at this
  have e1 : (h.1 ++ [l1], zclr h.2 h.1.length).1.length - c0 = h.1.length - c0 + 1 := by show (h.1 ++ [l1]).length - c0 = _; omega
  have e2 : zsz h + l1.2.1 - s0 = zsz h - s0 + l1.2.1 := by omega
  rw [e1, e2] at this
  exact this
theorem zi_new (idx : Nat) (r : zr) (Fx : zFx p s m args c N0 b XL maxL aC dC dI adK X cc own) (hN : s.heap.size = N0 + c0) (hd : decode cc pc = .ok (.new idx, 3)) (h12 : r.2.1 < 12) (hn : r.2.2.1 = zN r.2.1) (hlk : Cond.classLink own idx (zRc r.2.1) ∈ lw_tbl)
    (hz : z_nw r.2.1 r.2.2.1 ls st h = (true, o)) (hR : ∀ b t ls' st' h', o = .inr (.inl (b, t, ls', st', h')) → h'.1.length - c0 ≤ R.cells ∧ zsz h' - s0 ≤ R.slots) (kk : zcont (zWP p l e R s m args below meth c Q N0 b c0 s0 maxL aC dC dI adK) (pc + 3) o) : zWP p l e R s m args below meth c Q N0 b c0 s0 maxL aC dC dI adK pc ls st h := by
  unfold z_nw znx at hz
  rw [hn] at hz
  have hz := (Prod.mk.injEq _ _ _ _).mp hz |>.2
  subst hz
  obtain ⟨hR1, hR2⟩ := hR _ _ _ _ _ rfl
  have hR1 : h.1.length + 1 - c0 ≤ R.cells := by simpa using hR1
  rw [zsz_app] at hR2
  have hR2 : zsz h + zN r.2.1 - s0 ≤ R.slots := hR2
  intro H lsR locs hP hI hl hs hls hc hz hS
  obtain ⟨-, -, -, -, hts, hK, -, -, -, -, hNs, -, -⟩ := id Fx
  refine va_new (fs := (List.range (zN r.2.1)).map fun j => zfv N0 r.2.1 j (List.replicate (zN r.2.1) none) 0) Fx.1 Fx.2.1 hts (zin_all h12) (zty r.2.1) (zty_ok h12) Fx.2.2.2.1 (hts _ (zg_in hlk rfl)) (hts _ (zinst h12).1) (hts _ (zinst h12).2) hK hP zwd_D hS (fun q hq => by show N0 ≤ q; omega) (zcls_get h12) (fun j hj => ?_) (by omega) (by omega) hd fun q H1 hP1 hD1 hS1 => ?_
  · have hall := (zty_all _ h12 _ hj).2.2.2
    unfold vp_V
    rw [List.getD_eq_getElem?_getD, List.getElem?_map, List.getElem?_range hj]
    show _ = zfv N0 r.2.1 j (List.replicate (zN r.2.1) none) 0
    have hrep : (List.replicate (zN r.2.1) (none : Option Nat)).getD j none = none := by
      rw [List.getD_eq_getElem?_getD, List.getElem?_replicate]
      split <;> rfl
    rcases hall with ⟨q1, q2⟩ | ⟨q1, q2⟩ | ⟨q1, q2⟩
    · rw [zfv_i (Or.inl q1), q2]; rfl
    · rw [zfv_i (Or.inr q1), q2]; rfl
    · have hnull : zfv N0 r.2.1 j (List.replicate (zN r.2.1) none) 0 = .null := by
        unfold zfv
        rcases q1 with q1 | q1
        · rw [q1]
          simp only
          rw [hrep]
        · rw [q1]
          rfl
      rw [hnull]
      cases hty : zty r.2.1 j <;> rw [hty] at q2 <;> first | rfl | cases q2
  · refine znew_go (l1 := (r.2.1, zN r.2.1, List.replicate (zN r.2.1) none)) hN hI (Or.inl ⟨h12, rfl, by simp, fun _ _ => z32_0, fun _ _ => by simp, fun j a ha => ?_⟩) (by rw [zce_o h12]) hl hs hls hc hz (kk.2 rfl) hP1 hD1 hS1
    rw [List.getD_eq_getElem?_getD, List.getElem?_replicate] at ha
    split at ha <;> simp at ha
theorem zRA_inj {s : State} {a a' : ClassId} {ty : FieldType} (h : va_RA s a ty) (h' : va_RA s a' ty) : a = a' := by
  have key : ∀ {a : ClassId}, va_RA s a ty → s.vm.findClass ("[" ++ ty.toString) = some a := by
    intro a h
    cases ty <;> first | exact h | (obtain ⟨kA, comp, -, -, -, h4⟩ := h; exact h4)
  exact Option.some.inj ((key h).symm.trans (key h'))
theorem zi_newa (kd : Nat) (at0 : ArrayType) (ty : FieldType) (Fx : zFx p s m args c N0 b XL maxL aC dC dI adK X cc own) (hN : s.heap.size = N0 + c0) (hd : decode cc pc = .ok (.newarray at0, 2)) (h12 : 12 ≤ kd) (h16 : kd < 16) (hty : newarray.typeOf at0 = ty) (hw : Cond.arrayClass (newarray.typeOf at0) ∈ lw_g) (htys : (ztys aC)[kd - 12]? = some (aC kd, ty))
    (hcell : ∀ (n : Nat) (cA : ClassId), vp_cell cA (n, zar N0 kd [] (fun _ => 0)) = arrV cA n (fun _ => defaultValue ty)) (hby : ∀ n, n ≤ 5000 → n * componentBytes ty ≤ 536870912)
    (hz : z_na kd ls st h = (true, o)) (hR : ∀ b t ls' st' h', o = .inr (.inl (b, t, ls', st', h')) → h'.1.length - c0 ≤ R.cells ∧ zsz h' - s0 ≤ R.slots) (kk : zcont (zWP p l e R s m args below meth c Q N0 b c0 s0 maxL aC dC dI adK) (pc + 2) o) : zWP p l e R s m args below meth c Q N0 b c0 s0 maxL aC dC dI adK pc ls st h := by
  unfold z_na at hz
  split at hz
  · rename_i t n st
    simp only [zng, Prod.mk.injEq, Bool.and_eq_true, beq_iff_eq, decide_eq_true_eq] at hz
    obtain ⟨⟨rfl, hn0, hn1⟩, rfl⟩ := hz
    rw [if_pos h16] at kk hR
    obtain ⟨hR1, hR2⟩ := hR _ _ _ _ _ rfl
    have hR1 : h.1.length + 1 - c0 ≤ R.cells := by simpa using hR1
    rw [zsz_app] at hR2
    have hR2 : zsz h + n.toNat - s0 ≤ R.slots := hR2
    intro H lsR locs hP hI hl hs hls hc hz hS
    obtain ⟨-, -, -, -, hts, hK, -, -, -, -, hNs, -, -⟩ := id Fx
    have hn32 : z32 n := by unfold z32; omega
    refine va_newa (ty := ty) (N' := n.toNat) (a0 := (n.toNat, zar N0 kd [] (fun _ => 0))) Fx.1 Fx.2.1 (hts _ hw) hty hK hP zwd_D hS (fun q hq => by show N0 ≤ q; omega) (hcell _) (by rw [zo_0, zo_lt hn32 z32_0]; omega) (zo_nat hn0 hn32) (hby _ (by omega)) (by omega) (by omega) hd fun q cA H1 hK1 hP1 hD1 hS1 => ?_
    have hcA : cA = aC kd := by
      have h1 := (hK1.2 (ztys aC).length (cA, ty) (by rw [List.getElem?_append_right (Nat.le_refl _), Nat.sub_self]; rfl)).2
      exact zRA_inj h1 (hK.2 _ _ htys).2
    subst hcA
    refine znew_go (l1 := (kd, n.toNat, [])) hN hI (Or.inr ⟨h12, by show kd < 19; omega, by show n.toNat ≤ 5000; omega, fun _ _ => (show z64 0 by unfold z64; omega), fun _ _ _ => z32_0, fun q => ?_⟩) (by unfold zce; rw [if_neg (by show ¬ kd < 12; omega)]) hl (fun w hw => hs w (List.mem_cons_of_mem _ hw)) hls hc hz (kk.2 rfl) hP1 hD1 hS1
    have q : 16 ≤ kd := q
    omega
  · simp [zno] at hz
theorem zi_newq (idx : Nat) (r : zr) (Fx : zFx p s m args c N0 b XL maxL aC dC dI adK X cc own) (hN : s.heap.size = N0 + c0) (hd : decode cc pc = .ok (.anewarray idx, 3)) (h16 : 16 ≤ r.2.1) (h19 : r.2.1 < 19) (hlk : Cond.classLink own idx (zRc (zec r.2.1)) ∈ lw_tbl)
    (hz : z_na r.2.1 ls st h = (true, o)) (hR : ∀ b t ls' st' h', o = .inr (.inl (b, t, ls', st', h')) → h'.1.length - c0 ≤ R.cells ∧ zsz h' - s0 ≤ R.slots) (kk : zcont (zWP p l e R s m args below meth c Q N0 b c0 s0 maxL aC dC dI adK) (pc + 3) o) : zWP p l e R s m args below meth c Q N0 b c0 s0 maxL aC dC dI adK pc ls st h := by
  unfold z_na at hz
  split at hz
  · rename_i t n st
    simp only [zng, Prod.mk.injEq, Bool.and_eq_true, beq_iff_eq, decide_eq_true_eq] at hz
    obtain ⟨⟨rfl, hn0, hn1⟩, rfl⟩ := hz
    rw [if_neg (by omega)] at kk hR
    obtain ⟨hR1, hR2⟩ := hR _ _ _ _ _ rfl
    have hR1 : h.1.length + 1 - c0 ≤ R.cells := by simpa using hR1
    rw [zsz_app] at hR2
    have hR2 : zsz h + n.toNat - s0 ≤ R.slots := hR2
    intro H lsR locs hP hI hl hs hls hc hz hS
    obtain ⟨-, -, -, -, hts, hK, hcx, -, -, -, hNs, -, -⟩ := id Fx
    have hn32 : z32 n := by unfold z32; omega
    obtain ⟨e12, et⟩ := zec_c (aC := aC) h16 h19
    have hAO : va_AO (zRc (zec r.2.1)) s := by
      have h3 : r.2.1 = 16 ∨ r.2.1 = 17 ∨ r.2.1 = 18 := by omega
      rcases h3 with q | q | q <;> rw [q]
      · exact hcx.2.2.1
      · exact hcx.2.2.2.1
      · exact hcx.2.2.2.2.1
    refine va_newq (N' := n.toNat) Fx.1 Fx.2.1 Fx.2.2.2.1 (hts _ (zg_in hlk rfl)) hAO hK hP zwd_D hS (fun q hq => by show N0 ≤ q; omega) (by rw [zo_0, zo_lt hn32 z32_0]; omega) (zo_nat hn0 hn32) (by omega) (by omega) (by omega) hd fun q cA H1 hK1 hP1 hD1 hS1 => ?_
    have hcA : cA = aC r.2.1 := by
      have h1 := (hK1.2 (ztys aC).length (cA, _) (by rw [List.getElem?_append_right (Nat.le_refl _), Nat.sub_self]; rfl)).2
      exact zRA_inj h1 (hK.2 _ _ et).2
    subst hcA
    have hrep : ∀ j, (List.replicate n.toNat (none : Option Nat)).getD j none = none := by
      intro j
      rw [List.getD_eq_getElem?_getD, List.getElem?_replicate]
      split <;> rfl
    refine znew_go (l1 := (r.2.1, n.toNat, List.replicate n.toNat none)) hN hI (Or.inr ⟨by show 12 ≤ r.2.1; omega, h19, by show n.toNat ≤ 5000; omega, fun q => ?_, fun _ q => ?_, fun _ => ⟨by simp, fun j a ha => ?_⟩⟩) ?_ hl (fun w hw => hs w (List.mem_cons_of_mem _ hw)) hls hc hz (kk.2 rfl) hP1 hD1 hS1
    · have q : r.2.1 = 13 := q
      omega
    · have q : r.2.1 < 16 := q
      omega
    · rw [hrep] at ha
      cases ha
    · rw [zce_r h16]
      congr 7
      funext j
      rw [hrep]
      rfl
  · simp [zno] at hz
theorem zi_obj (idx : Nat) (Fx : zFx p s m args c N0 b XL maxL aC dC dI adK X cc own) (hf : 1 ≤ R.frames) (hlo : 60 ≤ R.locals) (hd : decode cc pc = .ok (.invokespecial idx, 3)) (hlk : Cond.methodLink own idx Lib.objectInit ∈ lw_tbl) (hz : (match st with
    | (t, _) :: s => zng (t == 2 && decide (zcat s ≤ 8)) ls s h
    | _ => zno) = (true, o)) (kk : zcont (zWP p l e R s m args below meth c Q N0 b c0 s0 maxL aC dC dI adK) (pc + 3) o) : zWP p l e R s m args below meth c Q N0 b c0 s0 maxL aC dC dI adK pc ls st h := by
  split at hz
  · rename_i t a st
    simp only [zng, Prod.mk.injEq, Bool.and_eq_true, beq_iff_eq, decide_eq_true_eq] at hz
    obtain ⟨⟨rfl, hcat⟩, rfl⟩ := hz
    intro H lsR locs hP hI hl hs hls hc hz hS
    obtain ⟨-, -, hml, hown, hts, -⟩ := id Fx
    have hroom := lv_room (m := m) (pc := pc) (ls := lsR) (rest := ((2, a) :: st).map (zrv N0 adK b)) (st := st.map (zrv N0 adK b)) (by rw [zcat_eq]; exact hcat)
    refine W.objInit (rest := st.map (zrv N0 adK b)) Fx.1 Fx.2.1 hown (hts _ (zg_in hlk rfl)) (hts _ zobjw.1) (hts _ zobjw.2) rfl (by show lsR.size = _; rw [hml]; exact hl.1) rfl hd hf (by omega) ?_
    exact kk.2 rfl H lsR locs hP hI hl (fun w hw => hs w (List.mem_cons_of_mem _ hw)) hls hc hz hS
  · simp [zno] at hz
theorem zi_copy (idx : Nat) (Fx : zFx p s m args c N0 b XL maxL aC dC dI adK X cc own) (hf : 1 ≤ R.frames) (hlo : 60 ≤ R.locals) (hd : decode cc pc = .ok (.invokestatic idx, 3)) (hlk : Cond.methodLink own idx arraycopyName ∈ lw_tbl) (hz : (match st with
    | (t1, n) :: (t2, dp) :: (t3, b) :: (t4, sp) :: (t5, a) :: s => zng (t1 == 0 && t2 == 0 && t3 == 2 && t4 == 0 && t5 == 2 && (decide (0 ≤ a) && (decide (0 ≤ b) && ((zat h a).1 == 12 && ((zat h b).1 == 12 && (decide (0 ≤ n) && (decide (0 ≤ sp) && (decide (0 ≤ dp) && (decide (sp + n ≤ ((zat h a).2.1 : Int)) && (decide (dp + n ≤ ((zat h b).2.1 : Int)) && decide (zcat s ≤ 8))))))))))) ls s (h.1, zcpy h.2 a.toNat sp.toNat b.toNat dp.toNat n.toNat)
    | _ => zno) = (true, o)) (kk : zcont (zWP p l e R s m args below meth c Q N0 b c0 s0 maxL aC dC dI adK) (pc + 3) o) : zWP p l e R s m args below meth c Q N0 b c0 s0 maxL aC dC dI adK pc ls st h := by
  split at hz
  · rename_i t1 n t2 dp t3 a1 t4 sp t5 a st
    simp only [zng, Prod.mk.injEq, Bool.and_eq_true, beq_iff_eq, decide_eq_true_eq] at hz
    obtain ⟨⟨⟨⟨⟨⟨rfl, rfl⟩, rfl⟩, rfl⟩, rfl⟩, ha, ha1, hk, hk1, hn, hsp, hdp, hl0, hl1, hcat⟩, rfl⟩ := hz
    rw [zgd_at] at hk hk1 hl0 hl1
    intro H lsR locs hP hI hl hs hls hc hz hS
    obtain ⟨-, -, hml, hown, hts, hK, -⟩ := id Fx
    have hlt : a.toNat < h.1.length := zgd_lt (by omega)
    have hlt1 : a1.toNat < h.1.length := zgd_lt (by omega)
    obtain ⟨f1, f2, f3⟩ := zarr_i (N0 := N0) (aC := aC) hI hlt (by omega) (by omega) (by omega)
    obtain ⟨g1, g2, g3⟩ := zarr_i (N0 := N0) (aC := aC) hI hlt1 (by omega) (by omega) (by omega)
    rw [hk] at f1
    rw [hk1] at g1
    have n32 : z32 n := by unfold z32; omega
    have s32 : z32 sp := by unfold z32; omega
    have d32 : z32 dp := by unfold z32; omega
    refine va_copyi Fx.1 Fx.2.1 (by rw [hml]; exact hl.1.symm) hown (hts _ (zg_in hlk rfl)) (hts _ zcpyw.1) (hts _ zcpyw.2.1) (hts _ zcpyw.2.2) hK hP zwd_D hS a.toNat a1.toNat 0 0 f1 g1 rfl rfl rfl (by rw [zo_0, zo_lt s32 z32_0]; omega) (by rw [zo_0, zo_lt d32 z32_0]; omega) (by rw [zo_0, zo_lt n32 z32_0]; omega) (by rw [zo_nat hsp s32, zo_nat hn n32]; omega) (by rw [zo_nat hdp d32, zo_nat hn n32]; omega) (fun _ _ => rfl) hf ?_ hd fun H1 locs1 hP1 hD1 hS1 => ?_
    · rw [zcat_eq]
      have : nativeFrameWords "java/lang/System" "arraycopy" 5 + 11 ≤ 50 := by decide
      omega
    · rw [zo_nat hsp s32, zo_nat hdp d32, zo_nat hn n32] at hP1
      have hrow : ∀ j, (h.1, zcpy h.2 a.toNat sp.toNat a1.toNat dp.toNat n.toNat).2 j = if j = a1.toNat then (fun i => if dp.toNat ≤ i ∧ i < dp.toNat + n.toNat then h.2 a.toNat (sp.toNat + (i - dp.toNat)) else h.2 a1.toNat i) else h.2 j := by
        intro j
        funext i
        show zcpy h.2 a.toNat sp.toNat a1.toNat dp.toNat n.toNat j i = _
        unfold zcpy
        by_cases hj : j = a1.toNat
        · subst hj; simp
        · simp [hj]
      have ho : ∀ j, j ≠ a1.toNat → zgd (h.1, zcpy h.2 a.toNat sp.toNat a1.toNat dp.toNat n.toNat) j = zgd h j ∧ (h.1, zcpy h.2 a.toNat sp.toNat a1.toNat dp.toNat n.toNat).2 j = h.2 j := fun j hj => ⟨rfl, by rw [hrow, if_neg hj]⟩
      have hra := hrow a1.toNat
      rw [if_pos rfl] at hra
      have hzg : zgd (h.1, zcpy h.2 a.toNat sp.toNat a1.toNat dp.toNat n.toNat) a1.toNat = zgd h a1.toNat := rfl
      rw [zwd_set (h' := (h.1, zcpy h.2 a.toNat sp.toNat a1.toNat dp.toNat n.toNat)) hlt1 rfl ?_ ho] at hP1
      · refine kk.2 rfl H1 lsR locs1 hP1 (zinv_set (k := a1.toNat) hI rfl ?_ ho) hl (fun w hw => hs w (by simp [hw])) hls hc hz hS1
        rw [hra, hzg]
        refine Or.inr ⟨by omega, by omega, g3, fun q => by omega, fun _ _ j => ?_, fun q => by omega⟩
        show z32 (if _ then _ else _)
        split
        · exact f2 _
        · exact g2 _
      · rw [hra, hzg, zce_i (by omega) (by omega) (by omega), hk1]
        congr 4
        funext j
        unfold va_cpy
        split <;> rfl
  · simp [zno] at hz
theorem zi_math (idx : Nat) (r : zr) (Fx : zFx p s m args c N0 b XL maxL aC dC dI adK X cc own) (hf : 1 ≤ R.frames) (hlo : 60 ≤ R.locals) (hR1 : h.1.length - c0 ≤ R.cells) (hR2 : zsz h - s0 ≤ R.slots) (hd : decode cc pc = .ok (.invokestatic idx, 3)) (hl14 : r.1 = 14 → Cond.methodLink own idx Lib.Math.min.name ∈ lw_tbl) (hl15 : r.1 = 15 → Cond.methodLink own idx Lib.Math.max.name ∈ lw_tbl) (hl16 : r.1 = 16 → Cond.methodLink own idx Lib.Math.abs.name ∈ lw_tbl) (hl17 : r.1 = 17 → Cond.methodLink own idx Lib.MathLoose.min_long.x ∈ lw_tbl)
    (hz : z_mt r ls st h = (true, o)) (kk : zcont (zWP p l e R s m args below meth c Q N0 b c0 s0 maxL aC dC dI adK) (pc + 3) o) : zWP p l e R s m args below meth c Q N0 b c0 s0 maxL aC dC dI adK pc ls st h := by
  unfold z_mt at hz
  obtain ⟨-, -, hml, hown, hts, -⟩ := id Fx
  split at hz
  · rename_i hr
    split at hz
    · rename_i t y u x st
      simp only [zng, Prod.mk.injEq, Bool.and_eq_true, beq_iff_eq, decide_eq_true_eq] at hz
      obtain ⟨⟨rfl, rfl, hcat⟩, rfl⟩ := hz
      intro H lsR locs hP hI hl hs hls hc hz hS
      have hy : z32 y := (hs (0, y) List.mem_cons_self).1 rfl
      have hx : z32 x := (hs (0, x) (List.mem_cons_of_mem _ List.mem_cons_self)).1 rfl
      refine va_mmin (rest := st.map (zrv N0 adK b)) Fx.1 Fx.2.1 (by rw [hml]; exact hl.1.symm) hown (hts _ (zg_in (hl14 hr) rfl)) (hts _ zmathw.1) (hts _ zmathw.2.2.2.2.1) (hts _ zmathw.2.2.2.2.2.1) hf (by rw [zcat_eq]; omega) hR1 hR2 hd ?_
      have := kk.2 rfl H lsR locs hP hI hl (fun w hw => by
        rcases List.mem_cons.mp hw with rfl | hw
        · exact zoki (by split <;> assumption)
        · exact hs w (List.mem_cons_of_mem _ (List.mem_cons_of_mem _ hw))) hls hc hz hS
      have e : (if Int32.ofInt y < Int32.ofInt x then Int32.ofInt y else Int32.ofInt x) = Int32.ofInt (if y < x then y else x) := by
        simp only [zo_lt hy hx]
        split <;> rfl
      rw [e]
      exact this
    · simp [zno] at hz
  · rename_i hr
    split at hz
    · rename_i t y u x st
      simp only [zng, Prod.mk.injEq, Bool.and_eq_true, beq_iff_eq, decide_eq_true_eq] at hz
      obtain ⟨⟨rfl, rfl, hcat⟩, rfl⟩ := hz
      intro H lsR locs hP hI hl hs hls hc hz hS
      have hy : z32 y := (hs (0, y) List.mem_cons_self).1 rfl
      have hx : z32 x := (hs (0, x) (List.mem_cons_of_mem _ List.mem_cons_self)).1 rfl
      refine va_mmax (rest := st.map (zrv N0 adK b)) Fx.1 Fx.2.1 (by rw [hml]; exact hl.1.symm) hown (hts _ (zg_in (hl15 hr) rfl)) (hts _ zmathw.2.1) (hts _ zmathw.2.2.2.2.1) (hts _ zmathw.2.2.2.2.2.2.1) hf (by rw [zcat_eq]; omega) hR1 hR2 hd ?_
      have := kk.2 rfl H lsR locs hP hI hl (fun w hw => by
        rcases List.mem_cons.mp hw with rfl | hw
        · exact zoki (by split <;> assumption)
        · exact hs w (List.mem_cons_of_mem _ (List.mem_cons_of_mem _ hw))) hls hc hz hS
      have e : (if Int32.ofInt x < Int32.ofInt y then Int32.ofInt y else Int32.ofInt x) = Int32.ofInt (if x < y then y else x) := by
        simp only [zo_lt hx hy]
        split <;> rfl
      rw [e]
      exact this
    · simp [zno] at hz
  · rename_i hr
    split at hz
    · rename_i t x st
      simp only [zng, Prod.mk.injEq, Bool.and_eq_true, beq_iff_eq, decide_eq_true_eq] at hz
      obtain ⟨⟨rfl, hcat⟩, rfl⟩ := hz
      intro H lsR locs hP hI hl hs hls hc hz hS
      have hx : z32 x := (hs (0, x) List.mem_cons_self).1 rfl
      refine va_mabs (rest := st.map (zrv N0 adK b)) Fx.1 Fx.2.1 (by rw [hml]; exact hl.1.symm) hown (hts _ (zg_in (hl16 hr) rfl)) (hts _ zmathw.2.2.1) (hts _ zmathw.2.2.2.2.1) (hts _ zmathw.2.2.2.2.2.2.2.1) hf (by rw [zcat_eq]; omega) hR1 hR2 hd ?_
      have := kk.2 rfl H lsR locs hP hI hl (fun w hw => by
        rcases List.mem_cons.mp hw with rfl | hw
        · exact zoki (by split; exact hx; exact zw_32 _)
        · exact hs w (List.mem_cons_of_mem _ hw)) hls hc hz hS
      have e : (if 0 ≤ Int32.ofInt x then Int32.ofInt x else 0 - Int32.ofInt x) = Int32.ofInt (if 0 ≤ x then x else zw (0 - x)) := by
        rw [zo_0]
        simp only [zo_le z32_0 hx]
        split
        · rfl
        · rw [zo_w, Int32.ofInt_sub]
      rw [e]
      exact this
    · simp [zno] at hz
  · rename_i hr
    split at hz
    · rename_i t y u x st
      simp only [zng, Prod.mk.injEq, Bool.and_eq_true, beq_iff_eq, decide_eq_true_eq] at hz
      obtain ⟨⟨rfl, rfl, hcat⟩, rfl⟩ := hz
      intro H lsR locs hP hI hl hs hls hc hz hS
      have hy : z64 y := (hs (1, y) List.mem_cons_self).2.1 rfl
      have hx : z64 x := (hs (1, x) (List.mem_cons_of_mem _ List.mem_cons_self)).2.1 rfl
      refine va_mmin_long (rest := st.map (zrv N0 adK b)) Fx.1 Fx.2.1 (by rw [hml]; exact hl.1.symm) hown (hts _ (zg_in (hl17 hr) rfl)) (hts _ zmathw.2.2.2.1) (hts _ zmathw.2.2.2.2.1) (hts _ zmathw.2.2.2.2.2.2.2.2) hf (by rw [zcat_eq]; omega) hR1 hR2 hd ?_
      have := kk.2 rfl H lsR locs hP hI hl (fun w hw => by
        rcases List.mem_cons.mp hw with rfl | hw
        · exact zokl (by split <;> assumption)
        · exact hs w (List.mem_cons_of_mem _ (List.mem_cons_of_mem _ hw))) hls hc hz hS
      have e : (if Int64.ofInt y < Int64.ofInt x then Int64.ofInt y else Int64.ofInt x) = Int64.ofInt (if y < x then y else x) := by
        have l1 : Int64.ofInt y < Int64.ofInt x ↔ y < x := by rw [Int64.lt_iff_toInt_lt, zt_ol hx, zt_ol hy]
        simp only [l1]
        split <;> rfl
      rw [e]
      exact this
    · simp [zno] at hz
  · simp [zno] at hz
end Alloc
