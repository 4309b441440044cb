section Cells
variable {p : Program} {l : Launch} {e : Env} {R : Room} {s : State} {m : MethodId} {args : Array Value} {below : List Frame} {meth : Method} {c : Code} {Q : State → Prop}
variable {N0 b XL c0 s0 maxL pc : Nat} {aC dC : Nat → ClassId} {dI : Nat → Nat → Nat} {adK : Nat → Nat} {X : Nat → Int} {cc : ByteArray} {own : String} {ls st : List zv} {h : zh} {o : zo}
theorem zce_o {N0 : Nat} {aC : Nat → ClassId} {l : zl} {f : Nat → Int} (hk : l.1 < 12) : zce N0 aC l f = .inr (l.1, (List.range l.2.1).map fun j => zfv N0 l.1 j l.2.2 (f j)) := if_pos hk
theorem zce_i {N0 : Nat} {aC : Nat → ClassId} {l : zl} {f : Nat → Int} (hk : 12 ≤ l.1) (h13 : l.1 ≠ 13) (h16 : l.1 < 16) : zce N0 aC l f = .inl (aC l.1, l.2.1, .inl fun j => Int32.ofInt (f j)) := by
  unfold zce zar
  rw [if_neg (by omega), if_neg h13, if_pos h16]
theorem zce_l {N0 : Nat} {aC : Nat → ClassId} {l : zl} {f : Nat → Int} (h13 : l.1 = 13) : zce N0 aC l f = .inl (aC l.1, l.2.1, .inr (.inl fun j => Int64.ofInt (f j))) := by
  unfold zce zar
  rw [if_neg (by omega), if_pos h13]
theorem zce_r {N0 : Nat} {aC : Nat → ClassId} {l : zl} {f : Nat → Int} (h16 : 16 ≤ l.1) : zce N0 aC l f = .inl (aC l.1, l.2.1, .inr (.inr (.inr (.inr fun j => (l.2.2.getD j none).map fun a => N0 + a)))) := by
  unfold zce zar
  rw [if_neg (by omega), if_neg (by omega), if_neg (by omega)]
theorem zinv_set {h h' : zh} {k : Nat} (hI : zinv h) (hl : h'.1.length = h.1.length) (hk : zgc h.1.length (zgd h' k) (h'.2 k)) (ho : ∀ j, j ≠ k → zgd h' j = zgd h j ∧ h'.2 j = h.2 j) : zinv h' := by
  intro j hj
  by_cases hjk : j = k
  · subst hjk
    rw [hl]
    exact hk
  · rw [hl, (ho j hjk).1, (ho j hjk).2]
    exact hI j (by omega)
theorem zok_len {h h' : zh} (hl : h'.1.length = h.1.length) {v : zv} (hv : zvok h v) : zvok h' v := zok_mono (Nat.le_of_eq hl.symm) hv
theorem zsz_set {h : zh} {f : Nat → Nat → Int} {k : Nat} {l : zl} (hk : k < h.1.length) (hl : l.2.1 = (zgd h k).2.1) : zsz (h.1.set k l, f) = zsz h := by
  unfold zsz
  have : (h.1.set k l).map (fun l => l.2.1) = h.1.map fun l => l.2.1 := by
    rw [List.map_set]
    apply List.ext_getElem?
    intro j
    rw [List.getElem?_set]
    by_cases hj : k = j
    · subst hj
      have hg : zgd h k = h.1[k] := by unfold zgd; rw [List.getD_eq_getElem?_getD, List.getElem?_eq_getElem hk]; rfl
      simp [hk, hl, hg]
    · simp [hj]
  show ((h.1.set k l).map _).sum = _
  rw [this]
theorem zsz_mem {h : zh} {f : Nat → Nat → Int} : zsz (h.1, f) = zsz h := rfl
theorem zfv_set {N0 c : Nat} {rf : List (Option Nat)} {f : Nat → Int} {n k : Nat} {v : Value} {rf' : List (Option Nat)} {f' : Nat → Int} (hk : k < n) (hv : v = zfv N0 c k rf' (f' k)) (ho : ∀ j, j ≠ k → zfv N0 c j rf' (f' j) = zfv N0 c j rf (f j)) : ((List.range n).map fun j => zfv N0 c j rf (f j)).set k v = (List.range n).map fun j => zfv N0 c j rf' (f' j) := by
  apply List.ext_getElem?
  intro j
  rw [List.getElem?_set]
  by_cases hj : k = j
  · subst hj
    rw [if_pos rfl, if_pos (by simpa using hk), List.getElem?_map, List.getElem?_range hk, hv]
    rfl
  · rw [if_neg hj, List.getElem?_map, List.getElem?_map]
    by_cases hjn : j < n
    · rw [List.getElem?_range hjn]
      simp only [Option.map_some]
      rw [ho j (Ne.symm hj)]
    · rw [List.getElem?_eq_none (by simpa using hjn)]
      rfl
theorem zfld {N0 : Nat} {aC : Nat → ClassId} {h : zh} {k ci : Nat} (hk : k < h.1.length) (hI : zinv h) (hc : (zgd h k).1 = ci) (h12 : ci < 12) : (zwd N0 aC h)[k]? = some (N0 + k, .inr (ci, (List.range (zN ci)).map fun j => zfv N0 ci j (zgd h k).2.2 (h.2 k j))) ∧ (zgd h k).2.1 = zN ci ∧ (zgd h k).2.2.length = zN ci ∧ (∀ j, zft ci j = 0 ∨ zft ci j = 2 → z32 (h.2 k j)) ∧ (∀ j, zft ci j = 3 → (h.2 k j - 1).toNat < h.1.length) ∧ ∀ j a, (zgd h k).2.2.getD j none = some a → a < h.1.length := by
  rcases hI k hk with ⟨-, h2, h3, h4, h5, h6⟩ | ⟨h1, -⟩
  · rw [hc] at h2 h4 h5
    refine ⟨?_, h2, by rw [h3, h2], h4, h5, h6⟩
    rw [zwd_get hk, zce_o (by rw [hc]; exact h12), hc, h2]
  · omega
theorem zfv_r {N0 c k a : Nat} {rf : List (Option Nat)} {x : Int} (hf : zft c k = 1) (hq : rf.getD k none = some a) : zfv N0 c k rf x = .ref (N0 + a) := by
  unfold zfv
  rw [hf]
  simp only
  rw [hq]
theorem zfv_m {N0 c k : Nat} {rf : List (Option Nat)} {x : Int} (hf : zft c k = 3) (hx : 1 ≤ x) : zfv N0 c k rf x = .ref (N0 + (x - 1).toNat) := by
  unfold zfv
  rw [hf]
  simp only
  rw [if_neg (by omega)]
theorem zfv_i {N0 c k : Nat} {rf : List (Option Nat)} {x : Int} (hf : zft c k = 0 ∨ zft c k = 2) : zfv N0 c k rf x = .int (Int32.ofInt x) := by
  unfold zfv
  rcases hf with q | q <;> rw [q] <;> rfl
theorem zisr_ok {t : FieldType} {a : Nat} (h : zisr t = true) : narrow t (.ref a) = .ref a ∧ fits t (.ref a) = true := by
  cases t <;> first | exact ⟨rfl, rfl⟩ | cases h
theorem zft_c {c k : Nat} (hc : c < 12) (hk : k < zN c) : zft c k = 0 ∨ zft c k = 1 ∨ zft c k = 2 ∨ zft c k = 3 := by
  rcases (zty_all c hc k hk).2.2.2 with h | h | h
  · exact Or.inl h.1
  · exact Or.inr (Or.inr (Or.inl h.1))
  · rcases h.1 with h | h
    · exact Or.inr (Or.inl h)
    · exact Or.inr (Or.inr (Or.inr h))
theorem zi_get (idx : Nat) (r : zr) (Fx : zFx p s m args c N0 b XL maxL aC dC dI adK X cc own) (hd : decode cc pc = .ok (.getfield idx, 3)) (h12 : r.2.1 < 12) (hkn : r.2.2.1 < zN r.2.1) (hty : r.2.2.2 = (zft r.2.1 r.2.2.1 : Int)) (hlk : Cond.fieldLink own idx (zRc r.2.1) (zT r.2.1 r.2.2.1).2.1 (zT r.2.1 r.2.2.1).2.2.1 ∈ lw_tbl)
    (hz : z_gf r ls st h = (true, o)) (kk : zcont (zWP p l e R s m args below meth c Q N0 b c0 s0 maxL aC dC dI adK) (pc + 3) o) : zWP p l e R s m args below meth c Q N0 b c0 s0 maxL aC dC dI adK pc ls st h := by
  unfold z_gf at hz
  split at hz
  · rename_i t a st
    have key : ∀ (v : zv), t = 2 → 0 ≤ a → (zat h a).1 = r.2.1 → o = .inr (.inl (false, 0, ls, v :: st, h)) → (zinv h → a.toNat < h.1.length → zvok h v ∧ zrv N0 adK b v = zfv N0 r.2.1 r.2.2.1 (zgd h a.toNat).2.2 (h.2 a.toNat r.2.2.1)) → zWP p l e R s m args below meth c Q N0 b c0 s0 maxL aC dC dI adK pc ls ((t, a) :: st) h := by
      intro v ht ha hk ho hv
      subst ht; subst ho
      intro H lsR locs hP hI hl hs hls hc hz hS
      have hlt : a.toNat < h.1.length := zgd_lt (by rw [← zgd_at, hk]; omega)
      obtain ⟨hv1, hv2⟩ := hv hI hlt
      obtain ⟨f1, -⟩ := zfld (aC := aC) (N0 := N0) hlt hI (by rw [← zgd_at]; exact hk) h12
      refine va_get (v := zrv N0 adK b v) Fx.1 Fx.2.1 Fx.2.2.2.2.1 (zin_all h12) Fx.2.2.2.1 Fx.2.2.2.2.2.1 hP a.toNat f1 (zcls_get h12) r.2.2.1 hkn (Fx.2.2.2.2.1 _ (zg_in hlk rfl)) (fun x hx => by rw [(zty_all _ h12 _ hkn).2.1] at hx; exact hx) ?_ hd ?_
      · rw [List.getElem?_map, List.getElem?_range hkn, hv2]
        rfl
      · exact kk.2 rfl H lsR locs hP hI hl (fun w hw => by
          rcases List.mem_cons.mp hw with rfl | hw
          · exact hv1
          · exact hs w (List.mem_cons_of_mem _ hw)) hls hc hz hS
    split at hz
    · rename_i h1
      simp only [zng, Prod.mk.injEq, Bool.and_eq_true, beq_iff_eq, decide_eq_true_eq] at hz
      obtain ⟨⟨ht, ha, hk, -, hsm⟩, ho⟩ := hz
      have hf : zft r.2.1 r.2.2.1 = 1 := by omega
      refine key _ ht ha hk ho.symm fun hI hlt => ?_
      obtain ⟨q, hq⟩ := Option.isSome_iff_exists.mp hsm
      obtain ⟨-, -, -, -, -, f6⟩ := zfld (aC := aC) (N0 := N0) hlt hI (by rw [← zgd_at]; exact hk) h12
      rw [hq]
      refine ⟨zokr (by simp) (by simpa using f6 _ _ hq), ?_⟩
      rw [zfv_r hf (a := q) (by rw [← zgd_at]; exact hq)]
      rfl
    · rename_i h1
      simp only [zng, Prod.mk.injEq, Bool.and_eq_true, beq_iff_eq, decide_eq_true_eq] at hz
      obtain ⟨⟨ht, ha, hk, -, hsm⟩, ho⟩ := hz
      have hf : zft r.2.1 r.2.2.1 = 3 := by omega
      refine key _ ht ha hk ho.symm fun hI hlt => ?_
      obtain ⟨-, -, -, -, f5, -⟩ := zfld (aC := aC) (N0 := N0) hlt hI (by rw [← zgd_at]; exact hk) h12
      refine ⟨zokr (by omega) (f5 _ hf), ?_⟩
      rw [zfv_m hf hsm]
      rfl
    · rename_i h1 h3
      simp only [zng, Prod.mk.injEq, Bool.and_eq_true, beq_iff_eq, decide_eq_true_eq] at hz
      obtain ⟨⟨ht, ha, hk, -⟩, ho⟩ := hz
      have hf : zft r.2.1 r.2.2.1 = 0 ∨ zft r.2.1 r.2.2.1 = 2 := by
        rcases zft_c h12 hkn with q | q | q | q
        · exact Or.inl q
        · exact absurd (by rw [hty, q]; rfl) h1
        · exact Or.inr q
        · exact absurd (by rw [hty, q]; rfl) h3
      refine key _ ht ha hk ho.symm fun hI hlt => ?_
      obtain ⟨-, -, -, f4, -, -⟩ := zfld (aC := aC) (N0 := N0) hlt hI (by rw [← zgd_at]; exact hk) h12
      refine ⟨zoki (f4 _ hf), ?_⟩
      rw [zfv_i hf]
      rfl
  · simp [zno] at hz
/-- a field is written: the world with it -/
theorem zput_w {N0 : Nat} {aC : Nat → ClassId} {h h' : zh} {k ci j : Nat} {v : Value} (hk : k < h.1.length) (hI : zinv h) (hc : (zgd h k).1 = ci) (h12 : ci < 12) (hl : h'.1.length = h.1.length) (hc' : (zgd h' k).1 = ci) (hn' : (zgd h' k).2.1 = (zgd h k).2.1) (hj : j < zN ci) (hv : v = zfv N0 ci j (zgd h' k).2.2 (h'.2 k j)) (ho : ∀ i, i ≠ j → zfv N0 ci i (zgd h' k).2.2 (h'.2 k i) = zfv N0 ci i (zgd h k).2.2 (h.2 k i)) (hoc : ∀ i, i ≠ k → zgd h' i = zgd h i ∧ h'.2 i = h.2 i) : (zwd N0 aC h).set k (N0 + k, .inr (ci, ((List.range (zN ci)).map fun j => zfv N0 ci j (zgd h k).2.2 (h.2 k j)).set j v)) = zwd N0 aC h' := by
  obtain ⟨-, f2, -⟩ := zfld (aC := aC) (N0 := N0) hk hI hc h12
  refine zwd_set hk hl ?_ hoc
  rw [zce_o (by rw [hc']; exact h12), hc', hn', f2, zfv_set hj hv ho]
theorem zi_put (oc : Nat) (ini : Bool) (idx : Nat) (r : zr) (Fx : zFx p s m args c N0 b XL maxL aC dC dI adK X cc own) (hini : ini = true → meth.name = "<init>") (hoc : oc < 12 → zRc oc = own) (hd : decode cc pc = .ok (.putfield idx, 3)) (h12 : r.2.1 < 12) (hkn : r.2.2.1 < zN r.2.1) (hty : r.2.2.2 = (zft r.2.1 r.2.2.1 : Int)) (hlk : Cond.fieldLink own idx (zRc r.2.1) (zT r.2.1 r.2.2.1).2.1 (zT r.2.1 r.2.2.1).2.2.1 ∈ lw_tbl)
    (hz : z_pf oc ini r ls st h = (true, o)) (kk : zcont (zWP p l e R s m args below meth c Q N0 b c0 s0 maxL aC dC dI adK) (pc + 3) o) : zWP p l e R s m args below meth c Q N0 b c0 s0 maxL aC dC dI adK pc ls st h := by
  unfold z_pf at hz
  split at hz
  · rename_i t v u a st
    have key : ∀ (h' : zh), u = 2 → 0 ≤ a → (zat h a).1 = r.2.1 → o = .inr (.inl (false, 0, ls, st, h')) → h'.1.length = h.1.length → zsz h' = zsz h → (∀ i, i ≠ a.toNat → zgd h' i = zgd h i ∧ h'.2 i = h.2 i) →
        (zinv h → a.toNat < h.1.length → zvok h (t, v) → (zgd h' a.toNat).1 = r.2.1 ∧ (zgd h' a.toNat).2.1 = (zgd h a.toNat).2.1 ∧ zgc h.1.length (zgd h' a.toNat) (h'.2 a.toNat) ∧ zrv N0 adK b (t, v) = zfv N0 r.2.1 r.2.2.1 (zgd h' a.toNat).2.2 (h'.2 a.toNat r.2.2.1) ∧ (∀ i, i ≠ r.2.2.1 → zfv N0 r.2.1 i (zgd h' a.toNat).2.2 (h'.2 a.toNat i) = zfv N0 r.2.1 i (zgd h a.toNat).2.2 (h.2 a.toNat i)) ∧ narrow (zty r.2.1 r.2.2.1) (zrv N0 adK b (t, v)) = zrv N0 adK b (t, v) ∧ fits (zty r.2.1 r.2.2.1) (zrv N0 adK b (t, v)) = true) →
        (zft r.2.1 r.2.2.1 = 1 → ini = true ∧ oc = r.2.1) → zWP p l e R s m args below meth c Q N0 b c0 s0 maxL aC dC dI adK pc ls ((t, v) :: (u, a) :: st) h := by
      intro h' hu ha hk ho hlen hsz hoth hv hfin
      subst hu; subst ho
      intro H lsR locs hP hI hl hs hls hc hz hS
      have hlt : a.toNat < h.1.length := zgd_lt (by rw [← zgd_at, hk]; omega)
      obtain ⟨g1, g2, g3, g4, g5, g6, g7⟩ := hv hI hlt (hs _ List.mem_cons_self)
      obtain ⟨f1, -⟩ := zfld (aC := aC) (N0 := N0) hlt hI (by rw [← zgd_at]; exact hk) h12
      have hw := zput_w (aC := aC) (N0 := N0) hlt hI (by rw [← zgd_at]; exact hk) h12 hlen g1 g2 hkn g4 g5 hoth
      have go : ∀ (H1 : Heap) (locs1 : List Loc), va_P (dC, dI) zcls (zwd N0 aC h') H1 → va_S (fun q => N0 ≤ q) s.heap H1 locs1 → W p l e R s m args below meth c H1 locs1 (h.1.length - c0) (zsz h - s0) Q (F0 m (pc + 3) lsR (st.map (zrv N0 adK b))) := by
        intro H1 locs1 hP1 hS1
        have := kk.2 rfl H1 lsR locs1 hP1 (zinv_set hI hlen g3 hoth) hl (fun w hw => zok_len hlen (hs w (List.mem_cons_of_mem _ (List.mem_cons_of_mem _ hw)))) (fun w hw => zok_len hlen (hls w hw)) (by omega) (by omega) hS1
        rw [hlen, hsz] at this
        exact this
      have hall := zty_all _ h12 _ hkn
      by_cases hft : zft r.2.1 r.2.2.1 = 1
      · obtain ⟨hi, hoc2⟩ := hfin hft
        refine va_putF (ty := zty r.2.1 r.2.2.1) Fx.1 Fx.2.1 Fx.2.2.2.2.1 (zin_all h12) (zty r.2.1) (zty_ok h12) (znm_all _ h12) Fx.2.2.2.1 Fx.2.2.2.2.2.1 hP zwd_D hS a.toNat f1 (zcls_get h12) r.2.2.1 hkn (Fx.2.2.2.2.1 _ (zg_in hlk rfl)) (fun x hx => by rw [hall.2.1] at hx; exact hx) (by rw [hall.2.2.1, hft]; rfl) (hini hi) (by rw [hall.2.1, ← hoc2]; exact hoc (by omega)) (zty_ok h12 _ hkn) g6 g7 (by simpa using hkn) hd ?_
        intro H1 locs1 hP1 hD1 hS1
        rw [hw] at hP1
        exact go H1 locs1 hP1 hS1
      · refine va_put (ty := zty r.2.1 r.2.2.1) Fx.1 Fx.2.1 Fx.2.2.2.2.1 (zin_all h12) (zty r.2.1) (zty_ok h12) (znm_all _ h12) Fx.2.2.2.1 Fx.2.2.2.2.2.1 hP zwd_D hS a.toNat f1 (zcls_get h12) r.2.2.1 hkn (Fx.2.2.2.2.1 _ (zg_in hlk rfl)) (fun x hx => by rw [hall.2.1] at hx; exact hx) (by rw [hall.2.2.1]; simpa using hft) (zty_ok h12 _ hkn) g6 g7 (by simpa using hkn) hd ?_
        intro H1 locs1 hP1 hD1 hS1
        rw [hw] at hP1
        exact go H1 locs1 hP1 hS1
    have upo : ∀ (x : Int) (i : Nat), i ≠ a.toNat → zgd (h.1, zup h.2 a.toNat r.2.2.1 x) i = zgd h i ∧ (h.1, zup h.2 a.toNat r.2.2.1 x).2 i = h.2 i := by
      intro x i hi
      refine ⟨rfl, ?_⟩
      show zup h.2 a.toNat r.2.2.1 x i = h.2 i
      rw [zup_row, if_neg hi]
    have upr : ∀ (x : Int), (h.1, zup h.2 a.toNat r.2.2.1 x).2 a.toNat = fun j => if j = r.2.2.1 then x else h.2 a.toNat j := by
      intro x
      show zup h.2 a.toNat r.2.2.1 x a.toNat = _
      rw [zup_row, if_pos rfl]
    have hall := zty_all _ h12 _ hkn
    split at hz
    · rename_i h1
      simp only [zng, Prod.mk.injEq, Bool.and_eq_true, beq_iff_eq, decide_eq_true_eq] at hz
      obtain ⟨⟨hu, ht, ha, hk, hkl, hv0, hvl, hi, hoc2⟩, ho⟩ := hz
      subst ht
      have hf : zft r.2.1 r.2.2.1 = 1 := by omega
      have hlt : a.toNat < h.1.length := zgd_lt (by rw [← zgd_at, hk]; omega)
      have hg : ∀ j, zgd (h.1.set a.toNat ((zat h a).1, (zat h a).2.1, (zat h a).2.2.set r.2.2.1 (some v.toNat)), h.2) j = if a.toNat = j then ((zat h a).1, (zat h a).2.1, (zat h a).2.2.set r.2.2.1 (some v.toNat)) else zgd h j := fun j => zgd_set hlt
      have hga := hg a.toNat
      rw [if_pos rfl] at hga
      refine key _ hu ha hk ho.symm (by simp) (zsz_set hlt rfl) (fun i hi => ⟨by rw [hg i, if_neg (Ne.symm hi)], rfl⟩) (fun hI _ hok => ?_) (fun _ => ⟨hi, hoc2⟩)
      rw [hga]
      obtain ⟨-, f2, f3, f4, f5, f6⟩ := zfld (aC := aC) (N0 := N0) hlt hI (by rw [← zgd_at]; exact hk) h12
      rw [← zgd_at] at f2 f3 f6
      have hset : ∀ j, ((zat h a).2.2.set r.2.2.1 (some v.toNat)).getD j none = if r.2.2.1 = j then some v.toNat else (zat h a).2.2.getD j none := by
        intro j
        rw [List.getD_eq_getElem?_getD, List.getD_eq_getElem?_getD, List.getElem?_set]
        by_cases hj : r.2.2.1 = j
        · subst hj
          rw [if_pos rfl, if_pos (by omega), if_pos rfl]
          rfl
        · rw [if_neg hj, if_neg hj]
      have hnar := zisr_ok (a := N0 + v.toNat) (show zisr (zty r.2.1 r.2.2.1) = true by
        rcases hall.2.2.2 with q | q | q
        · omega
        · omega
        · exact q.2)
      refine ⟨hk, by rw [zgd_at], Or.inl ⟨by rw [hk]; exact h12, by rw [f2, hk], by simp; omega, by rw [hk]; exact f4, by rw [hk]; exact f5, fun j q hq => ?_⟩, ?_, fun i hi => ?_, hnar.1, hnar.2⟩
      · rw [hset] at hq
        by_cases hj : r.2.2.1 = j
        · rw [if_pos hj] at hq
          cases hq
          exact hvl
        · rw [if_neg hj] at hq
          exact f6 j q hq
      · rw [zfv_r hf (a := v.toNat) (by rw [hset, if_pos rfl])]
        rfl
      · unfold zfv
        rw [hset, if_neg (Ne.symm hi)]
        rfl
    · rename_i h1
      simp only [zng, Prod.mk.injEq, Bool.and_eq_true, beq_iff_eq, decide_eq_true_eq] at hz
      obtain ⟨⟨hu, ht, ha, hk, hkl, hv0, hvl⟩, ho⟩ := hz
      subst ht
      have hf : zft r.2.1 r.2.2.1 = 3 := by omega
      refine key _ hu ha hk ho.symm rfl rfl (upo _) (fun hI hlt hok => ?_) (fun q => by omega)
      obtain ⟨-, f2, f3, f4, f5, f6⟩ := zfld (aC := aC) (N0 := N0) hlt hI (by rw [← zgd_at]; exact hk) h12
      rw [upr]
      have hnar := zisr_ok (a := N0 + v.toNat) (show zisr (zty r.2.1 r.2.2.1) = true by
        rcases hall.2.2.2 with q | q | q
        · omega
        · omega
        · exact q.2)
      have hzg : zgd (h.1, zup h.2 a.toNat r.2.2.1 (v + 1)) a.toNat = zgd h a.toNat := rfl
      rw [hzg]
      have hk' : (zgd h a.toNat).1 = r.2.1 := by rw [← zgd_at]; exact hk
      refine ⟨hk', rfl, Or.inl ⟨by rw [hk']; exact h12, by rw [f2, hk'], by rw [f3, f2], fun j hj => ?_, fun j hj => ?_, f6⟩, ?_, fun i hi => ?_, hnar.1, hnar.2⟩
      · rw [hk'] at hj
        show z32 (if j = r.2.2.1 then v + 1 else h.2 a.toNat j)
        rw [if_neg (fun q => by subst q; omega)]
        exact f4 j hj
      · rw [hk'] at hj
        show ((if j = r.2.2.1 then v + 1 else h.2 a.toNat j) - 1).toNat < _
        by_cases hjk : j = r.2.2.1
        · rw [if_pos hjk]
          omega
        · rw [if_neg hjk]
          exact f5 j hj
      · simp only [if_pos]
        rw [zfv_m hf (by omega)]
        show Value.ref (N0 + v.toNat) = _
        congr 2
        omega
      · simp only [if_neg hi]
    · rename_i h1
      simp only [zng, Prod.mk.injEq, Bool.and_eq_true, beq_iff_eq, decide_eq_true_eq] at hz
      obtain ⟨⟨hu, ht, ha, hk, hkl, hv⟩, ho⟩ := hz
      subst ht
      have hf : zft r.2.1 r.2.2.1 = 2 := by omega
      refine key _ hu ha hk ho.symm rfl rfl (upo _) (fun hI hlt hok => ?_) (fun q => by omega)
      obtain ⟨-, f2, f3, f4, f5, f6⟩ := zfld (aC := aC) (N0 := N0) hlt hI (by rw [← zgd_at]; exact hk) h12
      rw [upr]
      have hzg : zgd (h.1, zup h.2 a.toNat r.2.2.1 v) a.toNat = zgd h a.toNat := rfl
      rw [hzg]
      have hk' : (zgd h a.toNat).1 = r.2.1 := by rw [← zgd_at]; exact hk
      have hz := hok.1 rfl
      have hty2 : zty r.2.1 r.2.2.1 = .boolean := by
        rcases hall.2.2.2 with q | q | q
        · omega
        · exact q.2
        · omega
      refine ⟨hk', rfl, Or.inl ⟨by rw [hk']; exact h12, by rw [f2, hk'], by rw [f3, f2], fun j hj => ?_, fun j hj => ?_, f6⟩, ?_, fun i hi => ?_, ?_, ?_⟩
      · rw [hk'] at hj
        show z32 (if j = r.2.2.1 then v else h.2 a.toNat j)
        split
        · exact hz
        · exact f4 j hj
      · rw [hk'] at hj
        show ((if j = r.2.2.1 then v else h.2 a.toNat j) - 1).toNat < _
        rw [if_neg (fun q => by subst q; omega)]
        exact f5 j hj
      · simp only [if_pos]
        rw [zfv_i (Or.inr hf)]
        rfl
      · simp only [if_neg hi]
      · rw [hty2]
        rcases hv with rfl | rfl <;> rfl
      · rw [hty2]
        rcases hv with rfl | rfl <;> rfl
    · rename_i h1 h3 h2
      simp only [zng, Prod.mk.injEq, Bool.and_eq_true, beq_iff_eq, decide_eq_true_eq] at hz
      obtain ⟨⟨hu, ht, ha, hk, hkl⟩, ho⟩ := hz
      subst ht
      have hf : zft r.2.1 r.2.2.1 = 0 := by
        rcases zft_c h12 hkn with q | q | q | q
        · exact q
        · exact absurd (by rw [hty, q]; rfl) h1
        · exact absurd (by rw [hty, q]; rfl) h2
        · exact absurd (by rw [hty, q]; rfl) h3
      refine key _ hu ha hk ho.symm rfl rfl (upo _) (fun hI hlt hok => ?_) (fun q => by omega)
      obtain ⟨-, f2, f3, f4, f5, f6⟩ := zfld (aC := aC) (N0 := N0) hlt hI (by rw [← zgd_at]; exact hk) h12
      rw [upr]
      have hzg : zgd (h.1, zup h.2 a.toNat r.2.2.1 v) a.toNat = zgd h a.toNat := rfl
      rw [hzg]
      have hk' : (zgd h a.toNat).1 = r.2.1 := by rw [← zgd_at]; exact hk
      have hz := hok.1 rfl
      have hty2 : zty r.2.1 r.2.2.1 = .int := by
        rcases hall.2.2.2 with q | q | q
        · exact q.2
        · omega
        · omega
      refine ⟨hk', rfl, Or.inl ⟨by rw [hk']; exact h12, by rw [f2, hk'], by rw [f3, f2], fun j hj => ?_, fun j hj => ?_, f6⟩, ?_, fun i hi => ?_, ?_, ?_⟩
      · rw [hk'] at hj
        show z32 (if j = r.2.2.1 then v else h.2 a.toNat j)
        split
        · exact hz
        · exact f4 j hj
      · rw [hk'] at hj
        show ((if j = r.2.2.1 then v else h.2 a.toNat j) - 1).toNat < _
        rw [if_neg (fun q => by subst q; omega)]
        exact f5 j hj
      · simp only [if_pos]
        rw [zfv_i (Or.inl hf)]
        rfl
      · simp only [if_neg hi]
      · rw [hty2]; rfl
      · rw [hty2]; rfl
  · simp [zno] at hz
end Cells
