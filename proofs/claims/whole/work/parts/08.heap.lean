section Heap
variable {p : Program} {l : Launch} {e : Env} {R : Room} {s : State} {m : MethodId} {args : Array Value} {below : List Frame} {meth : Method} {c : Code} {Q : State → Prop}
variable {N0 b XL c0 s0 maxL pc : Nat} {aC dC : Nat → ClassId} {dI : Nat → Nat → Nat} {adK : Nat → Nat} {X : Nat → Int} {cc : ByteArray} {own : String} {ls st : List zv} {h : zh} {o : zo}
theorem zW_size {H : Heap} {locs : List Loc} {cells slots : Nat} {g : JFrame} (k : H.size ≤ s.heap.size + cells → W p l e R s m args below meth c H locs cells slots Q g) : W p l e R s m args below meth c H locs cells slots Q g := fun T hT X => k (by have := X.heapSize; rw [hT] at this; exact this) T hT X
theorem zcat_eq {N0 : Nat} {adK : Nat → Nat} {b : Nat} (st : List zv) : ((st.map (zrv N0 adK b)).map fun v => v.category).sum = zcat st := by
  unfold zcat
  rw [List.map_map]
  congr 1
  apply List.map_congr_left
  intro v _
  exact zrv_cat
theorem zi_dup (Fx : zFx p s m args c N0 b XL maxL aC dC dI adK X cc own) (hd : decode cc pc = .ok (.dup, 1)) (hz : (match st with
    | v :: s => zng (!(v.1 == 1)) ls (v :: v :: s) h
    | _ => zno) = (true, o)) (kk : zcont (zWP p l e R s m args below meth c Q N0 b c0 s0 maxL aC dC dI adK) (pc + 1) o) : zWP p l e R s m args below meth c Q N0 b c0 s0 maxL aC dC dI adK pc ls st h := by
  split at hz
  · rename_i v st
    simp only [zng, Prod.mk.injEq, Bool.not_eq_true', beq_eq_false_iff_ne] at hz
    obtain ⟨hv, rfl⟩ := hz
    intro H lsR locs hP hI hl hs hls hc hz hS
    refine lv_dup Fx.1 Fx.2.1 hd (by rw [zrv_cat, if_neg hv]) ?_
    exact kk.2 rfl H lsR locs hP hI hl (fun w hw => by
      rcases List.mem_cons.mp hw with rfl | hw
      · exact hs _ List.mem_cons_self
      · exact hs w hw) hls hc hz hS
  · simp [zno] at hz
theorem zi_dup2 (Fx : zFx p s m args c N0 b XL maxL aC dC dI adK X cc own) (hd : decode cc pc = .ok (.dup2, 1)) (hz : (match st with
    | v :: w :: s => zng (!(v.1 == 1) && !(w.1 == 1)) ls (v :: w :: v :: w :: s) h
    | _ => zno) = (true, o)) (kk : zcont (zWP p l e R s m args below meth c Q N0 b c0 s0 maxL aC dC dI adK) (pc + 1) o) : zWP p l e R s m args below meth c Q N0 b c0 s0 maxL aC dC dI adK pc ls st h := by
  split at hz
  · rename_i v v2 st
    simp only [zng, Prod.mk.injEq, Bool.and_eq_true, Bool.not_eq_true', beq_eq_false_iff_ne] at hz
    obtain ⟨⟨hv, hv2⟩, rfl⟩ := hz
    intro H lsR locs hP hI hl hs hls hc hz hS
    refine lv_dup2_11 Fx.1 Fx.2.1 hd (by rw [zrv_cat, if_neg hv]) (by rw [zrv_cat, if_neg hv2]) ?_
    exact kk.2 rfl H lsR locs hP hI hl (fun w hw => by
      rcases List.mem_cons.mp hw with rfl | hw
      · exact hs _ List.mem_cons_self
      · rcases List.mem_cons.mp hw with rfl | hw
        · exact hs _ (List.mem_cons_of_mem _ List.mem_cons_self)
        · exact hs w hw) hls hc hz hS
  · simp [zno] at hz
theorem zi_pop (Fx : zFx p s m args c N0 b XL maxL aC dC dI adK X cc own) (hd : decode cc pc = .ok (.pop, 1)) (hz : (match st with
    | v :: s => zng (!(v.1 == 1)) ls s h
    | _ => zno) = (true, o)) (kk : zcont (zWP p l e R s m args below meth c Q N0 b c0 s0 maxL aC dC dI adK) (pc + 1) o) : zWP p l e R s m args below meth c Q N0 b c0 s0 maxL aC dC dI adK pc ls st h := by
  split at hz
  · rename_i v st
    simp only [zng, Prod.mk.injEq, Bool.not_eq_true', beq_eq_false_iff_ne] at hz
    obtain ⟨hv, rfl⟩ := hz
    intro H lsR locs hP hI hl hs hls hc hz hS
    refine lv_pop Fx.1 Fx.2.1 hd (by rw [zrv_cat, if_neg hv]) ?_
    exact kk.2 rfl H lsR locs hP hI hl (fun w hw => hs w (List.mem_cons_of_mem _ hw)) hls hc hz hS
  · simp [zno] at hz
/-- one value in place of another one -/
theorem zi_u1 (t u : Nat) (f : Int → Int) (hok : ∀ x, zvok h (t, x) → zvok h (u, f x)) (hrow : ∀ (H : Heap) (locs : List Loc) (cells slots : Nat) (lsR : Array Slot) (rest : List Value) (x : Int), zvok h (t, x) → W p l e R s m args below meth c H locs cells slots Q (F0 m (pc + 1) lsR (zrv N0 adK b (u, f x) :: rest)) → W p l e R s m args below meth c H locs cells slots Q (F0 m pc lsR (zrv N0 adK b (t, x) :: rest)))
    (hz : (match st with
    | (w, x) :: s => zng (w == t) ls ((u, f x) :: s) h
    | _ => zno) = (true, o)) (kk : zcont (zWP p l e R s m args below meth c Q N0 b c0 s0 maxL aC dC dI adK) (pc + 1) o) : zWP p l e R s m args below meth c Q N0 b c0 s0 maxL aC dC dI adK pc ls st h := by
  split at hz
  · rename_i w x st
    simp only [zng, Prod.mk.injEq, beq_iff_eq] at hz
    obtain ⟨rfl, rfl⟩ := hz
    intro H lsR locs hP hI hl hs hls hc hz hS
    have hx := hs _ List.mem_cons_self
    refine hrow _ _ _ _ _ _ x hx ?_
    exact kk.2 rfl H lsR locs hP hI hl (fun w hw => by
      rcases List.mem_cons.mp hw with rfl | hw
      · exact hok x hx
      · exact hs w (List.mem_cons_of_mem _ hw)) hls hc hz hS
  · simp [zno] at hz
theorem zi_u2 (t1 t2 u : Nat) (f : Int → Int → Int) (hok : ∀ x y, zvok h (t1, y) → zvok h (t2, x) → zvok h (u, f x y)) (hrow : ∀ (H : Heap) (locs : List Loc) (cells slots : Nat) (lsR : Array Slot) (rest : List Value) (x y : Int), zvok h (t1, y) → zvok h (t2, x) → W p l e R s m args below meth c H locs cells slots Q (F0 m (pc + 1) lsR (zrv N0 adK b (u, f x y) :: rest)) → W p l e R s m args below meth c H locs cells slots Q (F0 m pc lsR (zrv N0 adK b (t1, y) :: zrv N0 adK b (t2, x) :: rest)))
    (hz : (match st with
    | (w1, y) :: (w2, x) :: s => zng (w1 == t1 && w2 == t2) ls ((u, f x y) :: s) h
    | _ => zno) = (true, o)) (kk : zcont (zWP p l e R s m args below meth c Q N0 b c0 s0 maxL aC dC dI adK) (pc + 1) o) : zWP p l e R s m args below meth c Q N0 b c0 s0 maxL aC dC dI adK pc ls st h := by
  split at hz
  · rename_i w1 y w2 x st
    simp only [zng, Prod.mk.injEq, Bool.and_eq_true, beq_iff_eq] at hz
    obtain ⟨⟨rfl, rfl⟩, rfl⟩ := hz
    intro H lsR locs hP hI hl hs hls hc hz hS
    have hy := hs _ List.mem_cons_self
    have hx := hs _ (List.mem_cons_of_mem _ List.mem_cons_self)
    refine hrow _ _ _ _ _ _ x y hy hx ?_
    exact kk.2 rfl H lsR locs hP hI hl (fun w hw => by
      rcases List.mem_cons.mp hw with rfl | hw
      · exact hok x y hy hx
      · exact hs w (List.mem_cons_of_mem _ (List.mem_cons_of_mem _ hw))) hls hc hz hS
  · simp [zno] at hz
theorem zsl_in (pc : Nat) (x : Int) (d : Nat) : ∀ (os : List Int) (lo : Int), zswi x (zsl pc lo os) d = if lo ≤ x ∧ x < lo + (os.length : Int) then ((pc : Int) + os.getD (x - lo).toNat 0).toNat else d
  | [], lo => by
    have : ¬ (lo ≤ x ∧ x < lo + (([] : List Int).length : Int)) := by simp <;> omega
    rw [if_neg this]; rfl
  | o :: os, lo => by
    unfold zsl zswi
    by_cases h : x = lo
    · subst h
      rw [if_pos rfl, if_pos (by simp; omega)]
      simp
    · rw [if_neg h, zsl_in pc x d os (lo + 1)]
      by_cases h2 : lo + 1 ≤ x ∧ x < lo + 1 + (os.length : Int)
      · rw [if_pos h2, if_pos (by simp; omega)]
        have : (x - lo).toNat = (x - (lo + 1)).toNat + 1 := by omega
        rw [this]
        simp
      · rw [if_neg h2, if_neg (by simp; omega)]
theorem zi_table (dd lo hi : Int) (offs : Array Int) (len : Nat) (Fx : zFx p s m args c N0 b XL maxL aC dC dI adK X cc own) (hd : decode cc pc = .ok (.tableswitch dd lo hi offs, len)) (hz : (match st with
    | (t, x) :: s => (t == 0 && (decide (hi = lo + (offs.toList.length : Int) - 1) && (decide (0 ≤ (pc : Int) + dd) && offs.toList.all (fun o => decide (0 ≤ (pc : Int) + o)))), (.inr (.inr (.inr (x, zsl pc lo offs.toList, ((pc : Int) + dd).toNat, ls, s, h))) : zo))
    | _ => zno) = (true, o)) (kk : zcont (zWP p l e R s m args below meth c Q N0 b c0 s0 maxL aC dC dI adK) (pc + len) o) : zWP p l e R s m args below meth c Q N0 b c0 s0 maxL aC dC dI adK pc ls st h := by
  split at hz
  · rename_i t x st
    simp only [Prod.mk.injEq, Bool.and_eq_true, beq_iff_eq, decide_eq_true_eq, List.all_eq_true] at hz
    obtain ⟨⟨rfl, hhi, hdd, hall⟩, rfl⟩ := hz
    intro H lsR locs hP hI hl hs hls hc hz hS
    have hx : z32 x := (hs (0, x) List.mem_cons_self).1 rfl
    have k2 := kk H lsR locs hP hI hl (fun w hw => hs w (List.mem_cons_of_mem _ hw)) hls hc hz hS
    rw [zsl_in] at k2
    show W p l e R s m args below meth c H locs (h.1.length - c0) (zsz h - s0) Q (F0 m pc lsR (.int (Int32.ofInt x) :: st.map (zrv N0 adK b)))
    by_cases hq : lo ≤ x ∧ x < lo + (offs.toList.length : Int)
    · rw [if_pos hq] at k2
      have hlt : (x - lo).toNat < offs.toList.length := by omega
      have hg : offs.toList.getD (x - lo).toNat 0 = offs.toList[(x - lo).toNat] := by rw [List.getD_eq_getElem?_getD, List.getElem?_eq_getElem hlt]; rfl
      have hn := hall _ (List.getElem_mem hlt)
      refine lv_tableIn (off := offs.toList[(x - lo).toNat]) (tgt := ((pc : Int) + offs.toList[(x - lo).toNat]).toNat) Fx.1 Fx.2.1 hd (by rw [zt_o hx]; omega) (by rw [zt_o hx]; omega) (by rw [zt_o hx, ← Array.getElem?_toList, List.getElem?_eq_getElem hlt]) (by omega) ?_
      rw [← hg]
      exact k2
    · rw [if_neg hq] at k2
      exact lv_tableOut (tgt := ((pc : Int) + dd).toNat) Fx.1 Fx.2.1 hd (by rw [zt_o hx]; omega) (by omega) k2
  · simp [zno] at hz
theorem zlk_in (pc : Nat) (x dd : Int) (hdd : 0 ≤ (pc : Int) + dd) : ∀ (ps : List (Int × Int)), (∀ q ∈ ps, 0 ≤ (pc : Int) + q.2) → (pc : Int) + Op.lookupswitch.offset ps dd x = ((zswi x (ps.map (fun q => (q.1, ((pc : Int) + q.2).toNat))) ((pc : Int) + dd).toNat : Nat) : Int)
  | [], _ => by
    show (pc : Int) + dd = ((((pc : Int) + dd).toNat : Nat) : Int)
    omega
  | q :: ps, h => by
    rw [Op.lookupswitch.offset_cons]
    simp only [List.map_cons, zswi]
    have h1 := h q List.mem_cons_self
    by_cases hx : x = q.1
    · rw [if_pos (by first | exact hx | exact hx.symm), if_pos hx]
      omega
    · rw [if_neg (by first | exact hx | exact fun z => hx z.symm), if_neg hx]
      exact zlk_in pc x dd hdd ps (fun q hq => h q (List.mem_cons_of_mem _ hq))
theorem zi_lookup (dd : Int) (ps : Array (Int × Int)) (len : Nat) (Fx : zFx p s m args c N0 b XL maxL aC dC dI adK X cc own) (hd : decode cc pc = .ok (.lookupswitch dd ps, len)) (hz : (match st with
    | (t, x) :: s => (t == 0 && ((ps.toList.zip (ps.toList.drop 1)).all (fun (a, next) => a.1 < next.1) && (decide (0 ≤ (pc : Int) + dd) && ps.toList.all (fun o => decide (0 ≤ (pc : Int) + o.2)))), (.inr (.inr (.inr (x, ps.toList.map (fun q => (q.1, ((pc : Int) + q.2).toNat)), ((pc : Int) + dd).toNat, ls, s, h))) : zo))
    | _ => zno) = (true, o)) (kk : zcont (zWP p l e R s m args below meth c Q N0 b c0 s0 maxL aC dC dI adK) (pc + len) o) : zWP p l e R s m args below meth c Q N0 b c0 s0 maxL aC dC dI adK pc ls st h := by
  split at hz
  · rename_i t x st
    simp only [Prod.mk.injEq] at hz
    obtain ⟨hz, rfl⟩ := hz
    rw [Bool.and_eq_true, Bool.and_eq_true, Bool.and_eq_true] at hz
    obtain ⟨ht, hp, hdd, hall⟩ := hz
    have ht := beq_iff_eq.mp ht
    subst ht
    have hdd := of_decide_eq_true hdd
    have hall : ∀ q ∈ ps.toList, 0 ≤ (pc : Int) + q.2 := fun q hq => of_decide_eq_true (List.all_eq_true.mp hall q hq)
    intro H lsR locs hP hI hl hs hls hc hz hS
    have hx : z32 x := (hs (0, x) List.mem_cons_self).1 rfl
    have k2 := kk H lsR locs hP hI hl (fun w hw => hs w (List.mem_cons_of_mem _ hw)) hls hc hz hS
    refine lv_lookup Fx.1 Fx.2.1 hd hp rfl ?_ k2
    rw [zt_o hx]
    exact zlk_in pc x dd hdd _ hall
  · simp [zno] at hz
end Heap
