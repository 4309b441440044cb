def zswi (x : Int) : List (Int × Nat) → Nat → Nat
  | [], d => d
  | (v, t) :: l, d => if x = v then t else zswi x l d
theorem zswk_i {α : Type} {x : Int} {k : Nat → α} : ∀ (l : List (Int × Nat)) (d : Nat), zswk x k l d = k (zswi x l d)
  | [], _ => rfl
  | (v, t) :: l, d => by
    unfold zswk zswi
    by_cases h : x = v
    · simp [h]
    · simp [h, zswk_i l d]
section Step
variable {p : Program} {l : Launch} {e : Env} {R : Room} {s : State} {m : MethodId} {args : Array Value} {below : List Frame} {meth : Method} {c : Code} {Q : State → Prop}
variable {N0 b XL c0 s0 maxL pc : Nat} {aC dC : Nat → ClassId} {dI : Nat → Nat → Nat} {adK : Nat → Nat} {X : Nat → Int} {cc : ByteArray} {own : String} {ls st : List zv} {h : zh} {o : zo}
abbrev zcont (P : Nat → List zv → List zv → zh → Prop) (nx : Nat) (o : zo) : Prop := match o with
  | .inl _ => True
  | .inr (.inl (bb, t, ls, st, h)) => (bb = true → P t ls st h) ∧ (bb = false → P nx ls st h)
  | .inr (.inr (.inl _)) => True
  | .inr (.inr (.inr (x, l, d, ls, st, h))) => P (zswi x l d) ls st h
theorem zi_push {n : Nat} (v : zv) (g : Bool) (hv : zvok h v) (hrow : ∀ (H : Heap) (locs : List Loc) (cells slots : Nat) (lsR : Array Slot) (rest : List Value), W p l e R s m args below meth c H locs cells slots Q (F0 m (pc + n) lsR (zrv N0 adK b v :: rest)) → W p l e R s m args below meth c H locs cells slots Q (F0 m pc lsR rest))
    (hz : zng g ls (v :: st) h = (true, o)) (k : zcont (zWP p l e R s m args below meth c Q N0 b c0 s0 maxL aC dC dI adK) (pc + n) o) : zWP p l e R s m args below meth c Q N0 b c0 s0 maxL aC dC dI adK pc ls st h := by
  simp only [zng, Prod.mk.injEq] at hz
  obtain ⟨-, rfl⟩ := hz
  intro H lsR locs hP hI hl hs hls hc hz hS
  refine hrow _ _ _ _ _ _ ?_
  exact k.2 rfl H lsR locs hP hI hl (fun w hw => by
    rcases List.mem_cons.mp hw with rfl | hw
    · exact hv
    · exact hs w hw) hls hc hz hS
theorem zi_ld {k : Nat} (t n : Nat) (h9 : t ≠ 9) (hrow : ∀ (H : Heap) (locs : List Loc) (cells slots : Nat) (lsR : Array Slot) (rest : List Value) (x : Int), lsR[n]? = some (.val (zrv N0 adK b (t, x))) → W p l e R s m args below meth c H locs cells slots Q (F0 m (pc + k) lsR (zrv N0 adK b (t, x) :: rest)) → W p l e R s m args below meth c H locs cells slots Q (F0 m pc lsR rest))
    (hz : z_ld t n ls st h = (true, o)) (kk : zcont (zWP p l e R s m args below meth c Q N0 b c0 s0 maxL aC dC dI adK) (pc + k) o) : zWP p l e R s m args below meth c Q N0 b c0 s0 maxL aC dC dI adK pc ls st h := by
  unfold z_ld at hz
  cases hv : ls.getD n (9, 0) with
  | mk u x =>
  rw [hv] at hz
  simp only [zng, Prod.mk.injEq, beq_iff_eq] at hz
  obtain ⟨rfl, rfl⟩ := hz
  intro H lsR locs hP hI hl hs hls hc hz hS
  refine hrow _ _ _ _ _ _ x (zlv_get hl hv h9) ?_
  exact kk.2 rfl H lsR locs hP hI hl (fun w hw => by
    rcases List.mem_cons.mp hw with rfl | hw
    · rw [← hv]; exact zok_get hls
    · exact hs w hw) hls hc hz hS
theorem zi_lda {k : Nat} (n : Nat) (hrow : ∀ (H : Heap) (locs : List Loc) (cells slots : Nat) (lsR : Array Slot) (rest : List Value) (x : Nat), lsR[n]? = some (.val (.ref x)) → W p l e R s m args below meth c H locs cells slots Q (F0 m (pc + k) lsR (.ref x :: rest)) → W p l e R s m args below meth c H locs cells slots Q (F0 m pc lsR rest))
    (hz : z_lda n ls st h = (true, o)) (kk : zcont (zWP p l e R s m args below meth c Q N0 b c0 s0 maxL aC dC dI adK) (pc + k) o) : zWP p l e R s m args below meth c Q N0 b c0 s0 maxL aC dC dI adK pc ls st h := by
  unfold z_lda at hz
  cases hv : ls.getD n (9, 0) with
  | mk u x =>
  rw [hv] at hz
  simp only [zng, Prod.mk.injEq, Bool.or_eq_true, beq_iff_eq] at hz
  obtain ⟨hu, rfl⟩ := hz
  intro H lsR locs hP hI hl hs hls hc hz hS
  have hok : ∀ w ∈ (u, x) :: st, zvok h w := fun w hw => by
    rcases List.mem_cons.mp hw with rfl | hw
    · rw [← hv]; exact zok_get hls
    · exact hs w hw
  have hg : u ≠ 9 := by omega
  have h1 := zlv_get hl hv hg
  have h2 := kk.2 rfl H lsR locs hP hI hl hok hls hc hz hS
  rcases hu with (rfl | rfl) | rfl
  · exact hrow _ _ _ _ _ _ _ h1 h2
  · exact hrow _ _ _ _ _ _ _ h1 h2
  · exact hrow _ _ _ _ _ _ _ h1 h2
theorem zi_sti {k : Nat} (n : Nat) (hrow : ∀ (H : Heap) (locs : List Loc) (cells slots : Nat) (lsR : Array Slot) (rest : List Value) (x : Int32) (lv : List (Nat × Value)), lv_has lsR maxL lv → n < maxL → (∀ ls' : Array Slot, lv_has ls' maxL ((n, Value.int x) :: lv.filter (fun q => !(q.1 == n) && !(q.1 + 1 == n && q.2.category == 2))) → W p l e R s m args below meth c H locs cells slots Q (F0 m (pc + k) ls' rest)) → W p l e R s m args below meth c H locs cells slots Q (F0 m pc lsR (.int x :: rest))) (hml : ls.length ≤ maxL)
    (hz : z_sti n ls st h = (true, o)) (kk : zcont (zWP p l e R s m args below meth c Q N0 b c0 s0 maxL aC dC dI adK) (pc + k) o) : zWP p l e R s m args below meth c Q N0 b c0 s0 maxL aC dC dI adK pc ls st h := by
  unfold z_sti at hz
  split at hz
  · rename_i t x st
    simp only [zng, Prod.mk.injEq, Bool.and_eq_true, beq_iff_eq, decide_eq_true_eq] at hz
    obtain ⟨⟨rfl, hn⟩, rfl⟩ := hz
    intro H lsR locs hP hI hl hs hls hc hz hS
    refine hrow _ _ _ _ _ _ _ _ hl (by omega) fun ls' hl' => ?_
    have hx := hs (0, x) List.mem_cons_self
    exact kk.2 rfl H ls' locs hP hI (lv_has_sub hl' (zlv_set rfl)) (fun w hw => hs w (List.mem_cons_of_mem _ hw)) (zok_set hls hx) hc hz hS
  · simp [zno] at hz
theorem zi_stl {k : Nat} (n : Nat) (hrow : ∀ (H : Heap) (locs : List Loc) (cells slots : Nat) (lsR : Array Slot) (rest : List Value) (x : Int64) (lv : List (Nat × Value)), lv_has lsR maxL lv → n + 1 < maxL → (∀ ls' : Array Slot, lv_has ls' maxL ((n, Value.long x) :: lv.filter (fun q => !(q.1 == n) && (!(q.1 == n + 1) && !(q.1 + 1 == n && q.2.category == 2)))) → W p l e R s m args below meth c H locs cells slots Q (F0 m (pc + k) ls' rest)) → W p l e R s m args below meth c H locs cells slots Q (F0 m pc lsR (.long x :: rest))) (hml : ls.length ≤ maxL)
    (hz : z_stl n ls st h = (true, o)) (kk : zcont (zWP p l e R s m args below meth c Q N0 b c0 s0 maxL aC dC dI adK) (pc + k) o) : zWP p l e R s m args below meth c Q N0 b c0 s0 maxL aC dC dI adK pc ls st h := by
  unfold z_stl at hz
  split at hz
  · rename_i t x st
    simp only [zng, Prod.mk.injEq, Bool.and_eq_true, beq_iff_eq, decide_eq_true_eq] at hz
    obtain ⟨⟨rfl, hn⟩, rfl⟩ := hz
    intro H lsR locs hP hI hl hs hls hc hz hS
    refine hrow _ _ _ _ _ _ _ _ hl (by omega) fun ls' hl' => ?_
    have hx := hs (1, x) List.mem_cons_self
    exact kk.2 rfl H ls' locs hP hI (lv_has_sub hl' (zlv_set2 rfl)) (fun w hw => hs w (List.mem_cons_of_mem _ hw)) (zok_set2 hls hx) hc hz hS
  · simp [zno] at hz
theorem zi_sta {k : Nat} (n : Nat) (hrow : ∀ (H : Heap) (locs : List Loc) (cells slots : Nat) (lsR : Array Slot) (rest : List Value) (x : Nat) (lv : List (Nat × Value)), lv_has lsR maxL lv → n < maxL → (∀ ls' : Array Slot, lv_has ls' maxL ((n, Value.ref x) :: lv.filter (fun q => !(q.1 == n) && !(q.1 + 1 == n && q.2.category == 2))) → W p l e R s m args below meth c H locs cells slots Q (F0 m (pc + k) ls' rest)) → W p l e R s m args below meth c H locs cells slots Q (F0 m pc lsR (.ref x :: rest))) (hml : ls.length ≤ maxL)
    (hz : z_sta n ls st h = (true, o)) (kk : zcont (zWP p l e R s m args below meth c Q N0 b c0 s0 maxL aC dC dI adK) (pc + k) o) : zWP p l e R s m args below meth c Q N0 b c0 s0 maxL aC dC dI adK pc ls st h := by
  unfold z_sta at hz
  split at hz
  · rename_i t x st
    simp only [zng, Prod.mk.injEq, Bool.and_eq_true, Bool.or_eq_true, beq_iff_eq, decide_eq_true_eq] at hz
    obtain ⟨⟨ht, hn⟩, rfl⟩ := hz
    intro H lsR locs hP hI hl hs hls hc hz hS
    have hx := hs (t, x) List.mem_cons_self
    have key : ∀ (y : Nat), zrv N0 adK b (t, x) = .ref y → W p l e R s m args below meth c H locs (h.1.length - c0) (zsz h - s0) Q (F0 m pc lsR (((t, x) :: st).map (zrv N0 adK b))) := by
      intro y hy
      rw [List.map_cons, hy]
      refine hrow _ _ _ _ _ _ _ _ hl (by omega) fun ls' hl' => ?_
      exact kk.2 rfl H ls' locs hP hI (lv_has_sub hl' (zlv_set hy)) (fun w hw => hs w (List.mem_cons_of_mem _ hw)) (zok_set hls hx) hc hz hS
    rcases ht with (rfl | rfl) | rfl
    · exact key _ rfl
    · exact key _ rfl
    · exact key _ rfl
  · simp [zno] at hz
theorem zi_iinc (n : Nat) (d : Int) (Fx : zFx p s m args c N0 b XL maxL aC dC dI adK X cc own) (hd : decode cc pc = .ok (.iinc n d, 3)) (hml : ls.length ≤ maxL)
    (hz : (match ls.getD n (9, 0) with
    | (u, x) => zng (u == 0 && decide (n < ls.length)) (zset ls n (0, zw (x + d))) st h) = (true, o)) (kk : zcont (zWP p l e R s m args below meth c Q N0 b c0 s0 maxL aC dC dI adK) (pc + 3) o) : zWP p l e R s m args below meth c Q N0 b c0 s0 maxL aC dC dI adK pc ls st h := by
  cases hv : ls.getD n (9, 0) with
  | mk u x =>
  rw [hv] at hz
  simp only [zng, Prod.mk.injEq, Bool.and_eq_true, beq_iff_eq, decide_eq_true_eq] at hz
  obtain ⟨⟨rfl, hn⟩, rfl⟩ := hz
  intro H lsR locs hP hI hl hs hls hc hz hS
  have hx : zvok h (0, x) := by rw [← hv]; exact zok_get hls
  have hmem : (n, Value.int (Int32.ofInt x)) ∈ zlv (zrv N0 adK b) 0 ls := by
    refine (zlv_mem _ _ _).mpr ⟨n, (0, x), ?_, by simp, by simp [zrv]⟩
    rw [List.getD_eq_getElem?_getD] at hv
    cases hq : ls[n]? with
    | none => rw [hq] at hv; simp at hv
    | some w => rw [hq] at hv; simp at hv; rw [hv]
  obtain ⟨j, hj⟩ := List.getElem?_of_mem hmem
  refine lv_iinc (v := Int32.ofInt (zw (x + d))) Fx.1 Fx.2.1 hd hl hj (by rw [zo_w, Int32.ofInt_add]) (by omega) rfl fun ls' hl' => ?_
  exact kk.2 rfl H ls' locs hP hI (lv_has_sub hl' (zlv_set rfl)) hs (zok_set hls (zoki (zw_32 _))) hc hz hS
theorem zi_b2 (f : Int → Int → Int) (g : Int32 → Int32 → Int32) (hrow : ∀ (H : Heap) (locs : List Loc) (cells slots : Nat) (lsR : Array Slot) (rest : List Value) (x y : Int32), W p l e R s m args below meth c H locs cells slots Q (F0 m (pc + 1) lsR (.int (g x y) :: rest)) → W p l e R s m args below meth c H locs cells slots Q (F0 m pc lsR (.int y :: .int x :: rest)))
    (hg : ∀ x y, z32 x → z32 y → Int32.ofInt (f x y) = g (Int32.ofInt x) (Int32.ofInt y)) (h32 : ∀ x y, z32 x → z32 y → z32 (f x y))
    (hz : z_b2 f ls st h = (true, o)) (kk : zcont (zWP p l e R s m args below meth c Q N0 b c0 s0 maxL aC dC dI adK) (pc + 1) o) : zWP p l e R s m args below meth c Q N0 b c0 s0 maxL aC dC dI adK pc ls st h := by
  unfold z_b2 at hz
  split at hz
  · rename_i t y u x st
    simp only [zng, Prod.mk.injEq, Bool.and_eq_true, beq_iff_eq] at hz
    obtain ⟨⟨rfl, rfl⟩, rfl⟩ := hz
    intro H lsR locs hP hI hl hs hls hc hz hS
    have hy : z32 y := (hs (0, y) List.mem_cons_self).1 rfl
    have hx : z32 x := (hs (0, x) (List.mem_cons_of_mem _ List.mem_cons_self)).1 rfl
    refine hrow _ _ _ _ _ _ _ _ ?_
    have := kk.2 rfl H lsR locs hP hI hl (fun w hw => by
      rcases List.mem_cons.mp hw with rfl | hw
      · exact zoki (h32 _ _ hx hy)
      · exact hs w (List.mem_cons_of_mem _ (List.mem_cons_of_mem _ hw))) hls hc hz hS
    rw [List.map_cons] at this
    rw [← hg x y hx hy]
    exact this
  · simp [zno] at hz
theorem zi_b2g (f : Int → Int → Int) (g : Int32 → Int32 → Int32) (hrow : ∀ (H : Heap) (locs : List Loc) (cells slots : Nat) (lsR : Array Slot) (rest : List Value) (x y : Int32), ¬ y = 0 → W p l e R s m args below meth c H locs cells slots Q (F0 m (pc + 1) lsR (.int (g x y) :: rest)) → W p l e R s m args below meth c H locs cells slots Q (F0 m pc lsR (.int y :: .int x :: rest)))
    (hg : ∀ x y, z32 x → z32 y → Int32.ofInt (f x y) = g (Int32.ofInt x) (Int32.ofInt y)) (h32 : ∀ x y, z32 x → z32 y → z32 (f x y))
    (hz : z_b2g f ls st h = (true, o)) (kk : zcont (zWP p l e R s m args below meth c Q N0 b c0 s0 maxL aC dC dI adK) (pc + 1) o) : zWP p l e R s m args below meth c Q N0 b c0 s0 maxL aC dC dI adK pc ls st h := by
  unfold z_b2g at hz
  split at hz
  · rename_i t y u x st
    simp only [zng, Prod.mk.injEq, Bool.and_eq_true, beq_iff_eq, Bool.not_eq_true', decide_eq_false_iff_not] at hz
    obtain ⟨⟨⟨rfl, rfl⟩, hy0⟩, rfl⟩ := hz
    intro H lsR locs hP hI hl hs hls hc hz hS
    have hy : z32 y := (hs (0, y) List.mem_cons_self).1 rfl
    have hx : z32 x := (hs (0, x) (List.mem_cons_of_mem _ List.mem_cons_self)).1 rfl
    refine hrow _ _ _ _ _ _ _ _ (by rw [zo_0, zo_eq hy z32_0]; exact hy0) ?_
    have := kk.2 rfl H lsR locs hP hI hl (fun w hw => by
      rcases List.mem_cons.mp hw with rfl | hw
      · exact zoki (h32 _ _ hx hy)
      · exact hs w (List.mem_cons_of_mem _ (List.mem_cons_of_mem _ hw))) hls hc hz hS
    rw [List.map_cons] at this
    rw [← hg x y hx hy]
    exact this
  · simp [zno] at hz
theorem zi_l2 (f : Int → Int → Int) (g : Int64 → Int64 → Int64) (hrow : ∀ (H : Heap) (locs : List Loc) (cells slots : Nat) (lsR : Array Slot) (rest : List Value) (x y : Int64), W p l e R s m args below meth c H locs cells slots Q (F0 m (pc + 1) lsR (.long (g x y) :: rest)) → W p l e R s m args below meth c H locs cells slots Q (F0 m pc lsR (.long y :: .long x :: rest)))
    (hg : ∀ x y, Int64.ofInt (f x y) = g (Int64.ofInt x) (Int64.ofInt y)) (h64 : ∀ x y, z64 (f x y))
    (hz : z_l2 f ls st h = (true, o)) (kk : zcont (zWP p l e R s m args below meth c Q N0 b c0 s0 maxL aC dC dI adK) (pc + 1) o) : zWP p l e R s m args below meth c Q N0 b c0 s0 maxL aC dC dI adK pc ls st h := by
  unfold z_l2 at hz
  split at hz
  · rename_i t y u x st
    simp only [zng, Prod.mk.injEq, Bool.and_eq_true, beq_iff_eq] at hz
    obtain ⟨⟨rfl, rfl⟩, rfl⟩ := hz
    intro H lsR locs hP hI hl hs hls hc hz hS
    refine hrow _ _ _ _ _ _ _ _ ?_
    have := kk.2 rfl H lsR locs hP hI hl (fun w hw => by
      rcases List.mem_cons.mp hw with rfl | hw
      · exact zokl (h64 _ _)
      · exact hs w (List.mem_cons_of_mem _ (List.mem_cons_of_mem _ hw))) hls hc hz hS
    rw [List.map_cons] at this
    rw [← hg x y]
    exact this
  · simp [zno] at hz
theorem zcmp_eq {x y : Int} : zcmp .eq x y = true ↔ x = y := by simp [zcmp]
theorem zi_if (cd : Jvm.ClassFile.Cond) (off : Int) (r : zr) (Fx : zFx p s m args c N0 b XL maxL aC dC dI adK X cc own) (hd : decode cc pc = .ok (.ifCond cd off, 3))
    (hz : (match st with
    | (t, x) :: s => (t == 0 && decide ((pc : Int) + off = (r.2.1 : Int)), (.inr (.inl (zcmp cd x 0, r.2.1, ls, s, h)) : zo))
    | _ => zno) = (true, o)) (kk : zcont (zWP p l e R s m args below meth c Q N0 b c0 s0 maxL aC dC dI adK) (pc + 3) o) : zWP p l e R s m args below meth c Q N0 b c0 s0 maxL aC dC dI adK pc ls st h := by
  split at hz
  · rename_i t x st
    simp only [Prod.mk.injEq, Bool.and_eq_true, beq_iff_eq, decide_eq_true_eq] at hz
    obtain ⟨⟨rfl, ht⟩, rfl⟩ := hz
    intro H lsR locs hP hI hl hs hls hc hz hS
    have hx : z32 x := (hs (0, x) List.mem_cons_self).1 rfl
    have h1 : zcmp cd x 0 = true → W p l e R s m args below meth c H locs (h.1.length - c0) (zsz h - s0) Q (F0 m r.2.1 lsR (st.map (zrv N0 adK b))) := fun q => kk.1 q H lsR locs hP hI hl (fun w hw => hs w (List.mem_cons_of_mem _ hw)) hls hc hz hS
    have h2 : zcmp cd x 0 = false → W p l e R s m args below meth c H locs (h.1.length - c0) (zsz h - s0) Q (F0 m (pc + 3) lsR (st.map (zrv N0 adK b))) := fun q => kk.2 q H lsR locs hP hI hl (fun w hw => hs w (List.mem_cons_of_mem _ hw)) hls hc hz hS
    show W p l e R s m args below meth c H locs (h.1.length - c0) (zsz h - s0) Q (F0 m pc lsR (.int (Int32.ofInt x) :: st.map (zrv N0 adK b)))
    cases cd with
    | eq => exact lv_if_eq Fx.1 Fx.2.1 hd ht (fun q => h1 (by rw [zo_0, zo_eq hx z32_0] at q; simp [zcmp, q])) (fun q => h2 (by rw [zo_0, zo_eq hx z32_0] at q; simp [zcmp, q]))
    | ne => exact lv_if_ne Fx.1 Fx.2.1 hd ht (fun q => h1 (by rw [zo_0, zo_eq hx z32_0] at q; simp [zcmp, q])) (fun q => h2 (by rw [zo_0, zo_eq hx z32_0] at q; simp [zcmp, q]))
    | lt => exact lv_if_lt Fx.1 Fx.2.1 hd ht (fun q => h1 (by rw [zo_0, zo_lt hx z32_0] at q; simp [zcmp, q])) (fun q => h2 (by rw [zo_0, zo_lt hx z32_0] at q; simp [zcmp]; omega))
    | ge => exact lv_if_ge Fx.1 Fx.2.1 hd ht (fun q => h1 (by rw [zo_0, zo_le z32_0 hx] at q; simp [zcmp, q])) (fun q => h2 (by rw [zo_0, zo_le z32_0 hx] at q; simp [zcmp]; omega))
    | gt => exact lv_if_gt Fx.1 Fx.2.1 hd ht (fun q => h1 (by rw [zo_0, zo_lt z32_0 hx] at q; simp [zcmp, q])) (fun q => h2 (by rw [zo_0, zo_lt z32_0 hx] at q; simp [zcmp]; omega))
    | le => exact lv_if_le Fx.1 Fx.2.1 hd ht (fun q => h1 (by rw [zo_0, zo_le hx z32_0] at q; simp [zcmp, q])) (fun q => h2 (by rw [zo_0, zo_le hx z32_0] at q; simp [zcmp]; omega))
  · simp [zno] at hz
theorem zi_icmp (cd : Jvm.ClassFile.Cond) (off : Int) (r : zr) (Fx : zFx p s m args c N0 b XL maxL aC dC dI adK X cc own) (hd : decode cc pc = .ok (.if_icmp cd off, 3))
    (hz : (match st with
    | (t, y) :: (u, x) :: s => (t == 0 && (u == 0 && decide ((pc : Int) + off = (r.2.1 : Int))), (.inr (.inl (zcmp cd x y, r.2.1, ls, s, h)) : zo))
    | _ => zno) = (true, o)) (kk : zcont (zWP p l e R s m args below meth c Q N0 b c0 s0 maxL aC dC dI adK) (pc + 3) o) : zWP p l e R s m args below meth c Q N0 b c0 s0 maxL aC dC dI adK pc ls st h := by
  split at hz
  · rename_i t y u x st
    simp only [Prod.mk.injEq, Bool.and_eq_true, beq_iff_eq, decide_eq_true_eq] at hz
    obtain ⟨⟨rfl, rfl, ht⟩, rfl⟩ := hz
    intro H lsR locs hP hI hl hs hls hc hz hS
    have hy : z32 y := (hs (0, y) List.mem_cons_self).1 rfl
    have hx : z32 x := (hs (0, x) (List.mem_cons_of_mem _ List.mem_cons_self)).1 rfl
    have h1 : zcmp cd x y = true → W p l e R s m args below meth c H locs (h.1.length - c0) (zsz h - s0) Q (F0 m r.2.1 lsR (st.map (zrv N0 adK b))) := fun q => kk.1 q H lsR locs hP hI hl (fun w hw => hs w (List.mem_cons_of_mem _ (List.mem_cons_of_mem _ hw))) hls hc hz hS
    have h2 : zcmp cd x y = false → W p l e R s m args below meth c H locs (h.1.length - c0) (zsz h - s0) Q (F0 m (pc + 3) lsR (st.map (zrv N0 adK b))) := fun q => kk.2 q H lsR locs hP hI hl (fun w hw => hs w (List.mem_cons_of_mem _ (List.mem_cons_of_mem _ hw))) hls hc hz hS
    show W p l e R s m args below meth c H locs (h.1.length - c0) (zsz h - s0) Q (F0 m pc lsR (.int (Int32.ofInt y) :: .int (Int32.ofInt x) :: st.map (zrv N0 adK b)))
    cases cd with
    | eq => exact lv_icmp_eq Fx.1 Fx.2.1 hd ht (fun q => h1 (by rw [zo_eq hx hy] at q; simp [zcmp, q])) (fun q => h2 (by rw [zo_eq hx hy] at q; simp [zcmp, q]))
    | ne => exact lv_icmp_ne Fx.1 Fx.2.1 hd ht (fun q => h1 (by rw [zo_eq hx hy] at q; simp [zcmp, q])) (fun q => h2 (by rw [zo_eq hx hy] at q; simp [zcmp, q]))
    | lt => exact lv_icmp_lt Fx.1 Fx.2.1 hd ht (fun q => h1 (by rw [zo_lt hx hy] at q; simp [zcmp, q])) (fun q => h2 (by rw [zo_lt hx hy] at q; simp [zcmp]; omega))
    | ge => exact lv_icmp_ge Fx.1 Fx.2.1 hd ht (fun q => h1 (by rw [zo_le hy hx] at q; simp [zcmp, q])) (fun q => h2 (by rw [zo_le hy hx] at q; simp [zcmp]; omega))
    | gt => exact lv_icmp_gt Fx.1 Fx.2.1 hd ht (fun q => h1 (by rw [zo_lt hy hx] at q; simp [zcmp, q])) (fun q => h2 (by rw [zo_lt hy hx] at q; simp [zcmp]; omega))
    | le => exact lv_icmp_le Fx.1 Fx.2.1 hd ht (fun q => h1 (by rw [zo_le hx hy] at q; simp [zcmp, q])) (fun q => h2 (by rw [zo_le hx hy] at q; simp [zcmp]; omega))
  · simp [zno] at hz
end Step
