section Arrays
variable {p : Program} {l : Launch} {e : Env} {R : Room} {s : State} {m : MethodId} {args : Array Value} {below : List Frame} {meth : Method} {c : Code} {Q : State → Prop}
variable {N0 b XL c0 s0 maxL pc : Nat} {aC dC : Nat → ClassId} {dI : Nat → Nat → Nat} {adK : Nat → Nat} {X : Nat → Int} {cc : ByteArray} {own : String} {ls st : List zv} {h : zh} {o : zo}
theorem z_ix_spec {h : zh} {kd : Nat} {a i : Int} (hq : z_ix h kd a i = true) : 0 ≤ a ∧ (zgd h a.toNat).1 = kd ∧ 0 ≤ i ∧ i < ((zgd h a.toNat).2.1 : Int) := by
  unfold z_ix at hq
  simp only [Bool.and_eq_true, decide_eq_true_eq, beq_iff_eq] at hq
  exact ⟨hq.1, hq.2.1, hq.2.2.1, hq.2.2.2⟩
theorem zarr_i {N0 : Nat} {aC : Nat → ClassId} {h : zh} {k : Nat} (hI : zinv h) (hk : k < h.1.length) (h12 : 12 ≤ (zgd h k).1) (h13 : (zgd h k).1 ≠ 13) (h16 : (zgd h k).1 < 16) : (zwd N0 aC h)[k]? = some (N0 + k, .inl (aC (zgd h k).1, (zgd h k).2.1, .inl fun j => Int32.ofInt (h.2 k j))) ∧ (∀ j, z32 (h.2 k j)) ∧ (zgd h k).2.1 ≤ 5000 := by
  rcases hI k hk with ⟨h1, -⟩ | ⟨-, -, g3, -, g5, -⟩
  · omega
  · exact ⟨by rw [zwd_get hk, zce_i h12 h13 h16], g5 h13 h16, g3⟩
theorem zarr_l {N0 : Nat} {aC : Nat → ClassId} {h : zh} {k : Nat} (hI : zinv h) (hk : k < h.1.length) (h13 : (zgd h k).1 = 13) : (zwd N0 aC h)[k]? = some (N0 + k, .inl (aC 13, (zgd h k).2.1, .inr (.inl fun j => Int64.ofInt (h.2 k j)))) ∧ (∀ j, z64 (h.2 k j)) ∧ (zgd h k).2.1 ≤ 5000 := by
  rcases hI k hk with ⟨h1, -⟩ | ⟨-, -, g3, g4, -, -⟩
  · omega
  · exact ⟨by rw [zwd_get hk, zce_l h13, h13], g4 h13, g3⟩
theorem zarr_r {N0 : Nat} {aC : Nat → ClassId} {h : zh} {k : Nat} (hI : zinv h) (hk : k < h.1.length) (h16 : 16 ≤ (zgd h k).1) (h19 : (zgd h k).1 < 19) : (zwd N0 aC h)[k]? = some (N0 + k, .inl (aC (zgd h k).1, (zgd h k).2.1, .inr (.inr (.inr (.inr fun j => ((zgd h k).2.2.getD j none).map fun a => N0 + a))))) ∧ (zgd h k).2.2.length = (zgd h k).2.1 ∧ (∀ j a, (zgd h k).2.2.getD j none = some a → a < h.1.length) ∧ (zgd h k).2.1 ≤ 5000 := by
  rcases hI k hk with ⟨h1, -⟩ | ⟨-, -, g3, -, -, g6⟩
  · omega
  · exact ⟨by rw [zwd_get hk, zce_r h16], (g6 h16).1, (g6 h16).2, g3⟩
theorem zix_32 {i : Int} {n : Nat} (h0 : 0 ≤ i) (h1 : i < (n : Int)) (h2 : n ≤ 5000) : z32 i := by unfold z32; omega
theorem zi_iald (Fx : zFx p s m args c N0 b XL maxL aC dC dI adK X cc own) (hd : decode cc pc = .ok (.iaload, 1)) (hz : z_al X XL ls st h = (true, o)) (kk : zcont (zWP p l e R s m args below meth c Q N0 b c0 s0 maxL aC dC dI adK) (pc + 1) o) : zWP p l e R s m args below meth c Q N0 b c0 s0 maxL aC dC dI adK pc ls st h := by
  unfold z_al at hz
  split at hz
  · rename_i t i u a st
    split at hz
    · simp only [zng, Prod.mk.injEq, Bool.and_eq_true, beq_iff_eq, decide_eq_true_eq] at hz
      obtain ⟨⟨rfl, h0, h1⟩, rfl⟩ := hz
      intro H lsR locs hP hI hl hs hls hc hz hS
      have hi : z32 i := (hs (0, i) List.mem_cons_self).1 rfl
      obtain ⟨-, -, -, -, -, -, -, hX, hbl, hbN, -, hX32, -⟩ := id Fx
      refine va_sld Fx.1 Fx.2.1 hX hbl (by show ¬ N0 ≤ b; omega) hS (zo_in hi h0 h1) hd ?_
      rw [zo_nat h0 hi]
      exact kk.2 rfl H lsR locs hP hI hl (fun w hw => by
        rcases List.mem_cons.mp hw with rfl | hw
        · exact zoki (hX32 _)
        · exact hs w (List.mem_cons_of_mem _ (List.mem_cons_of_mem _ hw))) hls hc hz hS
    · simp only [zng, Prod.mk.injEq, Bool.and_eq_true, beq_iff_eq] at hz
      obtain ⟨⟨⟨rfl, rfl⟩, hix⟩, rfl⟩ := hz
      obtain ⟨ha, hk, h0, h1⟩ := z_ix_spec hix
      intro H lsR locs hP hI hl hs hls hc hz hS
      have hlt : a.toNat < h.1.length := zgd_lt (by omega)
      obtain ⟨f1, f2, f3⟩ := zarr_i (N0 := N0) (aC := aC) hI hlt (by omega) (by omega) (by omega)
      rw [hk] at f1
      have hi : z32 i := zix_32 h0 h1 f3
      refine va_iald Fx.1 Fx.2.1 Fx.2.2.2.2.2.1 hP a.toNat 0 f1 rfl (zo_in hi h0 h1) hd ?_
      rw [zo_nat h0 hi]
      exact kk.2 rfl H lsR locs hP hI hl (fun w hw => by
        rcases List.mem_cons.mp hw with rfl | hw
        · exact zoki (f2 _)
        · exact hs w (List.mem_cons_of_mem _ (List.mem_cons_of_mem _ hw))) hls hc hz hS
  · simp [zno] at hz
theorem zi_lald (Fx : zFx p s m args c N0 b XL maxL aC dC dI adK X cc own) (hd : decode cc pc = .ok (.laload, 1)) (hz : z_all 13 1 ls st h = (true, o)) (kk : zcont (zWP p l e R s m args below meth c Q N0 b c0 s0 maxL aC dC dI adK) (pc + 1) o) : zWP p l e R s m args below meth c Q N0 b c0 s0 maxL aC dC dI adK pc ls st h := by
  unfold z_all at hz
  split at hz
  · rename_i t i u a st
    simp only [zng, Prod.mk.injEq, Bool.and_eq_true, beq_iff_eq] at hz
    obtain ⟨⟨⟨rfl, rfl⟩, hix⟩, rfl⟩ := hz
    obtain ⟨ha, hk, h0, h1⟩ := z_ix_spec hix
    intro H lsR locs hP hI hl hs hls hc hz hS
    have hlt : a.toNat < h.1.length := zgd_lt (by omega)
    obtain ⟨f1, f2, f3⟩ := zarr_l (N0 := N0) (aC := aC) hI hlt hk
    have hi : z32 i := zix_32 h0 h1 f3
    refine va_lald Fx.1 Fx.2.1 Fx.2.2.2.2.2.1 hP a.toNat 1 f1 rfl (zo_in hi h0 h1) hd ?_
    rw [zo_nat h0 hi]
    exact kk.2 rfl H lsR locs hP hI hl (fun w hw => by
      rcases List.mem_cons.mp hw with rfl | hw
      · exact zokl (f2 _)
      · exact hs w (List.mem_cons_of_mem _ (List.mem_cons_of_mem _ hw))) hls hc hz hS
  · simp [zno] at hz
theorem zi_bald (r : zr) (Fx : zFx p s m args c N0 b XL maxL aC dC dI adK X cc own) (hd : decode cc pc = .ok (.baload, 1)) (hz : z_bal r ls st h = (true, o)) (kk : zcont (zWP p l e R s m args below meth c Q N0 b c0 s0 maxL aC dC dI adK) (pc + 1) o) : zWP p l e R s m args below meth c Q N0 b c0 s0 maxL aC dC dI adK pc ls st h := by
  unfold z_bal at hz
  split at hz
  · change z_all 14 0 ls st h = (true, o) at hz
    unfold z_all at hz
    split at hz
    · rename_i t i u a st
      simp only [zng, Prod.mk.injEq, Bool.and_eq_true, beq_iff_eq] at hz
      obtain ⟨⟨⟨rfl, rfl⟩, hix⟩, rfl⟩ := hz
      obtain ⟨ha, hk, h0, h1⟩ := z_ix_spec hix
      intro H lsR locs hP hI hl hs hls hc hz hS
      have hlt : a.toNat < h.1.length := zgd_lt (by omega)
      obtain ⟨f1, f2, f3⟩ := zarr_i (N0 := N0) (aC := aC) hI hlt (by omega) (by omega) (by omega)
      rw [hk] at f1
      have hi : z32 i := zix_32 h0 h1 f3
      refine va_bald Fx.1 Fx.2.1 Fx.2.2.2.2.2.1 hP a.toNat 2 f1 rfl (zo_in hi h0 h1) hd ?_
      rw [zo_nat h0 hi]
      exact kk.2 rfl H lsR locs hP hI hl (fun w hw => by
        rcases List.mem_cons.mp hw with rfl | hw
        · exact zoki (f2 _)
        · exact hs w (List.mem_cons_of_mem _ (List.mem_cons_of_mem _ hw))) hls hc hz hS
    · simp [zno] at hz
  · change z_all 15 0 ls st h = (true, o) at hz
    unfold z_all at hz
    split at hz
    · rename_i t i u a st
      simp only [zng, Prod.mk.injEq, Bool.and_eq_true, beq_iff_eq] at hz
      obtain ⟨⟨⟨rfl, rfl⟩, hix⟩, rfl⟩ := hz
      obtain ⟨ha, hk, h0, h1⟩ := z_ix_spec hix
      intro H lsR locs hP hI hl hs hls hc hz hS
      have hlt : a.toNat < h.1.length := zgd_lt (by omega)
      obtain ⟨f1, f2, f3⟩ := zarr_i (N0 := N0) (aC := aC) hI hlt (by omega) (by omega) (by omega)
      rw [hk] at f1
      have hi : z32 i := zix_32 h0 h1 f3
      refine va_zald Fx.1 Fx.2.1 Fx.2.2.2.2.2.1 hP a.toNat 3 f1 rfl (zo_in hi h0 h1) hd ?_
      rw [zo_nat h0 hi]
      exact kk.2 rfl H lsR locs hP hI hl (fun w hw => by
        rcases List.mem_cons.mp hw with rfl | hw
        · exact zoki (f2 _)
        · exact hs w (List.mem_cons_of_mem _ (List.mem_cons_of_mem _ hw))) hls hc hz hS
    · simp [zno] at hz
  · simp [zno] at hz
theorem zi_aald (Fx : zFx p s m args c N0 b XL maxL aC dC dI adK X cc own) (hd : decode cc pc = .ok (.aaload, 1)) (hz : z_aal ls st h = (true, o)) (kk : zcont (zWP p l e R s m args below meth c Q N0 b c0 s0 maxL aC dC dI adK) (pc + 1) o) : zWP p l e R s m args below meth c Q N0 b c0 s0 maxL aC dC dI adK pc ls st h := by
  unfold z_aal at hz
  split at hz
  · rename_i t i u a st
    simp only [zng, Prod.mk.injEq, Bool.and_eq_true, Bool.or_eq_true, beq_iff_eq] at hz
    obtain ⟨⟨⟨rfl, rfl⟩, hix, hsm⟩, rfl⟩ := hz
    obtain ⟨q, hq⟩ := Option.isSome_iff_exists.mp hsm
    rw [hq] at kk
    intro H lsR locs hP hI hl hs hls hc hz hS
    have main : ∀ (t0 : Nat) (C : String), 0 ≤ a → 16 ≤ (zgd h a.toNat).1 → (zgd h a.toNat).1 < 19 → 0 ≤ i → i < ((zgd h a.toNat).2.1 : Int) → (ztys aC)[t0]? = some (aC (zgd h a.toNat).1, .object C) → W p l e R s m args below meth c H locs (h.1.length - c0) (zsz h - s0) Q (F0 m pc lsR (((0, i) :: (2, a) :: st).map (zrv N0 adK b))) := by
      intro t0 C ha h16 h19 h0 h1 ht
      have hlt : a.toNat < h.1.length := zgd_lt (by omega)
      obtain ⟨f1, f2, f3, f4⟩ := zarr_r (N0 := N0) (aC := aC) hI hlt h16 h19
      have hi : z32 i := zix_32 h0 h1 f4
      refine va_aldq Fx.1 Fx.2.1 Fx.2.2.2.2.2.1 hP a.toNat t0 f1 ht (zo_in hi h0 h1) hd ?_
      rw [zo_nat h0 hi]
      rw [zgd_at] at hq
      simp only [hq, Option.map_some]
      exact kk.2 rfl H lsR locs hP hI hl (fun w hw => by
        rcases List.mem_cons.mp hw with rfl | hw
        · exact zokr (by simp) (by simpa using f3 _ _ hq)
        · exact hs w (List.mem_cons_of_mem _ (List.mem_cons_of_mem _ hw))) hls hc hz hS
    rcases hix with hix | hix | hix
    · obtain ⟨ha, hk, h0, h1⟩ := z_ix_spec hix
      exact main 4 _ ha (by omega) (by omega) h0 h1 (by rw [hk]; rfl)
    · obtain ⟨ha, hk, h0, h1⟩ := z_ix_spec hix
      exact main 5 _ ha (by omega) (by omega) h0 h1 (by rw [hk]; rfl)
    · obtain ⟨ha, hk, h0, h1⟩ := z_ix_spec hix
      exact main 6 _ ha (by omega) (by omega) h0 h1 (by rw [hk]; rfl)
  · simp [zno] at hz
/-- behind a store into an array of numbers -/
theorem zst_go {lsR : Array Slot} {a i : Int} {v : Int} (hI : zinv h) (hlt : a.toNat < h.1.length) (hg : zgc h.1.length (zgd h a.toNat) (fun j => if j = i.toNat then v else h.2 a.toNat j)) (hl : lv_has lsR maxL (zlv (zrv N0 adK b) 0 ls)) (hs : ∀ w ∈ st, zvok h w) (hls : ∀ w ∈ ls, zvok h w) (hc : c0 ≤ h.1.length) (hz : s0 ≤ zsz h) (k : zWP p l e R s m args below meth c Q N0 b c0 s0 maxL aC dC dI adK pc ls st (h.1, zup h.2 a.toNat i.toNat v))
    {H1 : Heap} {locs1 : List Loc} {e1 : va_E} (he : e1 = zce N0 aC (zgd h a.toNat) (fun j => if j = i.toNat then v else h.2 a.toNat j)) (hP1 : va_P (dC, dI) zcls ((zwd N0 aC h).set a.toNat (N0 + a.toNat, e1)) H1) (hS1 : va_S (fun q => N0 ≤ q) s.heap H1 locs1) : W p l e R s m args below meth c H1 locs1 (h.1.length - c0) (zsz h - s0) Q (F0 m pc lsR (st.map (zrv N0 adK b))) := by
  have ho : ∀ j, j ≠ a.toNat → zgd (h.1, zup h.2 a.toNat i.toNat v) j = zgd h j ∧ (h.1, zup h.2 a.toNat i.toNat v).2 j = h.2 j := by
    intro j hj
    refine ⟨rfl, ?_⟩
    show zup h.2 a.toNat i.toNat v j = h.2 j
    rw [zup_row, if_neg hj]
  have hr : (h.1, zup h.2 a.toNat i.toNat v).2 a.toNat = fun j => if j = i.toNat then v else h.2 a.toNat j := by
    show zup h.2 a.toNat i.toNat v a.toNat = _
    rw [zup_row, if_pos rfl]
  rw [zwd_set (h' := (h.1, zup h.2 a.toNat i.toNat v)) hlt rfl (by rw [hr]; exact he) ho] at hP1
  exact k H1 lsR locs1 hP1 (zinv_set hI rfl (by rw [hr]; exact hg) ho) hl hs hls hc hz hS1
theorem zi_iast (Fx : zFx p s m args c N0 b XL maxL aC dC dI adK X cc own) (hd : decode cc pc = .ok (.iastore, 1)) (hz : z_as 12 0 (fun v => v) ls st h = (true, o)) (kk : zcont (zWP p l e R s m args below meth c Q N0 b c0 s0 maxL aC dC dI adK) (pc + 1) o) : zWP p l e R s m args below meth c Q N0 b c0 s0 maxL aC dC dI adK pc ls st h := by
  unfold z_as at hz
  split at hz
  · rename_i w v t i u a st
    simp only [zng, Prod.mk.injEq, Bool.and_eq_true, beq_iff_eq] at hz
    obtain ⟨⟨⟨⟨rfl, rfl⟩, rfl⟩, hix⟩, rfl⟩ := hz
    obtain ⟨ha, hk, h0, h1⟩ := z_ix_spec hix
    intro H lsR locs hP hI hl hs hls hc hz hS
    have hlt : a.toNat < h.1.length := zgd_lt (by omega)
    obtain ⟨f1, f2, f3⟩ := zarr_i (N0 := N0) (aC := aC) hI hlt (by omega) (by omega) (by omega)
    rw [hk] at f1
    have hi : z32 i := zix_32 h0 h1 f3
    have hv : z32 v := (hs (0, v) List.mem_cons_self).1 rfl
    refine va_iast Fx.1 Fx.2.1 Fx.2.2.2.2.2.1 hP zwd_D hS a.toNat 0 f1 rfl (zo_in hi h0 h1) hd fun H1 locs1 hP1 hD1 hS1 => ?_
    rw [zo_nat h0 hi] at hP1
    refine zst_go hI hlt (Or.inr ⟨by omega, by omega, f3, fun q => by omega, fun _ _ j => ?_, fun q => by omega⟩) hl (fun w hw => hs w (List.mem_cons_of_mem _ (List.mem_cons_of_mem _ (List.mem_cons_of_mem _ hw)))) hls hc hz (kk.2 rfl) ?_ hP1 hS1
    · show z32 (if j = i.toNat then v else h.2 a.toNat j)
      split
      · exact hv
      · exact f2 j
    · rw [zce_i (by omega) (by omega) (by omega), hk]
      congr 4
      funext j
      unfold upd
      split <;> rfl
  · simp [zno] at hz
theorem zi_last (Fx : zFx p s m args c N0 b XL maxL aC dC dI adK X cc own) (hd : decode cc pc = .ok (.lastore, 1)) (hz : z_as 13 1 (fun v => v) ls st h = (true, o)) (kk : zcont (zWP p l e R s m args below meth c Q N0 b c0 s0 maxL aC dC dI adK) (pc + 1) o) : zWP p l e R s m args below meth c Q N0 b c0 s0 maxL aC dC dI adK pc ls st h := by
  unfold z_as at hz
  split at hz
  · rename_i w v t i u a st
    simp only [zng, Prod.mk.injEq, Bool.and_eq_true, beq_iff_eq] at hz
    obtain ⟨⟨⟨⟨rfl, rfl⟩, rfl⟩, hix⟩, rfl⟩ := hz
    obtain ⟨ha, hk, h0, h1⟩ := z_ix_spec hix
    intro H lsR locs hP hI hl hs hls hc hz hS
    have hlt : a.toNat < h.1.length := zgd_lt (by omega)
    obtain ⟨f1, f2, f3⟩ := zarr_l (N0 := N0) (aC := aC) hI hlt hk
    have hi : z32 i := zix_32 h0 h1 f3
    have hv : z64 v := (hs (1, v) List.mem_cons_self).2.1 rfl
    refine va_last Fx.1 Fx.2.1 Fx.2.2.2.2.2.1 hP zwd_D hS a.toNat 1 f1 rfl (zo_in hi h0 h1) hd fun H1 locs1 hP1 hD1 hS1 => ?_
    rw [zo_nat h0 hi] at hP1
    refine zst_go hI hlt (Or.inr ⟨by omega, by omega, f3, fun _ j => ?_, fun q => by omega, fun q => by omega⟩) hl (fun w hw => hs w (List.mem_cons_of_mem _ (List.mem_cons_of_mem _ (List.mem_cons_of_mem _ hw)))) hls hc hz (kk.2 rfl) ?_ hP1 hS1
    · show z64 (if j = i.toNat then v else h.2 a.toNat j)
      split
      · exact hv
      · exact f2 j
    · rw [zce_l hk, hk]
      congr 5
      funext j
      unfold vp_updL
      split <;> rfl
  · simp [zno] at hz
theorem zi_bast (r : zr) (Fx : zFx p s m args c N0 b XL maxL aC dC dI adK X cc own) (hd : decode cc pc = .ok (.bastore, 1)) (hz : z_bas r ls st h = (true, o)) (kk : zcont (zWP p l e R s m args below meth c Q N0 b c0 s0 maxL aC dC dI adK) (pc + 1) o) : zWP p l e R s m args below meth c Q N0 b c0 s0 maxL aC dC dI adK pc ls st h := by
  unfold z_bas at hz
  split at hz
  · change z_as 14 0 z_i2b ls st h = (true, o) at hz
    unfold z_as at hz
    split at hz
    · rename_i w v t i u a st
      simp only [zng, Prod.mk.injEq, Bool.and_eq_true, beq_iff_eq] at hz
      obtain ⟨⟨⟨⟨rfl, rfl⟩, rfl⟩, hix⟩, rfl⟩ := hz
      obtain ⟨ha, hk, h0, h1⟩ := z_ix_spec hix
      intro H lsR locs hP hI hl hs hls hc hz hS
      have hlt : a.toNat < h.1.length := zgd_lt (by omega)
      obtain ⟨f1, f2, f3⟩ := zarr_i (N0 := N0) (aC := aC) hI hlt (by omega) (by omega) (by omega)
      rw [hk] at f1
      have hi : z32 i := zix_32 h0 h1 f3
      refine va_bast Fx.1 Fx.2.1 Fx.2.2.2.2.2.1 hP zwd_D hS a.toNat 2 f1 rfl (zo_in hi h0 h1) hd fun H1 locs1 hP1 hD1 hS1 => ?_
      rw [zo_nat h0 hi] at hP1
      refine zst_go (v := z_i2b v) hI hlt (Or.inr ⟨by omega, by omega, f3, fun q => by omega, fun _ _ j => ?_, fun q => by omega⟩) hl (fun w hw => hs w (List.mem_cons_of_mem _ (List.mem_cons_of_mem _ (List.mem_cons_of_mem _ hw)))) hls hc hz (kk.2 rfl) ?_ hP1 hS1
      · show z32 (if j = i.toNat then z_i2b v else h.2 a.toNat j)
        split
        · exact z32_t _
        · exact f2 j
      · rw [zce_i (by omega) (by omega) (by omega), hk]
        congr 4
        funext j
        unfold upd
        split
        · rw [vp_nar_byte]; unfold z_i2b; rw [Int32.ofInt_toInt]
        · rfl
    · simp [zno] at hz
  · change z_as 15 0 (fun v => z_and v 1) ls st h = (true, o) at hz
    unfold z_as at hz
    split at hz
    · rename_i w v t i u a st
      simp only [zng, Prod.mk.injEq, Bool.and_eq_true, beq_iff_eq] at hz
      obtain ⟨⟨⟨⟨rfl, rfl⟩, rfl⟩, hix⟩, rfl⟩ := hz
      obtain ⟨ha, hk, h0, h1⟩ := z_ix_spec hix
      intro H lsR locs hP hI hl hs hls hc hz hS
      have hlt : a.toNat < h.1.length := zgd_lt (by omega)
      obtain ⟨f1, f2, f3⟩ := zarr_i (N0 := N0) (aC := aC) hI hlt (by omega) (by omega) (by omega)
      rw [hk] at f1
      have hi : z32 i := zix_32 h0 h1 f3
      refine va_zast Fx.1 Fx.2.1 Fx.2.2.2.2.2.1 hP zwd_D hS a.toNat 3 f1 rfl (zo_in hi h0 h1) hd fun H1 locs1 hP1 hD1 hS1 => ?_
      rw [zo_nat h0 hi] at hP1
      refine zst_go (v := z_and v 1) hI hlt (Or.inr ⟨by omega, by omega, f3, fun q => by omega, fun _ _ j => ?_, fun q => by omega⟩) hl (fun w hw => hs w (List.mem_cons_of_mem _ (List.mem_cons_of_mem _ (List.mem_cons_of_mem _ hw)))) hls hc hz (kk.2 rfl) ?_ hP1 hS1
      · show z32 (if j = i.toNat then z_and v 1 else h.2 a.toNat j)
        split
        · exact z32_t _
        · exact f2 j
      · rw [zce_i (by omega) (by omega) (by omega), hk]
        congr 4
        funext j
        unfold upd
        split
        · unfold z_and; rw [Int32.ofInt_toInt]; rfl
        · rfl
    · simp [zno] at hz
  · simp [zno] at hz
theorem zi_len (Fx : zFx p s m args c N0 b XL maxL aC dC dI adK X cc own) (hd : decode cc pc = .ok (.arraylength, 1)) (hz : z_len XL ls st h = (true, o)) (kk : zcont (zWP p l e R s m args below meth c Q N0 b c0 s0 maxL aC dC dI adK) (pc + 1) o) : zWP p l e R s m args below meth c Q N0 b c0 s0 maxL aC dC dI adK pc ls st h := by
  unfold z_len at hz
  split at hz
  · rename_i u a st
    split at hz
    · simp only [znx, Prod.mk.injEq, true_and] at hz
      subst hz
      intro H lsR locs hP hI hl hs hls hc hz hS
      obtain ⟨-, -, -, -, -, -, -, hX, hbl, hbN, -, hX32, hXL⟩ := id Fx
      refine va_slen Fx.1 Fx.2.1 hX hbl (by show ¬ N0 ≤ b; omega) hS hd ?_
      rw [← Int32.ofInt_eq_ofNat]
      exact kk.2 rfl H lsR locs hP hI hl (fun w hw => by
        rcases List.mem_cons.mp hw with rfl | hw
        · exact zoki (by unfold z32; omega)
        · exact hs w (List.mem_cons_of_mem _ hw)) hls hc hz hS
    · simp only [zng, Prod.mk.injEq, Bool.and_eq_true, beq_iff_eq, decide_eq_true_eq] at hz
      obtain ⟨⟨rfl, ha, h12, h19⟩, rfl⟩ := hz
      rw [zgd_at] at h12 h19
      intro H lsR locs hP hI hl hs hls hc hz hS
      have hlt : a.toNat < h.1.length := zgd_lt (by omega)
      have hn : (zgd h a.toNat).2.1 ≤ 5000 := by
        rcases hI _ hlt with ⟨q, -⟩ | ⟨-, -, q, -⟩
        · omega
        · exact q
      have fin : ∀ (t0 : Nat) (ty : FieldType), (ztys aC)[t0]? = some (aC (zgd h a.toNat).1, ty) → W p l e R s m args below meth c H locs (h.1.length - c0) (zsz h - s0) Q (F0 m pc lsR (((2, a) :: st).map (zrv N0 adK b))) := by
        intro t0 ty ht
        have hw := zwd_get (N0 := N0) (aC := aC) hlt
        unfold zce at hw
        rw [if_neg (by omega)] at hw
        refine va_alen Fx.1 Fx.2.1 Fx.2.2.2.2.2.1 hP a.toNat t0 hw ht (v := Int32.ofInt ((zgd h a.toNat).2.1 : Int)) Int32.ofInt_eq_ofNat.symm hd ?_
        exact kk.2 rfl H lsR locs hP hI hl (fun w hw => by
          rcases List.mem_cons.mp hw with rfl | hw
          · exact zoki (by rw [zgd_at]; unfold z32; omega)
          · exact hs w (List.mem_cons_of_mem _ hw)) hls hc hz hS
      have h7 : (zgd h a.toNat).1 = 12 ∨ (zgd h a.toNat).1 = 13 ∨ (zgd h a.toNat).1 = 14 ∨ (zgd h a.toNat).1 = 15 ∨ (zgd h a.toNat).1 = 16 ∨ (zgd h a.toNat).1 = 17 ∨ (zgd h a.toNat).1 = 18 := by omega
      rcases h7 with q | q | q | q | q | q | q
      · exact fin 0 _ (by rw [q]; rfl)
      · exact fin 1 _ (by rw [q]; rfl)
      · exact fin 2 _ (by rw [q]; rfl)
      · exact fin 3 _ (by rw [q]; rfl)
      · exact fin 4 _ (by rw [q]; rfl)
      · exact fin 5 _ (by rw [q]; rfl)
      · exact fin 6 _ (by rw [q]; rfl)
  · simp [zno] at hz
end Arrays
