abbrev zR : Type := Option (Int × zh)
def zps (rk : Nat) (v : Int) (st : List zv) : List zv := match rk with
  | 1 => (0, v) :: st
  | 2 => (1, v) :: st
  | _ => st
def zswk {α : Type} (x : Int) (k : Nat → α) : List (Int × Nat) → Nat → α
  | [], d => k d
  | (v, t) :: l, d => bif decide (x = v) then k t else zswk x k l d
def zdr (call : Nat → List zv → zh → zR) (o : Bool × zo) (kn : List zv → List zv → zh → zR) (kj : Nat → List zv → List zv → zh → zR) : zR :=
  bif o.1 then (match o.2 with
    | .inl r => some r
    | .inr (.inl (b, t, ls, st, h)) => bif b then kj t ls st h else kn ls st h
    | .inr (.inr (.inl (rk, mi, as, ls, st, h))) => (match call mi as h with
      | none => none
      | some (v, h2) => kn ls (zps rk v st) h2)
    | .inr (.inr (.inr (x, l, d, ls, st, h))) => zswk x (fun t => kj t ls st h) l d) else none
def zfind : zc → Nat → zc
  | [], _ => []
  | e :: cs, t => bif e.1 == t then e :: cs else zfind cs t
def zkill : List Nat → List zv → List zv
  | [], ls => ls
  | k :: kl, ls => zkill kl (ls.set k (9, 0))
def zent : List zv → List zv
  | [] => []
  | (1, x) :: r => (1, x) :: (9, 0) :: zent r
  | v :: r => v :: zent r
def zentry (n : Nat) (as : List zv) : List zv := zent as ++ List.replicate (n - (zent as).length) (9, 0)
def zgo (own : Nat) (ini : Bool) (X : Nat → Int) (XL : Nat) (call : Nat → List zv → zh → zR) (K : zc) : Nat → zc → List zv → List zv → zh → zR
  | 0, _, _, _, _ => none
  | _ + 1, [], _, _, _ => none
  | n + 1, e :: cs, ls, st, h => zdr call (zs1 own ini X XL e.2.2.1 e.1 e.2.2.2.2 (zkill e.2.1 ls) st h) (fun ls st h => zgo own ini X XL call K n cs ls st h) (fun t ls st h => zgo own ini X XL call K n (zfind K t) ls st h)
def zcall (P : Nat → zM) (X : Nat → Int) (XL : Nat) (F : Nat) : Nat → Nat → List zv → zh → zR
  | 0, _, _, _ => none
  | d + 1, mi, as, h => bif decide ((zent as).length ≤ (P mi).2.2.1) then zgo (P mi).1 (P mi).2.1 X XL (fun mi as h => zcall P X XL F d mi as h) (P mi).2.2.2 F (P mi).2.2.2 (zentry (P mi).2.2.1 as) [] h else none
def zle (f g : Nat → List zv → zh → zR) : Prop := ∀ mi as h r, f mi as h = some r → g mi as h = some r
theorem zswk_some {x : Int} {k k' : Nat → zR} (hk : ∀ t r, k t = some r → k' t = some r) : ∀ (l : List (Int × Nat)) (d : Nat) (r : Int × zh), zswk x k l d = some r → zswk x k' l d = some r
  | [], d, r, h => hk d r h
  | (v, t) :: l, d, r, h => by
    unfold zswk at h ⊢
    cases hb : decide (x = v) with
    | true => rw [hb] at h; exact hk t r h
    | false => rw [hb] at h; exact zswk_some hk l d r h
theorem zdr_mono {c c' : Nat → List zv → zh → zR} {o : Bool × zo} {kn kn' : List zv → List zv → zh → zR} {kj kj' : Nat → List zv → List zv → zh → zR} (hc : zle c c') (hn : ∀ ls st h r, kn ls st h = some r → kn' ls st h = some r) (hj : ∀ t ls st h r, kj t ls st h = some r → kj' t ls st h = some r) {r : Int × zh} (h : zdr c o kn kj = some r) : zdr c' o kn' kj' = some r := by
  obtain ⟨g, o⟩ := o
  unfold zdr at h ⊢
  cases g with
  | false => cases h
  | true =>
    rcases o with r0 | ⟨b, t, ls, st, h0⟩ | ⟨rk, mi, as, ls, st, h0⟩ | ⟨x, l, d, ls, st, h0⟩
    · exact h
    · cases b with
      | true => exact hj _ _ _ _ _ h
      | false => exact hn _ _ _ _ h
    · simp only [cond_true] at h ⊢
      cases hq : c mi as h0 with
      | none => rw [hq] at h; cases h
      | some q =>
        rw [hq] at h
        rw [hc _ _ _ _ hq]
        exact hn _ _ _ _ h
    · exact zswk_some (fun t r h => hj _ _ _ _ _ h) l d r h
theorem zgo_mono {own : Nat} {ini : Bool} {X : Nat → Int} {XL : Nat} {c c' : Nat → List zv → zh → zR} {K : zc} (hc : zle c c') : ∀ (n m : Nat) (cs : zc) (ls st : List zv) (h : zh) (r : Int × zh), n ≤ m → zgo own ini X XL c K n cs ls st h = some r → zgo own ini X XL c' K m cs ls st h = some r
  | 0, _, _, _, _, _, _, _, h => by simp [zgo] at h
  | n + 1, m, [], ls, st, h, r, _, hh => by simp [zgo] at hh
  | n + 1, 0, e :: cs, ls, st, h, r, hm, hh => absurd hm (by omega)
  | n + 1, m + 1, e :: cs, ls, st, h, r, hm, hh => by
    unfold zgo at hh ⊢
    exact zdr_mono hc (fun ls st h r q => zgo_mono hc n m cs ls st h r (by omega) q) (fun t ls st h r q => zgo_mono hc n m _ ls st h r (by omega) q) hh
theorem zcall_mono {P : Nat → zM} {X : Nat → Int} {XL : Nat} {F G : Nat} (hF : F ≤ G) : ∀ (d : Nat) (mi : Nat) (as : List zv) (h : zh) (r : Int × zh), zcall P X XL F d mi as h = some r → zcall P X XL G d mi as h = some r
  | 0, _, _, _, _, h => by simp [zcall] at h
  | d + 1, mi, as, h, r, hh => by
    unfold zcall at hh ⊢
    cases hb : decide ((zent as).length ≤ (P mi).2.2.1) with
    | false => rw [hb] at hh; cases hh
    | true =>
      rw [hb] at hh
      exact zgo_mono (fun mi as h r q => zcall_mono hF d mi as h r q) F G _ _ _ _ _ hF hh
/-- what a family that grows comes to -/
noncomputable def zlim (f : Nat → zR) : zR := @dite _ (∃ r n, f n = some r) (Classical.propDecidable _) (fun h => some (Classical.choose h)) (fun _ => none)
theorem zlim_some {f : Nat → zR} (hm : ∀ n m r, n ≤ m → f n = some r → f m = some r) {r : Int × zh} : zlim f = some r ↔ ∃ n, f n = some r := by
  unfold zlim
  constructor
  · intro h
    by_cases hx : ∃ r n, f n = some r
    · rw [dif_pos hx] at h
      have h1 := Option.some.inj h
      obtain ⟨n, hn⟩ := Classical.choose_spec hx
      rw [h1] at hn
      exact ⟨n, hn⟩
    · rw [dif_neg hx] at h; cases h
  · rintro ⟨n, hn⟩
    have hx : ∃ r n, f n = some r := ⟨r, n, hn⟩
    rw [dif_pos hx]
    obtain ⟨k, hk⟩ := Classical.choose_spec hx
    have h1 := hm n (max n k) r (Nat.le_max_left _ _) hn
    have h2 := hm k (max n k) _ (Nat.le_max_right _ _) hk
    rw [h1] at h2
    exact h2.symm
noncomputable def zC (P : Nat → zM) (X : Nat → Int) (XL : Nat) (d mi : Nat) (as : List zv) (h : zh) : zR := zlim (fun F => zcall P X XL F d mi as h)
noncomputable def zEs (P : Nat → zM) (X : Nat → Int) (XL : Nat) (d : Nat) (M : zM) (cs : zc) (ls st : List zv) (h : zh) : zR := zlim (fun F => zgo M.1 M.2.1 X XL (fun mi as h => zcall P X XL F d mi as h) M.2.2.2 F cs ls st h)
noncomputable def zE (P : Nat → zM) (X : Nat → Int) (XL : Nat) (d : Nat) (M : zM) (pc : Nat) (ls st : List zv) (h : zh) : zR := zEs P X XL d M (zfind M.2.2.2 pc) ls st h
theorem zC_some {P : Nat → zM} {X : Nat → Int} {XL d mi : Nat} {as : List zv} {h : zh} {r : Int × zh} : zC P X XL d mi as h = some r ↔ ∃ F, zcall P X XL F d mi as h = some r := zlim_some (fun _ _ _ hnm hh => zcall_mono hnm _ _ _ _ _ hh)
theorem zEs_some {P : Nat → zM} {X : Nat → Int} {XL d : Nat} {M : zM} {cs : zc} {ls st : List zv} {h : zh} {r : Int × zh} : zEs P X XL d M cs ls st h = some r ↔ ∃ F, zgo M.1 M.2.1 X XL (fun mi as h => zcall P X XL F d mi as h) M.2.2.2 F cs ls st h = some r := zlim_some (fun _ _ _ hnm hh => zgo_mono (fun mi as h r q => zcall_mono hnm d mi as h r q) _ _ _ _ _ _ _ hnm hh)
theorem zC_succ (P : Nat → zM) (X : Nat → Int) (XL d mi : Nat) (as : List zv) (h : zh) (hl : decide ((zent as).length ≤ (P mi).2.2.1) = true) : zC P X XL (d + 1) mi as h = zEs P X XL d (P mi) (P mi).2.2.2 (zentry (P mi).2.2.1 as) [] h := by
  apply Option.ext
  intro r
  rw [zC_some, zEs_some]
  have key : ∀ F, zcall P X XL F (d + 1) mi as h = zgo (P mi).1 (P mi).2.1 X XL (fun mi as h => zcall P X XL F d mi as h) (P mi).2.2.2 F (P mi).2.2.2 (zentry (P mi).2.2.1 as) [] h := by
    intro F
    show (bif decide ((zent as).length ≤ (P mi).2.2.1) then _ else none) = _
    rw [hl]
    rfl
  simp only [key]
theorem zEs_nil (P : Nat → zM) (X : Nat → Int) (XL d : Nat) (M : zM) (ls st : List zv) (h : zh) : zEs P X XL d M [] ls st h = none := by
  cases hh : zEs P X XL d M [] ls st h with
  | none => rfl
  | some r =>
    obtain ⟨F, hF⟩ := zEs_some.mp hh
    cases F <;> simp [zgo] at hF
theorem zswk_ex {x : Int} {kF : Nat → Nat → zR} {k : Nat → zR} (hk : ∀ t r, k t = some r → ∃ F, kF F t = some r) : ∀ (l : List (Int × Nat)) (d : Nat) (r : Int × zh), zswk x k l d = some r → ∃ F, zswk x (kF F) l d = some r
  | [], d, r, h => hk d r h
  | (v, t) :: l, d, r, h => by
    unfold zswk at h
    cases hb : decide (x = v) with
    | true =>
      rw [hb] at h
      obtain ⟨F, hF⟩ := hk t r h
      exact ⟨F, by unfold zswk; rw [hb]; exact hF⟩
    | false =>
      rw [hb] at h
      obtain ⟨F, hF⟩ := zswk_ex hk l d r h
      exact ⟨F, by unfold zswk; rw [hb]; exact hF⟩
/-- one instruction of a method -/
theorem zEs_cons (P : Nat → zM) (X : Nat → Int) (XL d : Nat) (M : zM) (e : ze) (cs : zc) (ls st : List zv) (h : zh) : zEs P X XL d M (e :: cs) ls st h = zdr (fun mi as h => zC P X XL d mi as h) (zs1 M.1 M.2.1 X XL e.2.2.1 e.1 e.2.2.2.2 (zkill e.2.1 ls) st h) (fun ls st h => zEs P X XL d M cs ls st h) (fun t ls st h => zEs P X XL d M (zfind M.2.2.2 t) ls st h) := by
  apply Option.ext
  intro r
  constructor
  · intro hh
    obtain ⟨F, hF⟩ := zEs_some.mp hh
    cases F with
    | zero => simp [zgo] at hF
    | succ F =>
      unfold zgo at hF
      refine zdr_mono (fun mi as h r q => zC_some.mpr ⟨_, q⟩) (fun ls st h r q => zEs_some.mpr ⟨F + 1, ?_⟩) (fun t ls st h r q => zEs_some.mpr ⟨F + 1, ?_⟩) hF
      · exact zgo_mono (fun _ _ _ _ q => q) _ _ _ _ _ _ _ (Nat.le_succ F) q
      · exact zgo_mono (fun _ _ _ _ q => q) _ _ _ _ _ _ _ (Nat.le_succ F) q
  · intro hh
    generalize ho : zs1 M.1 M.2.1 X XL e.2.2.1 e.1 e.2.2.2.2 (zkill e.2.1 ls) st h = o at hh
    suffices hs : ∃ F, zdr (fun mi as h => zcall P X XL F d mi as h) o (fun ls st h => zgo M.1 M.2.1 X XL (fun mi as h => zcall P X XL F d mi as h) M.2.2.2 F cs ls st h) (fun t ls st h => zgo M.1 M.2.1 X XL (fun mi as h => zcall P X XL F d mi as h) M.2.2.2 F (zfind M.2.2.2 t) ls st h) = some r by
      obtain ⟨F, hF⟩ := hs
      refine zEs_some.mpr ⟨F + 1, ?_⟩
      unfold zgo
      rw [ho]
      refine zdr_mono (fun mi as h r q => zcall_mono (Nat.le_succ F) d mi as h r q) (fun ls st h r q => ?_) (fun t ls st h r q => ?_) hF
      · exact zgo_mono (fun mi as h r q => zcall_mono (Nat.le_succ F) d mi as h r q) _ _ _ _ _ _ _ (Nat.le_refl F) q
      · exact zgo_mono (fun mi as h r q => zcall_mono (Nat.le_succ F) d mi as h r q) _ _ _ _ _ _ _ (Nat.le_refl F) q
    obtain ⟨g, o⟩ := o
    unfold zdr at hh
    cases g with
    | false => cases hh
    | true =>
      rcases o with r0 | ⟨b, t, ls1, st1, h1⟩ | ⟨rk, mi, as, ls1, st1, h1⟩ | ⟨x, l, dd, ls1, st1, h1⟩
      · exact ⟨0, by unfold zdr; exact hh⟩
      · cases b with
        | true =>
          obtain ⟨F, hF⟩ := zEs_some.mp hh
          exact ⟨F, by unfold zdr; exact hF⟩
        | false =>
          obtain ⟨F, hF⟩ := zEs_some.mp hh
          exact ⟨F, by unfold zdr; exact hF⟩
      · simp only [cond_true] at hh
        cases hq : zC P X XL d mi as h1 with
        | none => rw [hq] at hh; cases hh
        | some q =>
          rw [hq] at hh
          obtain ⟨F1, hF1⟩ := zC_some.mp hq
          obtain ⟨F2, hF2⟩ := zEs_some.mp hh
          refine ⟨max F1 F2, ?_⟩
          unfold zdr
          simp only [cond_true]
          rw [zcall_mono (Nat.le_max_left F1 F2) _ _ _ _ _ hF1]
          exact zgo_mono (fun mi as h r q => zcall_mono (Nat.le_max_right F1 F2) d mi as h r q) _ _ _ _ _ _ _ (Nat.le_max_right F1 F2) hF2
      · obtain ⟨F, hF⟩ := zswk_ex (kF := fun F t => zgo M.1 M.2.1 X XL (fun mi as h => zcall P X XL F d mi as h) M.2.2.2 F (zfind M.2.2.2 t) ls1 st1 h1) (fun t r q => zEs_some.mp q) l dd r hh
        exact ⟨F, by unfold zdr; exact hF⟩
theorem zkill_set (k : Nat) : ∀ (kl : List Nat) (ls : List zv), zkill kl (ls.set k (9, 0)) = (zkill kl ls).set k (9, 0)
  | [], _ => rfl
  | j :: kl, ls => by
    unfold zkill
    rw [← zkill_set k kl (ls.set j (9, 0))]
    by_cases h : k = j
    · rw [h]
    · rw [List.set_comm _ _ (by omega)]
theorem zkill_kill : ∀ (kl : List Nat) (ls : List zv), zkill kl (zkill kl ls) = zkill kl ls
  | [], _ => rfl
  | k :: kl, ls => by
    show zkill kl ((zkill kl (ls.set k (9, 0))).set k (9, 0)) = zkill kl (ls.set k (9, 0))
    rw [zkill_set k kl (zkill kl (ls.set k (9, 0))), zkill_kill kl, zkill_set, List.set_set]
theorem zEs_kill (P : Nat → zM) (X : Nat → Int) (XL d : Nat) (M : zM) (e : ze) (cs : zc) (ls st : List zv) (h : zh) : zEs P X XL d M (e :: cs) (zkill e.2.1 ls) st h = zEs P X XL d M (e :: cs) ls st h := by
  rw [zEs_cons, zEs_cons, zkill_kill]
/-- the rows of a method stand in order -/
def zinc : zc → Bool
  | e :: e2 :: cs => decide (e.1 < e2.1) && zinc (e2 :: cs)
  | _ => true
theorem zinc_lt : ∀ (cs : zc) (e x : ze), zinc (e :: cs) = true → x ∈ cs → e.1 < x.1
  | [], _, _, _, hx => absurd hx List.not_mem_nil
  | e2 :: cs, e, x, h, hx => by
    simp only [zinc, Bool.and_eq_true, decide_eq_true_eq] at h
    rcases List.mem_cons.mp hx with rfl | hx
    · exact h.1
    · exact Nat.lt_trans h.1 (zinc_lt cs e2 x h.2 hx)
theorem zinc_tail {e : ze} {cs : zc} (h : zinc (e :: cs) = true) : zinc cs = true := by
  cases cs with
  | nil => rfl
  | cons e2 cs => simp only [zinc, Bool.and_eq_true] at h; exact h.2
theorem zfind_suf : ∀ (K : zc) (e : ze) (cs : zc), zinc K = true → (e :: cs) <:+ K → zfind K e.1 = e :: cs
  | [], e, cs, _, h => by simp at h
  | k :: K, e, cs, hi, h => by
    rcases List.suffix_cons_iff.mp h with h | h
    · cases h
      simp [zfind]
    · have hm : e ∈ K := h.subset List.mem_cons_self
      have hlt := zinc_lt K k e hi hm
      have hne : (k.1 == e.1) = false := by simp; omega
      unfold zfind
      rw [hne]
      exact zfind_suf K e cs (zinc_tail hi) h
theorem zfind_suffix : ∀ (K : zc) (t : Nat), zfind K t <:+ K
  | [], _ => List.suffix_refl _
  | k :: K, t => by
    unfold zfind
    cases k.1 == t with
    | true => exact List.suffix_refl _
    | false => exact (zfind_suffix K t).trans (List.suffix_cons k K)
/-- a stretch of a method: on till a row where it is to stop -/
def zgt (E : Nat → List zv → List zv → zh → zR) (B : zc → List zv → List zv → zh → zR) (stops : List Nat) (cs : zc) (ls st : List zv) (h : zh) : zR := match cs with
  | [] => none
  | e :: c => bif stops.contains e.1 then E e.1 (zkill e.2.1 ls) st h else B (e :: c) ls st h
def zbk (C : Nat → List zv → zh → zR) (E : Nat → List zv → List zv → zh → zR) (own : Nat) (ini : Bool) (X : Nat → Int) (XL : Nat) (K : zc) (stops : List Nat) : Nat → zc → List zv → List zv → zh → zR
  | 0, [], _, _, _ => none
  | 0, e :: _, ls, st, h => E e.1 ls st h
  | _ + 1, [], _, _, _ => none
  | n + 1, e :: cs, ls, st, h => zdr C (zs1 own ini X XL e.2.2.1 e.1 e.2.2.2.2 (zkill e.2.1 ls) st h) (fun ls st h => zgt E (fun cs ls st h => zbk C E own ini X XL K stops n cs ls st h) stops cs ls st h) (fun t ls st h => zgt E (fun cs ls st h => zbk C E own ini X XL K stops n cs ls st h) stops (zfind K t) ls st h)
theorem zbk_eq {P : Nat → zM} {X : Nat → Int} {XL d : Nat} {M : zM} (hi : zinc M.2.2.2 = true) (stops : List Nat) : ∀ (n : Nat) (cs : zc) (ls st : List zv) (h : zh), cs <:+ M.2.2.2 → zbk (fun mi as h => zC P X XL d mi as h) (fun pc ls st h => zE P X XL d M pc ls st h) M.1 M.2.1 X XL M.2.2.2 stops n cs ls st h = zEs P X XL d M cs ls st h
  | 0, [], ls, st, h, _ => by rw [zEs_nil]; rfl
  | 0, e :: cs, ls, st, h, hs => by
    show zEs P X XL d M (zfind M.2.2.2 e.1) ls st h = _
    rw [zfind_suf _ _ _ hi hs]
  | n + 1, [], ls, st, h, _ => by rw [zEs_nil]; rfl
  | n + 1, e :: cs, ls, st, h, hs => by
    have gt : ∀ (c : zc) (ls st : List zv) (h : zh), c <:+ M.2.2.2 → zgt (fun pc ls st h => zE P X XL d M pc ls st h) (fun cs ls st h => zbk (fun mi as h => zC P X XL d mi as h) (fun pc ls st h => zE P X XL d M pc ls st h) M.1 M.2.1 X XL M.2.2.2 stops n cs ls st h) stops c ls st h = zEs P X XL d M c ls st h := by
      intro c ls st h hc
      cases c with
      | nil => rw [zEs_nil]; rfl
      | cons e c =>
        unfold zgt
        cases hst : stops.contains e.1 with
        | true =>
          simp only [hst, cond_true]
          show zEs P X XL d M (zfind M.2.2.2 e.1) (zkill e.2.1 ls) st h = _
          rw [zfind_suf _ _ _ hi hc, zEs_kill]
        | false =>
          simp only [hst, cond_false]
          exact zbk_eq hi stops n _ _ _ _ hc
    rw [zEs_cons]
    unfold zbk
    congr 1
    · funext ls st h
      exact gt _ _ _ _ ((List.suffix_cons e cs).trans hs)
    · funext t ls st h
      exact gt _ _ _ _ (zfind_suffix _ _)
theorem zE_bk {P : Nat → zM} {X : Nat → Int} {XL d : Nat} {M : zM} (hi : zinc M.2.2.2 = true) (stops : List Nat) (n pc : Nat) (ls st : List zv) (h : zh) : zE P X XL d M pc ls st h = zbk (fun mi as h => zC P X XL d mi as h) (fun pc ls st h => zE P X XL d M pc ls st h) M.1 M.2.1 X XL M.2.2.2 stops n (zfind M.2.2.2 pc) ls st h := (zbk_eq hi stops n _ _ _ _ (zfind_suffix _ _)).symm
