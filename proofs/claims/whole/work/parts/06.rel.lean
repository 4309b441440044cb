/-! what a point of our machine says of the machine itself -/
def zrv (N0 : Nat) (adK : Nat → Nat) (b : Nat) (v : zv) : Value := match v.1 with
  | 0 => .int (Int32.ofInt v.2)
  | 1 => .long (Int64.ofInt v.2)
  | 2 => .ref (N0 + v.2.toNat)
  | 3 => .ref (adK v.2.toNat)
  | 4 => .ref b
  | _ => .null
def zvok (h : zh) (v : zv) : Prop := (v.1 = 0 → z32 v.2) ∧ (v.1 = 1 → z64 v.2) ∧ (v.1 = 2 → 0 ≤ v.2 ∧ v.2.toNat < h.1.length)
def zsz (h : zh) : Nat := (h.1.map fun l => l.2.1).sum
def zlv (rv : zv → Value) : Nat → List zv → List (Nat × Value)
  | _, [] => []
  | k, v :: vs => if v.1 = 9 then zlv rv (k + 1) vs else (k, rv v) :: zlv rv (k + 1) vs
theorem zlv_mem {rv : zv → Value} : ∀ (ls : List zv) (k : Nat) (q : Nat × Value), q ∈ zlv rv k ls ↔ ∃ (i : Nat) (v : zv), ls[i]? = some v ∧ v.1 ≠ 9 ∧ q = (k + i, rv v)
  | [], k, q => by simp [zlv]
  | v :: vs, k, q => by
    have ih := zlv_mem (rv := rv) vs (k + 1) q
    have aux : (∃ (i : Nat) (w : zv), vs[i]? = some w ∧ w.1 ≠ 9 ∧ q = (k + 1 + i, rv w)) ↔ ∃ (i : Nat) (w : zv), (v :: vs)[i + 1]? = some w ∧ w.1 ≠ 9 ∧ q = (k + (i + 1), rv w) := by
      constructor
      · rintro ⟨i, w, h1, h2, h3⟩
        exact ⟨i, w, by simpa using h1, h2, by rw [h3]; congr 1; omega⟩
      · rintro ⟨i, w, h1, h2, h3⟩
        exact ⟨i, w, by simpa using h1, h2, by rw [h3]; congr 1; omega⟩
    unfold zlv
    by_cases h9 : v.1 = 9
    · rw [if_pos h9, ih, aux]
      constructor
      · rintro ⟨i, w, h⟩
        exact ⟨i + 1, w, h⟩
      · rintro ⟨i, w, h1, h2, h3⟩
        cases i with
        | zero => simp at h1; subst h1; exact absurd h9 h2
        | succ i => exact ⟨i, w, h1, h2, h3⟩
    · rw [if_neg h9, List.mem_cons, ih, aux]
      constructor
      · rintro (h | ⟨i, w, h⟩)
        · exact ⟨0, v, by simp, h9, by simpa using h⟩
        · exact ⟨i + 1, w, h⟩
      · rintro ⟨i, w, h1, h2, h3⟩
        cases i with
        | zero => simp at h1; subst h1; exact Or.inl (by simpa using h3)
        | succ i => exact Or.inr ⟨i, w, h1, h2, h3⟩
theorem lv_has_sub {ls : Array Slot} {nL : Nat} {l l' : List (Nat × Value)} (h : lv_has ls nL l) (hs : ∀ q ∈ l', q ∈ l) : lv_has ls nL l' := ⟨h.1, h.2.1, fun q hq => h.2.2 q (hs q hq)⟩
theorem zlv_get {rv : zv → Value} {ls : List zv} {lsR : Array Slot} {nL n : Nat} (h : lv_has lsR nL (zlv rv 0 ls)) {v : zv} (hv : ls.getD n (9, 0) = v) (h9 : v.1 ≠ 9) : lsR[n]? = some (.val (rv v)) := by
  have hn : ls[n]? = some v := by
    rw [List.getD_eq_getElem?_getD] at hv
    cases hq : ls[n]? with
    | none => rw [hq] at hv; simp at hv; subst hv; exact absurd rfl h9
    | some w => rw [hq] at hv; simp at hv; rw [hv]
  have := h.2.2 (n, rv v) ((zlv_mem ls 0 _).mpr ⟨n, v, hn, h9, by simp⟩)
  exact this
theorem zset_get {ls : List zv} {n i : Nat} {v w : zv} (h : (zset ls n v)[i]? = some w) (h9 : w.1 ≠ 9) : (i = n ∧ w = v) ∨ (i ≠ n ∧ ls[i]? = some w ∧ ¬ (i + 1 = n ∧ w.1 = 1)) := by
  unfold zset at h
  cases n with
  | zero =>
    simp only [List.getElem?_set] at h
    by_cases hi : 0 = i
    · subst hi
      rw [if_pos rfl] at h
      by_cases hl : 0 < ls.length
      · rw [if_pos hl] at h; exact Or.inl ⟨rfl, (Option.some.inj h).symm⟩
      · rw [if_neg hl] at h; cases h
    · rw [if_neg hi] at h
      exact Or.inr ⟨by omega, h, by omega⟩
  | succ k =>
    simp only at h
    by_cases h1 : (ls.getD k (9, 0)).1 = 1
    · rw [if_pos h1, List.getElem?_set] at h
      by_cases hi : k + 1 = i
      · subst hi
        rw [if_pos rfl] at h
        split at h
        · exact Or.inl ⟨rfl, (Option.some.inj h).symm⟩
        · cases h
      · rw [if_neg hi, List.getElem?_set] at h
        by_cases hk : k = i
        · subst hk
          rw [if_pos rfl] at h
          split at h
          · have := (Option.some.inj h).symm; subst this; exact absurd rfl h9
          · cases h
        · rw [if_neg hk] at h
          exact Or.inr ⟨by omega, h, by omega⟩
    · rw [if_neg h1, List.getElem?_set] at h
      by_cases hi : k + 1 = i
      · subst hi
        rw [if_pos rfl] at h
        split at h
        · exact Or.inl ⟨rfl, (Option.some.inj h).symm⟩
        · cases h
      · rw [if_neg hi] at h
        refine Or.inr ⟨by omega, h, ?_⟩
        rintro ⟨hq, hw⟩
        have : i = k := by omega
        subst this
        rw [List.getD_eq_getElem?_getD, h] at h1
        exact h1 hw
theorem zset2_get {ls : List zv} {n i : Nat} {v w : zv} (h : (zset2 ls n v)[i]? = some w) (h9 : w.1 ≠ 9) : (i = n ∧ w = v) ∨ (i ≠ n ∧ i ≠ n + 1 ∧ ls[i]? = some w ∧ ¬ (i + 1 = n ∧ w.1 = 1)) := by
  unfold zset2 at h
  rw [List.getElem?_set] at h
  by_cases hi : n + 1 = i
  · rw [if_pos hi] at h
    split at h
    · have := (Option.some.inj h).symm; subst this; exact absurd rfl h9
    · cases h
  · rw [if_neg hi] at h
    rcases zset_get h h9 with h | h
    · exact Or.inl h
    · exact Or.inr ⟨h.1, by omega, h.2.1, h.2.2⟩
theorem zrv_cat {N0 : Nat} {adK : Nat → Nat} {b : Nat} {v : zv} : (zrv N0 adK b v).category = if v.1 = 1 then 2 else 1 := by
  obtain ⟨t, x⟩ := v
  unfold zrv
  match t with
  | 0 => rfl
  | 1 => rfl
  | 2 => rfl
  | 3 => rfl
  | 4 => rfl
  | t + 5 => rfl
theorem zlv_set {N0 : Nat} {adK : Nat → Nat} {b n : Nat} {ls : List zv} {v : zv} {R : Value} (hv : zrv N0 adK b v = R) : ∀ q ∈ zlv (zrv N0 adK b) 0 (zset ls n v), q ∈ (n, R) :: (zlv (zrv N0 adK b) 0 ls).filter (fun q => !(q.1 == n) && !(q.1 + 1 == n && q.2.category == 2)) := by
  intro q hq
  obtain ⟨i, w, h1, h2, rfl⟩ := (zlv_mem _ _ _).mp hq
  rcases zset_get h1 h2 with ⟨rfl, rfl⟩ | ⟨g1, g2, g3⟩
  · rw [← hv]; simp
  · refine List.mem_cons_of_mem _ (List.mem_filter.mpr ⟨(zlv_mem _ _ _).mpr ⟨i, w, g2, h2, rfl⟩, ?_⟩)
    simp only [Nat.zero_add, zrv_cat]
    by_cases hw : w.1 = 1
    · have : ¬ i + 1 = n := fun q => g3 ⟨q, hw⟩
      simp [g1, this]
    · simp [g1, hw]
theorem zlv_set2 {N0 : Nat} {adK : Nat → Nat} {b n : Nat} {ls : List zv} {v : zv} {R : Value} (hv : zrv N0 adK b v = R) : ∀ q ∈ zlv (zrv N0 adK b) 0 (zset2 ls n v), q ∈ (n, R) :: (zlv (zrv N0 adK b) 0 ls).filter (fun q => !(q.1 == n) && (!(q.1 == n + 1) && !(q.1 + 1 == n && q.2.category == 2))) := by
  intro q hq
  obtain ⟨i, w, h1, h2, rfl⟩ := (zlv_mem _ _ _).mp hq
  rcases zset2_get h1 h2 with ⟨rfl, rfl⟩ | ⟨g1, g0, g2, g3⟩
  · rw [← hv]; simp
  · refine List.mem_cons_of_mem _ (List.mem_filter.mpr ⟨(zlv_mem _ _ _).mpr ⟨i, w, g2, h2, rfl⟩, ?_⟩)
    simp only [Nat.zero_add, zrv_cat]
    by_cases hw : w.1 = 1
    · have : ¬ i + 1 = n := fun q => g3 ⟨q, hw⟩
      simp [g1, g0, this]
    · simp [g1, g0, hw]
theorem zkill_get : ∀ (kl : List Nat) (ls : List zv) (i : Nat) (w : zv), (zkill kl ls)[i]? = some w → w.1 ≠ 9 → ls[i]? = some w
  | [], _, _, _, h, _ => h
  | k :: kl, ls, i, w, h, h9 => by
    have h1 := zkill_get kl (ls.set k (9, 0)) i w h h9
    rw [List.getElem?_set] at h1
    split at h1
    · split at h1
      · have := (Option.some.inj h1).symm; subst this; exact absurd rfl h9
      · cases h1
    · exact h1
theorem zlv_kill {rv : zv → Value} {kl : List Nat} {ls : List zv} : ∀ q ∈ zlv rv 0 (zkill kl ls), q ∈ zlv rv 0 ls := by
  intro q hq
  obtain ⟨i, w, h1, h2, rfl⟩ := (zlv_mem _ _ _).mp hq
  exact (zlv_mem _ _ _).mpr ⟨i, w, zkill_get kl ls i w h1 h2, h2, rfl⟩
theorem zok9 {h : zh} {x : Int} : zvok h (9, x) := ⟨fun q => (by cases q), fun q => (by cases q), fun q => (by cases q)⟩
theorem zok_set {h : zh} {ls : List zv} {n : Nat} {v : zv} (hl : ∀ w ∈ ls, zvok h w) (hv : zvok h v) : ∀ w ∈ zset ls n v, zvok h w := by
  intro w hw
  obtain ⟨i, hi⟩ := List.getElem?_of_mem hw
  by_cases h9 : w.1 = 9
  · obtain ⟨t, x⟩ := w
    cases h9
    exact zok9
  · rcases zset_get hi h9 with ⟨-, rfl⟩ | ⟨-, g, -⟩
    · exact hv
    · exact hl w (List.mem_of_getElem? g)
theorem zok_set2 {h : zh} {ls : List zv} {n : Nat} {v : zv} (hl : ∀ w ∈ ls, zvok h w) (hv : zvok h v) : ∀ w ∈ zset2 ls n v, zvok h w := by
  intro w hw
  obtain ⟨i, hi⟩ := List.getElem?_of_mem hw
  by_cases h9 : w.1 = 9
  · obtain ⟨t, x⟩ := w
    cases h9
    exact zok9
  · rcases zset2_get hi h9 with ⟨-, rfl⟩ | ⟨-, -, g, -⟩
    · exact hv
    · exact hl w (List.mem_of_getElem? g)
theorem zok_kill {h : zh} {kl : List Nat} {ls : List zv} (hl : ∀ w ∈ ls, zvok h w) : ∀ w ∈ zkill kl ls, zvok h w := by
  intro w hw
  obtain ⟨i, hi⟩ := List.getElem?_of_mem hw
  by_cases h9 : w.1 = 9
  · obtain ⟨t, x⟩ := w
    cases h9
    exact zok9
  · exact hl w (List.mem_of_getElem? (zkill_get kl ls i w hi h9))
theorem zok_mono {h h' : zh} (hh : h.1.length ≤ h'.1.length) {v : zv} (hv : zvok h v) : zvok h' v := ⟨hv.1, hv.2.1, fun q => ⟨(hv.2.2 q).1, Nat.lt_of_lt_of_le (hv.2.2 q).2 hh⟩⟩
theorem zoki {h : zh} {x : Int} (hx : z32 x) : zvok h (0, x) := ⟨fun _ => hx, fun q => (by cases q), fun q => (by cases q)⟩
theorem zokl {h : zh} {x : Int} (hx : z64 x) : zvok h (1, x) := ⟨fun q => (by cases q), fun _ => hx, fun q => (by cases q)⟩
theorem zokr {h : zh} {x : Int} (h0 : 0 ≤ x) (hx : x.toNat < h.1.length) : zvok h (2, x) := ⟨fun q => (by cases q), fun q => (by cases q), fun _ => ⟨h0, hx⟩⟩
theorem zok_get {h : zh} {ls : List zv} {n : Nat} (hl : ∀ w ∈ ls, zvok h w) : zvok h (ls.getD n (9, 0)) := by
  rw [List.getD_eq_getElem?_getD]
  cases hq : ls[n]? with
  | none => exact zok9
  | some w => exact hl w (List.mem_of_getElem? hq)
def ztys (aC : Nat → ClassId) : List (ClassId × FieldType) := [(aC 12, .int), (aC 13, .long), (aC 14, .byte), (aC 15, .boolean), (aC 16, .object "WordWar$Army"), (aC 17, .object "WordWar$Chooser"), (aC 18, .object "WordWar$Camp")]
/-- the texts: where their entries stand -/
def zsk : List Nat := [45, 121, 103, 111, 119, 129]
def zstx : List String := ["fpvdw", "timsnqrxhy", "<>=", "+-", "*/%", "+-*/%<>="]
def zcxS (adK : Nat → Nat) (U : State) : Prop := ∀ i, i < 6 → vk_R "WordWar$LawReader" (zsk.getD i 0) (zstx.getD i "") (adK i) U
def zNest : List (String × Nat × MethodName × String) := [("WordWar", 9, ⟨"WordWar$Tape", "<init>", "()V"⟩, "WordWar"), ("WordWar$Army", 29, ⟨"WordWar$Camp", "<init>", "()V"⟩, "WordWar"), ("WordWar", 25, ⟨"WordWar$Chooser", "<init>", "()V"⟩, "WordWar"), ("WordWar", 42, ⟨"WordWar$Acts", "<init>", "()V"⟩, "WordWar"), ("WordWar", 49, ⟨"WordWar$LawReader", "<init>", "()V"⟩, "WordWar"), ("WordWar", 56, ⟨"WordWar$Law", "<init>", "()V"⟩, "WordWar"), ("WordWar", 72, ⟨"WordWar$Treaty", "<init>", "()V"⟩, "WordWar"), ("WordWar", 79, ⟨"WordWar$Fights", "<init>", "()V"⟩, "WordWar"), ("WordWar", 86, ⟨"WordWar$Soldiers", "<init>", "()V"⟩, "WordWar"), ("WordWar", 93, ⟨"WordWar$Camp", "<init>", "()V"⟩, "WordWar"), ("WordWar$Army", 40, ⟨"WordWar", "isLetter", "(I)Z"⟩, "WordWar"), ("WordWar$Army", 44, ⟨"WordWar", "has", "(II)Z"⟩, "WordWar"), ("WordWar$Tape", 38, ⟨"WordWar", "isLetter", "(I)Z"⟩, "WordWar"), ("WordWar$Words", 23, ⟨"WordWar", "isLetter", "(I)Z"⟩, "WordWar"), ("WordWar$Chooser", 47, ⟨"WordWar", "has", "(II)Z"⟩, "WordWar"), ("WordWar$Treaty", 36, ⟨"WordWar", "isLetter", "(I)Z"⟩, "WordWar"), ("WordWar$Fights", 62, ⟨"WordWar", "isLetter", "(I)Z"⟩, "WordWar"), ("WordWar$Soldiers", 70, ⟨"WordWar", "has", "(II)Z"⟩, "WordWar")]
def zcxN (U : State) : Prop := ∀ q ∈ zNest, va_Nw (.methodLinkNest q.1 q.2.1 q.2.2.1 q.2.2.2) U
def zlenS : List Nat := [5, 10, 3, 2, 3, 8]
def zbytS : List (List Int32) := [[102, 112, 118, 100, 119], [116, 105, 109, 115, 110, 113, 114, 120, 104, 121], [60, 62, 61], [43, 45], [42, 47, 37], [43, 45, 42, 47, 37, 60, 62, 61]]
/-- the texts, and two statics of the library: where they lie nothing is written -/
def zcxH (N0 : Nat) (adK : Nat → Nat) (U : State) (H : Heap) : Prop := ∃ adV : Nat → Nat, vk_S 6 zlenS zbytS adK adV (fun q => N0 ≤ q) U H ∧ va_Z "java/lang/String" "COMPACT_STRINGS" "Z" (.int 1) (fun q => N0 ≤ q) U H ∧ va_Zq "jdk/internal/util/Preconditions" "SIOOBE_FORMATTER" "Ljava/util/function/BiFunction;" (fun q => N0 ≤ q) U H
theorem zcxH_kept {N0 : Nat} {adK : Nat → Nat} {u U : State} {H H1 : Heap} (hvm : u.vm.Alike U.vm) (hq : ∀ a : Nat, a < H.size → ¬ N0 ≤ a → H1[a]? = H[a]?) (h : zcxH N0 adK u H) : zcxH N0 adK U H1 := by
  obtain ⟨adV, h1, h2, h3⟩ := h
  refine ⟨adV, (h1.moved hvm).kept hq, (h2.moved hvm).kept hq, ?_⟩
  rcases h3 with h3 | ⟨t, h3⟩
  · exact Or.inl ((h3.moved hvm).kept hq)
  · exact Or.inr ⟨t, (h3.moved hvm).kept hq⟩
def zcx (N0 : Nat) (adK : Nat → Nat) (U : State) : Prop := zcxS adK U ∧ zcxN U ∧ va_AO "WordWar$Army" U ∧ va_AO "WordWar$Chooser" U ∧ va_AO "WordWar$Camp" U ∧ zcxH N0 adK U U.heap
theorem zcx_warm {N0 : Nat} {adK : Nat → Nat} {s U : State} (hW : s.WarmedH U.vm) (hq : ∀ a : Nat, a < s.heap.size → ¬ N0 ≤ a → U.heap[a]? = s.heap[a]?) (h : zcx N0 adK s) : zcx N0 adK U := ⟨fun i hi => (h.1 i hi).warm hW, fun q hq => (h.2.1 q hq).warmM hW, h.2.2.1.moved hW.alike, h.2.2.2.1.moved hW.alike, h.2.2.2.2.1.moved hW.alike, zcxH_kept hW.alike hq h.2.2.2.2.2⟩
def lw_g : List Cond := lw_tbl.filter goodWord
theorem zg_in {w : Cond} (h : w ∈ lw_tbl) (hg : goodWord w = true) : w ∈ lw_g := List.mem_filter.mpr ⟨h, hg⟩
/-- a point of a method -/
def zWP (p : Program) (l : Launch) (e : Env) (R : Room) (s : State) (m : MethodId) (args : Array Value) (below : List Frame) (meth : Method) (c : Code) (Q : State → Prop) (N0 b c0 s0 maxL : Nat) (aC dC : Nat → ClassId) (dI : Nat → Nat → Nat) (adK : Nat → Nat) (pc : Nat) (ls st : List zv) (h : zh) : Prop :=
  ∀ (H : Heap) (lsR : Array Slot) (locs : List Loc), va_P (dC, dI) zcls (zwd N0 aC h) H → zinv h → lv_has lsR maxL (zlv (zrv N0 adK b) 0 ls) → (∀ v ∈ st, zvok h v) → (∀ v ∈ ls, zvok h v) → c0 ≤ h.1.length → s0 ≤ zsz h → va_S (fun q => N0 ≤ q) s.heap H locs → W p l e R s m args below meth c H locs (h.1.length - c0) (zsz h - s0) Q (F0 m pc lsR (st.map (zrv N0 adK b)))
/-- what stays in a method -/
def zFx (p : Program) (s : State) (m : MethodId) (args : Array Value) (c : Code) (N0 b XL maxL : Nat) (aC dC : Nat → ClassId) (dI : Nat → Nat → Nat) (adK : Nat → Nat) (X : Nat → Int) (cc : ByteArray) (own : String) : Prop :=
  p.tables.exec = Jvm.exec ∧ c.code = cc ∧ c.maxLocals = maxL ∧ s.vm.findClass own = some m.cls ∧ (∀ w ∈ lw_g, w.before args s = true) ∧ va_K (dC, dI) zcls (ztys aC) s ∧ zcx N0 adK s ∧ va_X b XL (fun j => Int32.ofInt (X j)) s s.heap ∧ b < s.heap.size ∧ b < N0 ∧ N0 ≤ s.heap.size ∧ (∀ j, z32 (X j)) ∧ XL ≤ 3072
