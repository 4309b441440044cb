/-! the world that our picture of memory stands for -/
def zRn : List String := ["WordWar$Acts", "WordWar$Army", "WordWar$Camp", "WordWar$Chooser", "WordWar$Fights", "WordWar$Law", "WordWar$LawReader", "WordWar$Soldiers", "WordWar$Tape", "WordWar$Treaty", "WordWar", "WordWarModel"]
def zTt : List (List (String × String × String × Bool)) := [[("WordWar$Acts", "kind", "[I", true), ("WordWar$Acts", "word", "[I", true), ("WordWar$Acts", "other", "[I", true), ("WordWar$Acts", "size", "I", false)],
  [("WordWar$Army", "row", "[I", true), ("WordWar$Army", "rank", "[I", true), ("WordWar$Army", "held", "[I", true), ("WordWar$Army", "words", "[I", true), ("WordWar$Army", "newWords", "[I", true), ("WordWar$Army", "moving", "LWordWar$Camp;", true), ("WordWar$Army", "size", "I", false), ("WordWar$Army", "field", "I", false)],
  [("WordWar$Camp", "held", "[I", true), ("WordWar$Camp", "standing", "[I", true), ("WordWar$Camp", "size", "I", false)],
  [("WordWar$Chooser", "worth", "[I", true), ("WordWar$Chooser", "clash", "[I", true), ("WordWar$Chooser", "low", "[J", true), ("WordWar$Chooser", "high", "[J", true), ("WordWar$Chooser", "bound", "[I", true), ("WordWar$Chooser", "offered", "I", false), ("WordWar$Chooser", "usable", "I", false), ("WordWar$Chooser", "most", "I", false), ("WordWar$Chooser", "bits", "I", false)],
  [("WordWar$Fights", "size", "I", false), ("WordWar$Fights", "keptSize", "I", false), ("WordWar$Fights", "pairs", "[I", true), ("WordWar$Fights", "keptPairs", "[I", true), ("WordWar$Fights", "must", "[I", true), ("WordWar$Fights", "begun", "[I", true), ("WordWar$Fights", "ended", "[I", true), ("WordWar$Fights", "rows", "[J", true), ("WordWar$Fights", "counted", "Z", false), ("WordWar$Fights", "compared", "Z", false)],
  [("WordWar$Law", "letters", "[I", true), ("WordWar$Law", "values", "[I", true), ("WordWar$Law", "conditions", "[I", true), ("WordWar$Law", "clauses", "I", false), ("WordWar$Law", "steps", "[I", true), ("WordWar$Law", "size", "I", false), ("WordWar$Law", "stack", "[I", true), ("WordWar$Law", "depth", "I", false), ("WordWar$Law", "refused", "Z", false)],
  [("WordWar$LawReader", "text", "LWordWar$Tape;", false), ("WordWar$LawReader", "target", "LWordWar$Law;", false)],
  [("WordWar$Soldiers", "hours", "I", false), ("WordWar$Soldiers", "who", "[I", true), ("WordWar$Soldiers", "roll", "[I", true), ("WordWar$Soldiers", "keptRoll", "[I", true), ("WordWar$Soldiers", "needed", "[I", true), ("WordWar$Soldiers", "reach", "[I", true), ("WordWar$Soldiers", "taken", "[I", true), ("WordWar$Soldiers", "seen", "I", false)],
  [("WordWar$Tape", "bytes", "[I", true), ("WordWar$Tape", "size", "I", false), ("WordWar$Tape", "at", "I", false), ("WordWar$Tape", "end", "I", false), ("WordWar$Tape", "fault", "I", false)],
  [("WordWar$Treaty", "row", "[I", true), ("WordWar$Treaty", "size", "I", false), ("WordWar$Treaty", "left", "[I", true)],
  [("WordWar", "tape", "LWordWar$Tape;", true), ("WordWar", "armies", "[LWordWar$Army;", true), ("WordWar", "choosers", "[LWordWar$Chooser;", true), ("WordWar", "strengths", "[I", true), ("WordWar", "acts", "LWordWar$Acts;", true), ("WordWar", "lawReader", "LWordWar$LawReader;", true), ("WordWar", "law", "LWordWar$Law;", false), ("WordWar", "spareLaw", "LWordWar$Law;", false), ("WordWar", "told", "[I", true), ("WordWar", "gains", "[I", true), ("WordWar", "treaty", "LWordWar$Treaty;", true), ("WordWar", "fights", "LWordWar$Fights;", true), ("WordWar", "soldiers", "LWordWar$Soldiers;", true), ("WordWar", "kept", "[LWordWar$Camp;", true), ("WordWar", "judging", "[LWordWar$Camp;", true), ("WordWar", "anyKept", "Z", false), ("WordWar", "keptTurns", "I", false), ("WordWar", "keptDrawn", "I", false), ("WordWar", "turns", "I", false), ("WordWar", "drawn", "I", false)],
  [("WordWarModel", "x0", "I", false), ("WordWarModel", "turn0", "I", false), ("WordWarModel", "strengthOf", "[I", true), ("WordWarModel", "orderAt", "[I", true), ("WordWarModel", "rankOf", "[I", true), ("WordWarModel", "reserveOf", "[I", true), ("WordWarModel", "graveOf", "[I", true), ("WordWarModel", "prisonOf", "[I", true), ("WordWarModel", "tape", "[B", true), ("WordWarModel", "taped", "I", false), ("WordWarModel", "place0", "I", false), ("WordWarModel", "length0", "I", false), ("WordWarModel", "fault", "I", false), ("WordWarModel", "number0", "I", false), ("WordWarModel", "lexMany0", "I", false), ("WordWarModel", "lexMany1", "I", false), ("WordWarModel", "field0", "I", false), ("WordWarModel", "field1", "I", false), ("WordWarModel", "lexAt", "[I", true), ("WordWarModel", "lexLong", "[I", true), ("WordWarModel", "newAt", "[I", true), ("WordWarModel", "newLong", "[I", true), ("WordWarModel", "newMany", "I", false), ("WordWarModel", "open", "I", false), ("WordWarModel", "codeMany", "I", false), ("WordWarModel", "waiting", "I", false), ("WordWarModel", "saidMany", "I", false), ("WordWarModel", "clauses", "I", false), ("WordWarModel", "said", "[I", true), ("WordWarModel", "waits", "[I", true), ("WordWarModel", "saidLetter", "[I", true), ("WordWarModel", "saidFrom", "[I", true), ("WordWarModel", "saidHalf", "[I", true), ("WordWarModel", "saidTo", "[I", true), ("WordWarModel", "codes", "[I", true), ("WordWarModel", "clauseOf", "[I", true), ("WordWarModel", "codeFrom", "[I", true), ("WordWarModel", "codeHalf", "[I", true), ("WordWarModel", "codeTo", "[I", true), ("WordWarModel", "stack", "[I", true), ("WordWarModel", "facts", "[I", true), ("WordWarModel", "actKind", "[I", true), ("WordWarModel", "actA", "[I", true), ("WordWarModel", "longA", "[I", true), ("WordWarModel", "actB", "[I", true), ("WordWarModel", "longB", "[I", true), ("WordWarModel", "actPlace", "[I", true), ("WordWarModel", "actLetter", "[I", true), ("WordWarModel", "actMany", "I", false), ("WordWarModel", "rowNow", "[I", true), ("WordWarModel", "asideReserve", "[I", true), ("WordWarModel", "asideGrave", "[I", true), ("WordWarModel", "asidePrison", "[I", true), ("WordWarModel", "asideX", "I", false), ("WordWarModel", "asideField0", "I", false), ("WordWarModel", "asideField1", "I", false), ("WordWarModel", "needs", "[I", true), ("WordWarModel", "worths", "[I", true), ("WordWarModel", "bestSet", "I", false), ("WordWarModel", "gains", "[I", true), ("WordWarModel", "isTwo", "[Z", true), ("WordWarModel", "shortest", "[I", true), ("WordWarModel", "peaceRow", "[I", true), ("WordWarModel", "fightA", "[I", true), ("WordWarModel", "fightB", "[I", true), ("WordWarModel", "mustBe", "[I", true), ("WordWarModel", "waysFrom", "[J", true), ("WordWarModel", "fights", "I", false), ("WordWarModel", "soldierFor", "[I", true), ("WordWarModel", "soldierX", "[I", true), ("WordWarModel", "soldierY", "[I", true), ("WordWarModel", "soldierPace", "[I", true), ("WordWarModel", "hoursTo", "[I", true), ("WordWarModel", "goesFor", "[I", true), ("WordWarModel", "cameFrom", "[I", true), ("WordWarModel", "queue", "[I", true), ("WordWarModel", "isKept", "Z", false), ("WordWarModel", "keptX", "I", false), ("WordWarModel", "keptTurn", "I", false), ("WordWarModel", "keptFights", "I", false), ("WordWarModel", "keptReserve", "[I", true), ("WordWarModel", "keptGrave", "[I", true), ("WordWarModel", "keptPrison", "[I", true), ("WordWarModel", "keptMany", "[I", true), ("WordWarModel", "keptAt", "[I", true), ("WordWarModel", "keptLong", "[I", true), ("WordWarModel", "keptFightA", "[I", true), ("WordWarModel", "keptFightB", "[I", true), ("WordWarModel", "keptFor", "[I", true), ("WordWarModel", "keptSoldierX", "[I", true), ("WordWarModel", "keptSoldierY", "[I", true), ("WordWarModel", "keptPace", "[I", true)]]
def zRc (c : Nat) : String := zRn.getD c ""
def zT (c : Nat) : u_T := fun k => (zTt.getD c []).getD k ("", "", "", false)
def zN (c : Nat) : Nat := (zTt.getD c []).length
def zcls : List vw_C := (List.range 12).map fun c => (zRc c, zT c, zN c)
theorem zcls_get {c : Nat} (h : c < 12) : zcls[c]? = some (zRc c, zT c, zN c) := by
  unfold zcls
  rw [List.getElem?_map, List.getElem?_range h]
  rfl
def zty (c k : Nat) : FieldType := (parseFieldDescriptor (zT c k).2.2.1).getD .int
def zisr (t : FieldType) : Bool := match t with
  | .object _ => true
  | .array _ => true
  | _ => false
set_option maxRecDepth 20000 in
theorem zty_all : ∀ c, c < 12 → ∀ k, k < zN c → (parseFieldDescriptor (zT c k).2.2.1).isSome = true ∧ (zT c k).1 = zRc c ∧ (zT c k).2.2.2 = (zft c k == 1) ∧ ((zft c k = 0 ∧ zty c k = .int) ∨ (zft c k = 2 ∧ zty c k = .boolean) ∨ ((zft c k = 1 ∨ zft c k = 3) ∧ zisr (zty c k) = true)) := by decide +kernel
set_option maxRecDepth 20000 in
theorem znm_all : ∀ c, c < 12 → ∀ a, a < zN c → ∀ b, b < zN c → a ≠ b → (zT c a).2.1 ≠ (zT c b).2.1 := by decide +kernel
theorem zty_ok {c : Nat} (hc : c < 12) : ∀ k, k < zN c → parseFieldDescriptor (zT c k).2.2.1 = some (zty c k) := by
  intro k hk
  have h := (zty_all c hc k hk).1
  unfold zty
  cases hq : parseFieldDescriptor (zT c k).2.2.1 with
  | none => rw [hq] at h; cases h
  | some t => rfl
def z32 (x : Int) : Prop := -2147483648 ≤ x ∧ x < 2147483648
def z64 (x : Int) : Prop := -9223372036854775808 ≤ x ∧ x < 9223372036854775808
def zfv (N0 c k : Nat) (rf : List (Option Nat)) (x : Int) : Value := match zft c k with
  | 1 => (match rf.getD k none with
    | none => .null
    | some a => .ref (N0 + a))
  | 3 => if x < 1 then .null else .ref (N0 + (x - 1).toNat)
  | _ => .int (Int32.ofInt x)
def zar (N0 kd : Nat) (rf : List (Option Nat)) (f : Nat → Int) : (Nat → Int32) ⊕ (Nat → Int64) ⊕ (Nat → UInt32) ⊕ (Nat → UInt64) ⊕ (Nat → Option Nat) :=
  if kd = 13 then .inr (.inl fun j => Int64.ofInt (f j)) else if kd < 16 then .inl fun j => Int32.ofInt (f j) else .inr (.inr (.inr (.inr fun j => (rf.getD j none).map fun a => N0 + a)))
def zce (N0 : Nat) (aC : Nat → ClassId) (l : zl) (f : Nat → Int) : va_E :=
  if l.1 < 12 then .inr (l.1, (List.range l.2.1).map fun j => zfv N0 l.1 j l.2.2 (f j)) else .inl (aC l.1, l.2.1, zar N0 l.1 l.2.2 f)
def zgd (h : zh) (k : Nat) : zl := h.1.getD k (99, 0, [])
def zwd (N0 : Nat) (aC : Nat → ClassId) (h : zh) : va_W := (List.range h.1.length).map fun k => (N0 + k, zce N0 aC (zgd h k) (h.2 k))
def zgc (n : Nat) (l : zl) (f : Nat → Int) : Prop := (l.1 < 12 ∧ l.2.1 = zN l.1 ∧ l.2.2.length = l.2.1 ∧ (∀ j, zft l.1 j = 0 ∨ zft l.1 j = 2 → z32 (f j)) ∧ (∀ j, zft l.1 j = 3 → (f j - 1).toNat < n) ∧ ∀ j a, l.2.2.getD j none = some a → a < n) ∨ (12 ≤ l.1 ∧ l.1 < 19 ∧ l.2.1 ≤ 5000 ∧ (l.1 = 13 → ∀ j, z64 (f j)) ∧ (l.1 ≠ 13 → l.1 < 16 → ∀ j, z32 (f j)) ∧ (16 ≤ l.1 → l.2.2.length = l.2.1 ∧ ∀ j a, l.2.2.getD j none = some a → a < n))
def zinv (h : zh) : Prop := ∀ k, k < h.1.length → zgc h.1.length (zgd h k) (h.2 k)
theorem zwd_get {N0 : Nat} {aC : Nat → ClassId} {h : zh} {k : Nat} (hk : k < h.1.length) : (zwd N0 aC h)[k]? = some (N0 + k, zce N0 aC (zgd h k) (h.2 k)) := by
  unfold zwd
  rw [List.getElem?_map, List.getElem?_range hk]
  rfl
theorem zwd_len {N0 : Nat} {aC : Nat → ClassId} {h : zh} : (zwd N0 aC h).length = h.1.length := by simp [zwd]
theorem zwd_set {N0 : Nat} {aC : Nat → ClassId} {h h' : zh} {k : Nat} {e : va_E} (hk : k < h.1.length) (hl : h'.1.length = h.1.length) (he : e = zce N0 aC (zgd h' k) (h'.2 k)) (ho : ∀ j, j ≠ k → zgd h' j = zgd h j ∧ h'.2 j = h.2 j) : (zwd N0 aC h).set k (N0 + k, e) = zwd N0 aC h' := by
  apply List.ext_getElem?
  intro j
  rw [List.getElem?_set]
  by_cases hj : k = j
  · subst hj
    rw [if_pos rfl, if_pos (by rw [zwd_len]; exact hk), zwd_get (by rw [hl]; exact hk), he]
  · rw [if_neg hj]
    by_cases hjl : j < h.1.length
    · rw [zwd_get hjl, zwd_get (by rw [hl]; exact hjl), (ho j (Ne.symm hj)).1, (ho j (Ne.symm hj)).2]
    · rw [List.getElem?_eq_none (by rw [zwd_len]; omega), List.getElem?_eq_none (by rw [zwd_len, hl]; omega)]
theorem zwd_push {N0 : Nat} {aC : Nat → ClassId} {h h' : zh} {q : Nat} {e : va_E} (hq : q = N0 + h.1.length) (hl : h'.1.length = h.1.length + 1) (he : e = zce N0 aC (zgd h' h.1.length) (h'.2 h.1.length)) (ho : ∀ j, j < h.1.length → zgd h' j = zgd h j ∧ h'.2 j = h.2 j) : zwd N0 aC h ++ [(q, e)] = zwd N0 aC h' := by
  apply List.ext_getElem?
  intro j
  by_cases hjl : j < h.1.length
  · rw [List.getElem?_append_left (by rw [zwd_len]; exact hjl), zwd_get hjl, zwd_get (by omega), (ho j hjl).1, (ho j hjl).2]
  · rw [List.getElem?_append_right (by rw [zwd_len]; omega), zwd_len]
    by_cases hj : j = h.1.length
    · subst hj
      rw [zwd_get (by omega), he, hq, Nat.sub_self]
      rfl
    · rw [List.getElem?_eq_none (by simp; omega), List.getElem?_eq_none (by rw [zwd_len]; omega)]
theorem zwd_D {N0 : Nat} {aC : Nat → ClassId} {h : zh} : va_D (fun q : Nat => N0 ≤ q) (zwd N0 aC h) := by
  have key : ∀ (k : Nat) (q : Nat × va_E), (zwd N0 aC h)[k]? = some q → q.1 = N0 + k := by
    intro k q hq
    have hk : k < h.1.length := by
      have := (List.getElem?_eq_some_iff.mp hq).1
      rwa [zwd_len] at this
    rw [zwd_get hk] at hq
    cases hq
    rfl
  refine ⟨fun i j p q hi hj e => ?_, fun k q hk => ?_⟩
  · have := key i p hi
    have := key j q hj
    omega
  · have := key k q hk
    show N0 ≤ q.1
    omega
theorem zgd_at {h : zh} {a : Int} : zat h a = zgd h a.toNat := rfl
theorem zgd_lt {h : zh} {k : Nat} (hk : (zgd h k).1 < 99) : k < h.1.length := by
  rcases Nat.lt_or_ge k h.1.length with q | q
  · exact q
  · unfold zgd at hk
    rw [List.getD_eq_getElem?_getD, List.getElem?_eq_none q] at hk
    exact absurd hk (by decide)
theorem zgd_set {h : zh} {f : Nat → Nat → Int} {k j : Nat} {l : zl} (hk : k < h.1.length) : zgd (h.1.set k l, f) j = if k = j then l else zgd h j := by
  unfold zgd
  simp only [List.getD_eq_getElem?_getD, List.getElem?_set]
  by_cases hj : k = j
  · subst hj
    simp [hk]
  · simp [hj]
theorem zgd_app {h : zh} {f : Nat → Nat → Int} {j : Nat} {l : zl} : zgd (h.1 ++ [l], f) j = if j < h.1.length then zgd h j else if j = h.1.length then l else (99, 0, []) := by
  unfold zgd
  simp only [List.getD_eq_getElem?_getD]
  by_cases hj : j < h.1.length
  · rw [if_pos hj, List.getElem?_append_left hj]
  · rw [if_neg hj, List.getElem?_append_right (by omega)]
    by_cases hj2 : j = h.1.length
    · subst hj2; simp
    · rw [if_neg hj2, List.getElem?_eq_none (by simp; omega)]; rfl
theorem zup_row {f : Nat → Nat → Int} {a k b : Nat} {v : Int} : zup f a k v b = if b = a then (fun j => if j = k then v else f a j) else f b := by
  funext j
  unfold zup
  by_cases hb : b = a
  · subst hb; simp
  · simp [hb]
theorem zclr_row {f : Nat → Nat → Int} {a b : Nat} : zclr f a b = if b = a then (fun _ => 0) else f b := by
  funext j
  unfold zclr
  by_cases hb : b = a <;> simp [hb]
theorem zw_32 (x : Int) : z32 (zw x) := by unfold z32 zw; omega
theorem zwl_64 (x : Int) : z64 (zwl x) := by unfold z64 zwl; omega
theorem zw_of {x : Int} (h : z32 x) : zw x = x := by unfold z32 at h; unfold zw; omega
theorem zo_w (x : Int) : Int32.ofInt (zw x) = Int32.ofInt x := by
  rw [Int32.ofInt_eq_iff_bmod_eq_toInt, Int32.toInt_ofInt]
  unfold zw
  simp only [Int.bmod_def, Int32.size]
  omega
theorem zo_wl (x : Int) : Int64.ofInt (zwl x) = Int64.ofInt x := by
  rw [Int64.ofInt_eq_iff_bmod_eq_toInt, Int64.toInt_ofInt]
  unfold zwl
  simp only [Int.bmod_def, Int64.size]
  omega
theorem zt_o {x : Int} (h : z32 x) : (Int32.ofInt x).toInt = x := Int32.toInt_ofInt_of_le (by have := h.1; omega) (by have := h.2; omega)
theorem zt_ol {x : Int} (h : z64 x) : (Int64.ofInt x).toInt = x := Int64.toInt_ofInt_of_le (by have := h.1; omega) (by have := h.2; omega)
theorem z32_t (x : Int32) : z32 x.toInt := ⟨by have := x.le_toInt; omega, by have := x.toInt_lt; omega⟩
theorem z64_t (x : Int64) : z64 x.toInt := ⟨by have := x.le_toInt; omega, by have := x.toInt_lt; omega⟩
theorem zo_lt {x y : Int} (hx : z32 x) (hy : z32 y) : Int32.ofInt x < Int32.ofInt y ↔ x < y := by rw [Int32.lt_iff_toInt_lt, zt_o hx, zt_o hy]
theorem zo_le {x y : Int} (hx : z32 x) (hy : z32 y) : Int32.ofInt x ≤ Int32.ofInt y ↔ x ≤ y := by rw [Int32.le_iff_toInt_le, zt_o hx, zt_o hy]
theorem zo_eq {x y : Int} (hx : z32 x) (hy : z32 y) : Int32.ofInt x = Int32.ofInt y ↔ x = y := by rw [← Int32.toInt_inj, zt_o hx, zt_o hy]
theorem zo_0 : (0 : Int32) = Int32.ofInt 0 := rfl
theorem z32_0 : z32 0 := by unfold z32; omega
theorem zo_nat {x : Int} (h0 : 0 ≤ x) (h : z32 x) : (Int32.ofInt x).toNatClampNeg = x.toNat := Int32.toNatClampNeg_ofInt_of_le (by have := h.1; omega) (by have := h.2; omega)
theorem zo_in {x : Int} {n : Nat} (h : z32 x) (h0 : 0 ≤ x) (h1 : x < (n : Int)) : vp_in (Int32.ofInt x) n := vp_in_iff.mpr (by rw [zt_o h]; exact ⟨h0, h1⟩)
theorem zo_div {x y : Int} (hx : z32 x) (hy : z32 y) : Int32.ofInt (z_div x y) = Int32.ofInt x / Int32.ofInt y := by
  unfold z_div
  rw [zo_w]
  have m1 : Int32.minValue.toInt = -2147483648 := rfl
  have m2 : Int32.maxValue.toInt = 2147483647 := rfl
  refine Int32.ofInt_tdiv ?_ ?_ ?_ ?_ <;> (first | rw [m1] | rw [m2]) <;> (have := hx.1; have := hx.2; have := hy.1; have := hy.2; omega)
theorem zo_rem {x y : Int} (hx : z32 x) (hy : z32 y) : Int32.ofInt (z_rem x y) = Int32.ofInt x - Int32.ofInt x / Int32.ofInt y * Int32.ofInt y := by
  have h1 : z_rem x y = x - Int.tdiv x y * y := by
    unfold z_rem
    rw [Int.tmod_def, Int.mul_comm]
  have h2 : Int32.ofInt (Int.tdiv x y) = Int32.ofInt x / Int32.ofInt y := by
    rw [← zo_div hx hy]
    unfold z_div
    rw [zo_w]
  rw [h1, Int32.ofInt_sub, Int32.ofInt_mul, h2]
theorem zrem_32 {x y : Int} (hx : z32 x) : z32 (z_rem x y) := by
  unfold z_rem
  have h1 : (Int.tmod x y).natAbs ≤ x.natAbs := by
    rw [Int.natAbs_tmod]
    exact Nat.mod_le _ _
  have := hx.1
  have := hx.2
  have h3 : 0 ≤ x → 0 ≤ Int.tmod x y := Int.tmod_nonneg y
  have h4 : x ≤ 0 → Int.tmod x y ≤ 0 := by
    intro h
    have h5 := Int.tmod_nonneg (a := -x) y (by omega)
    rw [Int.neg_tmod] at h5
    omega
  unfold z32
  omega
