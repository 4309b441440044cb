/-! the memory behind both constructors -/
def zw1 : zW := [(0, 19, 1), (0, 7, 48), (0, 6, 42), (35, 11, 1), (35, 10, 1), (35, 9, 1), (35, 8, 1), (35, 7, 1), (35, 6, 1), (35, 5, 1), (35, 4, 1), (35, 3, 1), (35, 2, 1), (35, 1, 1), (35, 0, 1), (15, 11, 11), (14, 11, 11), (15, 10, 10), (14, 10, 10), (15, 9, 9), (14, 9, 9), (15, 8, 8), (14, 8, 8), (15, 7, 7), (14, 7, 7), (15, 6, 6), (14, 6, 6), (15, 5, 5), (14, 5, 5), (15, 4, 4), (14, 4, 4), (15, 3, 3), (14, 3, 3), (15, 2, 2), (14, 2, 2), (15, 1, 1), (14, 1, 1), (15, 0, 0), (14, 0, 0), (6, 11, 11), (5, 11, 11), (6, 10, 10), (5, 10, 10), (6, 9, 9), (5, 9, 9), (6, 8, 8), (5, 8, 8), (6, 7, 7), (5, 7, 7), (6, 6, 6), (5, 6, 6), (6, 5, 5), (5, 5, 5), (6, 4, 4), (5, 4, 4), (6, 3, 3), (5, 3, 3), (6, 2, 2), (5, 2, 2), (6, 1, 1), (5, 1, 1), (6, 0, 0), (5, 0, 0)]
def zw2 : zW := [(132, 23, -1), (132, 22, -1), (132, 21, -1), (132, 20, -1), (132, 19, -1), (132, 18, -1), (132, 17, -1), (132, 16, -1), (132, 15, -1), (132, 14, -1), (132, 13, -1), (132, 12, -1), (132, 11, -1), (132, 10, -1), (132, 9, -1), (132, 8, -1), (132, 7, -1), (132, 6, -1), (132, 5, -1), (132, 4, -1), (132, 3, -1), (132, 2, -1), (132, 1, -1), (132, 0, -1), (89, 23, 11), (88, 23, 11), (89, 11, 11), (88, 11, 11), (87, 11, 1), (89, 22, 10), (88, 22, 10), (89, 10, 10), (88, 10, 10), (87, 10, 1), (89, 21, 9), (88, 21, 9), (89, 9, 9), (88, 9, 9), (87, 9, 1), (89, 20, 8), (88, 20, 8), (89, 8, 8), (88, 8, 8), (87, 8, 1), (89, 19, 7), (88, 19, 7), (89, 7, 7), (88, 7, 7), (87, 7, 1), (89, 18, 6), (88, 18, 6), (89, 6, 6), (88, 6, 6), (87, 6, 1), (89, 17, 5), (88, 17, 5), (89, 5, 5), (88, 5, 5), (87, 5, 1), (89, 16, 4), (88, 16, 4), (89, 4, 4), (88, 4, 4), (87, 4, 1), (89, 15, 3), (88, 15, 3), (89, 3, 3), (88, 3, 3), (87, 3, 1), (89, 14, 2), (88, 14, 2), (89, 2, 2), (88, 2, 2), (87, 2, 1), (89, 13, 1), (88, 13, 1), (89, 1, 1), (88, 1, 1), (87, 1, 1), (89, 12, 0), (88, 12, 0), (89, 0, 0), (88, 0, 0), (87, 0, 1), (86, 0, 1)] ++ zw1
def zL0 : List zl := [(10, 20, List.replicate 20 none)]
def zL1 : List zl := zLAY.take 86
def eqqn (a b : Option Nat) : Bool := match a, b with
  | none, none => true
  | some x, some y => decide (x = y)
  | _, _ => false
theorem eqqn_ok {a b : Option Nat} (h : eqqn a b = true) : a = b := by
  cases a <;> cases b <;> first | rfl | (exact congrArg some (of_decide_eq_true h)) | cases h
def eqql {α : Type} (f : α → α → Bool) : List α → List α → Bool
  | [], [] => true
  | a :: l, b :: m => f a b && eqql f l m
  | _, _ => false
theorem eqql_ok {α : Type} {f : α → α → Bool} (hf : ∀ a b, f a b = true → a = b) : ∀ (l m : List α), eqql f l m = true → l = m
  | [], [], _ => rfl
  | a :: l, b :: m, h => by
    have h2 : (f a b && eqql f l m) = true := h
    simp only [Bool.and_eq_true] at h2
    rw [hf a b h2.1, eqql_ok hf l m h2.2]
  | [], _ :: _, h => by cases h
  | _ :: _, [], h => by cases h
def eqqz (a b : zl) : Bool := decide (a.1 = b.1) && (decide (a.2.1 = b.2.1) && eqql eqqn a.2.2 b.2.2)
theorem eqqz_ok (a b : zl) (h : eqqz a b = true) : a = b := by
  simp only [eqqz, Bool.and_eq_true, decide_eq_true_eq] at h
  exact Prod.ext h.1 (Prod.ext h.2.1 (eqql_ok (fun _ _ => eqqn_ok) _ _ h.2.2))
def eqqw (a b : Nat × Nat × Int) : Bool := decide (a.1 = b.1) && (decide (a.2.1 = b.2.1) && decide (a.2.2 = b.2.2))
theorem eqqw_ok (a b : Nat × Nat × Int) (h : eqqw a b = true) : a = b := by
  simp only [eqqw, Bool.and_eq_true, decide_eq_true_eq] at h
  exact Prod.ext h.1 (Prod.ext h.2.1 h.2.2)
def eqqr (r : zR0) (v : Int) (L : List zl) (w : zW) : Bool := match r with
  | none => false
  | some q => decide (q.1 = v) && (eqql eqqz q.2.1 L && eqql eqqw q.2.2 w)
theorem eqqr_ok {r : zR0} {v : Int} {L : List zl} {w : zW} (h : eqqr r v L w = true) : r = some (v, (L, w)) := by
  cases r with
  | none => cases h
  | some q =>
    simp only [eqqr, Bool.and_eq_true, decide_eq_true_eq] at h
    exact congrArg some (Prod.ext h.1 (Prod.ext (eqql_ok eqqz_ok _ _ h.2.1) (eqql_ok eqqw_ok _ _ h.2.2)))
set_option maxRecDepth 1000000 in
theorem ctor_1b : eqqr (zc0 zP 3000 100 0 [(2, 0)] (zL0, [])) 0 zL1 zw1 = true := by decide +kernel
theorem ctor_1 : zc0 zP 3000 100 0 [(2, 0)] (zL0, []) = some (0, (zL1, zw1)) := eqqr_ok ctor_1b
set_option maxRecDepth 1000000 in
theorem ctor_2b : eqqr (zc0 zP 3000 100 180 [(2, 86)] (zL1 ++ [(11, 92, List.replicate 92 none)], zw1)) 0 zLAY zw2 = true := by decide +kernel
theorem ctor_2 : zc0 zP 3000 100 180 [(2, 86)] (zL1 ++ [(11, 92, List.replicate 92 none)], zw1) = some (0, (zLAY, zw2)) := eqqr_ok ctor_2b
