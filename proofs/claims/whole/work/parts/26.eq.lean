/-! guards of what our machine reads -/
def gI (i n : Int) (A : mR) : mR := bif (decide (0 ≤ i) && decide (i < n)) then A else none
def gA (a i : Int) (A : mR) : mR := bif z_ix (zLAY, fun _ _ => 0) 12 a i then A else none
def gN (y : Int) (A : mR) : mR := bif !decide (y = 0) then A else none
def g01 (x : Int) (A : mR) : mR := bif decide (x = 0 ∨ x = 1) then A else none
theorem gI_ok {i n : Int} {A : mR} (h1 : 0 ≤ i) (h2 : i < n) : gI i n A = A := by simp [gI, h1, h2]
theorem gN_ok {y : Int} {A : mR} (h : y ≠ 0) : gN y A = A := by simp [gN, h]
theorem g01_ok {x : Int} {A : mR} (h : x = 0 ∨ x = 1) : g01 x A = A := by simp [g01, h]
def zlen (a : Int) : Int := ((zat (zLAY, fun _ _ => 0) a).2.1 : Int)
def zint (a : Int) : Prop := 0 ≤ a ∧ (zat (zLAY, fun _ _ => 0) a).1 = 12
theorem gA_ok {a i : Int} {A : mR} (ha : zint a) (h1 : 0 ≤ i) (h2 : i < zlen a) : gA a i A = A := by
  unfold gA z_ix
  have h3 : i < ((zat (zLAY, fun _ _ => 0) a).2.1 : Int) := h2
  simp [ha.1, ha.2, h1, h3]
def gJ (a i : Int) (A : mR) : mR := bif z_ix (zLAY, fun _ _ => 0) 13 a i then A else none
def gK (a : Int) (A : mR) : mR := bif (decide (0 ≤ a) && (decide (12 ≤ (zat (zLAY, fun _ _ => 0) a).1) && decide ((zat (zLAY, fun _ _ => 0) a).1 < 19))) then A else none
def gC (sp dp n la lb : Int) (A : mR) : mR := bif (decide (0 ≤ n) && (decide (0 ≤ sp) && (decide (0 ≤ dp) && (decide (sp + n ≤ la) && (decide (dp + n ≤ lb) && true))))) then A else none
theorem gC_ok {sp dp n la lb : Int} {A : mR} (h0 : 0 ≤ n) (h1 : 0 ≤ sp) (h2 : 0 ≤ dp) (h3 : sp + n ≤ la) (h4 : dp + n ≤ lb) : gC sp dp n la lb A = A := by simp [gC, h0, h1, h2, h3, h4]
theorem zup_self {μ : Mu} {a k : Nat} {v : Int} (h : μ a k = v) : zup μ a k v = μ := by
  funext c j
  unfold zup
  split
  · rename_i hh; rw [hh.1, hh.2, h]
  · rfl
theorem zw_id {x : Int} (h1 : -2147483648 ≤ x) (h2 : x < 2147483648) : zw x = x := zw_of ⟨h1, h2⟩
