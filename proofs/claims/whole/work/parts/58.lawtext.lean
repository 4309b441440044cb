/-! the law's tongue: where a piece of text ends, what it comes to, which steps it makes.
modes: 0 sum, 1 rest of a sum, 2 product, 3 rest of a product, 4 factor, 5 condition, 6 rest of it, 7 part, 8 rest of it, 9 piece -/
def dgn (b : Row) (n p : Nat) : Nat := wl9 (isg b n) 6 p
def dgv (b : Row) (p : Nat) : Nat → Nat
  | 0 => 0
  | k + 1 => dgv b p k * 10 + (b (p + k) - 48).toNat
def tlx (c : Int) : Int := if c = 116 then 0 else if c = 105 then 1 else if c = 109 then 2 else if c = 115 then 3 else if c = 110 then 4 else if c = 113 then 5 else if c = 114 then 6 else if c = 120 then 7 else if c = 104 then 8 else if c = 121 then 9 else -1
def sgs (c : Int) : Nat := if c = 43 then 2 else if c = 45 then 3 else if c = 42 then 4 else if c = 47 then 5 else if c = 37 then 6 else if c = 60 then 7 else if c = 62 then 8 else if c = 61 then 9 else 0
/-- fault (0: none) and end -/
def pz (b : Row) (n : Nat) : Nat → Nat → Nat → Nat → Int × Nat
  | 0, _, _, p => (-1, p)
  | f + 1, m, o, p =>
    if m = 0 then (if (pz b n f 2 o p).1 ≠ 0 then pz b n f 2 o p else pz b n f 1 o (pz b n f 2 o p).2)
    else if m = 1 then (if tx b n p = 43 ∨ tx b n p = 45 then (if (pz b n f 2 o (p + 1)).1 ≠ 0 then pz b n f 2 o (p + 1) else pz b n f 1 o (pz b n f 2 o (p + 1)).2) else (0, p))
    else if m = 2 then (if (pz b n f 4 o p).1 ≠ 0 then pz b n f 4 o p else pz b n f 3 o (pz b n f 4 o p).2)
    else if m = 3 then (if tx b n p = 42 ∨ tx b n p = 47 ∨ tx b n p = 37 then (if (pz b n f 4 o (p + 1)).1 ≠ 0 then pz b n f 4 o (p + 1) else pz b n f 3 o (pz b n f 4 o (p + 1)).2) else (0, p))
    else if m = 4 then
      (if tx b n p = 91 then (if 6 ≤ o then (-5000 - (p : Int), p) else if (pz b n f 0 (o + 1) (p + 1)).1 ≠ 0 then pz b n f 0 (o + 1) (p + 1) else if tx b n (pz b n f 0 (o + 1) (p + 1)).2 = 93 then (0, (pz b n f 0 (o + 1) (p + 1)).2 + 1) else (-1000 - (((pz b n f 0 (o + 1) (p + 1)).2 : Nat) : Int), (pz b n f 0 (o + 1) (p + 1)).2))
      else if isg b n p = true then (if dgn b n p = 6 then (-2000 - ((p + 5 : Nat) : Int), p + 5) else (0, p + dgn b n p))
      else if tlx (tx b n p) ≠ -1 then (0, p + 1) else (-1000 - (p : Int), p))
    else if m = 5 then (if (pz b n f 7 o p).1 ≠ 0 then pz b n f 7 o p else pz b n f 6 o (pz b n f 7 o p).2)
    else if m = 6 then (if tx b n p = 124 then (if (pz b n f 7 o (p + 1)).1 ≠ 0 then pz b n f 7 o (p + 1) else pz b n f 6 o (pz b n f 7 o (p + 1)).2) else (0, p))
    else if m = 7 then (if (pz b n f 9 o p).1 ≠ 0 then pz b n f 9 o p else pz b n f 8 o (pz b n f 9 o p).2)
    else if m = 8 then (if tx b n p = 38 then (if (pz b n f 9 o (p + 1)).1 ≠ 0 then pz b n f 9 o (p + 1) else pz b n f 8 o (pz b n f 9 o (p + 1)).2) else (0, p))
    else
      (if tx b n p = 33 then (if 6 ≤ o then (-5000 - (p : Int), p) else pz b n f 9 (o + 1) (p + 1))
      else if tx b n p = 40 then (if 6 ≤ o then (-5000 - (p : Int), p) else if (pz b n f 5 (o + 1) (p + 1)).1 ≠ 0 then pz b n f 5 (o + 1) (p + 1) else if tx b n (pz b n f 5 (o + 1) (p + 1)).2 = 41 then (0, (pz b n f 5 (o + 1) (p + 1)).2 + 1) else (-1000 - (((pz b n f 5 (o + 1) (p + 1)).2 : Nat) : Int), (pz b n f 5 (o + 1) (p + 1)).2))
      else if (pz b n f 0 o p).1 ≠ 0 then pz b n f 0 o p
      else if tx b n (pz b n f 0 o p).2 = 60 ∨ tx b n (pz b n f 0 o p).2 = 62 ∨ tx b n (pz b n f 0 o p).2 = 61 then pz b n f 0 o ((pz b n f 0 o p).2 + 1)
      else (-1000 - (((pz b n f 0 o p).2 : Nat) : Int), (pz b n f 0 o p).2))
/-- how many steps -/
def ln (b : Row) (n : Nat) : Nat → Nat → Nat → Nat → Nat
  | 0, _, _, _ => 0
  | f + 1, m, o, p =>
    if m = 0 then ln b n f 2 o p + ln b n f 1 o (pz b n f 2 o p).2
    else if m = 1 then (if tx b n p = 43 ∨ tx b n p = 45 then ln b n f 2 o (p + 1) + 1 + ln b n f 1 o (pz b n f 2 o (p + 1)).2 else 0)
    else if m = 2 then ln b n f 4 o p + ln b n f 3 o (pz b n f 4 o p).2
    else if m = 3 then (if tx b n p = 42 ∨ tx b n p = 47 ∨ tx b n p = 37 then ln b n f 4 o (p + 1) + 1 + ln b n f 3 o (pz b n f 4 o (p + 1)).2 else 0)
    else if m = 4 then (if tx b n p = 91 then ln b n f 0 (o + 1) (p + 1) else 1)
    else if m = 5 then ln b n f 7 o p + ln b n f 6 o (pz b n f 7 o p).2
    else if m = 6 then (if tx b n p = 124 then 1 + ln b n f 7 o (p + 1) + ln b n f 6 o (pz b n f 7 o (p + 1)).2 else 0)
    else if m = 7 then ln b n f 9 o p + ln b n f 8 o (pz b n f 9 o p).2
    else if m = 8 then (if tx b n p = 38 then 1 + ln b n f 9 o (p + 1) + ln b n f 8 o (pz b n f 9 o (p + 1)).2 else 0)
    else (if tx b n p = 33 then ln b n f 9 (o + 1) (p + 1) + 1 else if tx b n p = 40 then ln b n f 5 (o + 1) (p + 1) else ln b n f 0 o p + ln b n f 0 o ((pz b n f 0 o p).2 + 1) + 1)
/-- what it comes to; a rest goes on from a value -/
def dz (b tl : Row) (n : Nat) : Nat → Nat → Nat → Nat → Int → Option Int
  | 0, _, _, _, _ => none
  | f + 1, m, o, p, x =>
    if m = 0 then (dz b tl n f 2 o p 0).bind (dz b tl n f 1 o (pz b n f 2 o p).2)
    else if m = 1 then (if tx b n p = 43 ∨ tx b n p = 45 then ((dz b tl n f 2 o (p + 1) 0).bind fun y => rck (sgs (tx b n p)) x y).bind (dz b tl n f 1 o (pz b n f 2 o (p + 1)).2) else some x)
    else if m = 2 then (dz b tl n f 4 o p 0).bind (dz b tl n f 3 o (pz b n f 4 o p).2)
    else if m = 3 then (if tx b n p = 42 ∨ tx b n p = 47 ∨ tx b n p = 37 then ((dz b tl n f 4 o (p + 1) 0).bind fun y => rck (sgs (tx b n p)) x y).bind (dz b tl n f 3 o (pz b n f 4 o (p + 1)).2) else some x)
    else if m = 4 then (if tx b n p = 91 then dz b tl n f 0 (o + 1) (p + 1) 0 else if isg b n p = true then some ((dgv b p (dgn b n p) : Nat) : Int) else some (tl (tlx (tx b n p)).toNat))
    else if m = 5 then (dz b tl n f 7 o p 0).bind (dz b tl n f 6 o (pz b n f 7 o p).2)
    else if m = 6 then (if tx b n p = 124 then (if (x ≠ 0 ↔ 4 = 4) then some x else (dz b tl n f 7 o (p + 1) 0).bind (dz b tl n f 6 o (pz b n f 7 o (p + 1)).2)) else some x)
    else if m = 7 then (dz b tl n f 9 o p 0).bind (dz b tl n f 8 o (pz b n f 9 o p).2)
    else if m = 8 then (if tx b n p = 38 then (if (x ≠ 0 ↔ 5 = 4) then some x else (dz b tl n f 9 o (p + 1) 0).bind (dz b tl n f 8 o (pz b n f 9 o (p + 1)).2)) else some x)
    else (if tx b n p = 33 then (dz b tl n f 9 (o + 1) (p + 1) 0).map fun y => zw (1 - y) else if tx b n p = 40 then dz b tl n f 5 (o + 1) (p + 1) 0 else (dz b tl n f 0 o p 0).bind fun y => (dz b tl n f 0 o ((pz b n f 0 o p).2 + 1) 0).bind fun w => rck (sgs (tx b n (pz b n f 0 o p).2)) y w)
/-- the class's steps of a piece of text, from base on; jumps of a rest go to tgt -/
def cdC (b st : Row) (n : Nat) : Nat → Nat → Nat → Nat → Nat → Nat → Prop
  | 0, _, _, _, _, _ => False
  | f + 1, m, o, p, base, tgt =>
    if m = 0 then cdC b st n f 2 o p base 0 ∧ cdC b st n f 1 o (pz b n f 2 o p).2 (base + ln b n f 2 o p) 0
    else if m = 1 then (if tx b n p = 43 ∨ tx b n p = 45 then cdC b st n f 2 o (p + 1) base 0 ∧ st (base + ln b n f 2 o (p + 1)) = ((sgs (tx b n p) + 4 : Nat) : Int) ∧ cdC b st n f 1 o (pz b n f 2 o (p + 1)).2 (base + ln b n f 2 o (p + 1) + 1) 0 else True)
    else if m = 2 then cdC b st n f 4 o p base 0 ∧ cdC b st n f 3 o (pz b n f 4 o p).2 (base + ln b n f 4 o p) 0
    else if m = 3 then (if tx b n p = 42 ∨ tx b n p = 47 ∨ tx b n p = 37 then cdC b st n f 4 o (p + 1) base 0 ∧ st (base + ln b n f 4 o (p + 1)) = ((sgs (tx b n p) + 4 : Nat) : Int) ∧ cdC b st n f 3 o (pz b n f 4 o (p + 1)).2 (base + ln b n f 4 o (p + 1) + 1) 0 else True)
    else if m = 4 then (if tx b n p = 91 then cdC b st n f 0 (o + 1) (p + 1) base 0 else if isg b n p = true then dgv b p (dgn b n p) < 100000 ∧ st base = ((1 + 16 * dgv b p (dgn b n p) : Nat) : Int) else (0 ≤ tlx (tx b n p) ∧ st base = ((2 + 16 * (tlx (tx b n p)).toNat : Nat) : Int)))
    else if m = 5 then cdC b st n f 7 o p base 0 ∧ cdC b st n f 6 o (pz b n f 7 o p).2 (base + ln b n f 7 o p) (base + ln b n f 7 o p + ln b n f 6 o (pz b n f 7 o p).2)
    else if m = 6 then (if tx b n p = 124 then st base = ((4 + 16 * tgt : Nat) : Int) ∧ cdC b st n f 7 o (p + 1) (base + 1) 0 ∧ cdC b st n f 6 o (pz b n f 7 o (p + 1)).2 (base + 1 + ln b n f 7 o (p + 1)) tgt else True)
    else if m = 7 then cdC b st n f 9 o p base 0 ∧ cdC b st n f 8 o (pz b n f 9 o p).2 (base + ln b n f 9 o p) (base + ln b n f 9 o p + ln b n f 8 o (pz b n f 9 o p).2)
    else if m = 8 then (if tx b n p = 38 then st base = ((5 + 16 * tgt : Nat) : Int) ∧ cdC b st n f 9 o (p + 1) (base + 1) 0 ∧ cdC b st n f 8 o (pz b n f 9 o (p + 1)).2 (base + 1 + ln b n f 9 o (p + 1)) tgt else True)
    else (if tx b n p = 33 then cdC b st n f 9 (o + 1) (p + 1) base 0 ∧ st (base + ln b n f 9 (o + 1) (p + 1)) = 3 else if tx b n p = 40 then cdC b st n f 5 (o + 1) (p + 1) base 0 else cdC b st n f 0 o p base 0 ∧ cdC b st n f 0 o ((pz b n f 0 o p).2 + 1) (base + ln b n f 0 o p) 0 ∧ 7 ≤ sgs (tx b n (pz b n f 0 o p).2) ∧ st (base + ln b n f 0 o p + ln b n f 0 o ((pz b n f 0 o p).2 + 1)) = ((sgs (tx b n (pz b n f 0 o p).2) + 4 : Nat) : Int))
theorem tlx_lt (c : Int) : tlx c < 10 := by
  unfold tlx
  repeat' split
  all_goals omega
theorem sgs_le (c : Int) : sgs c ≤ 9 := by
  unfold sgs
  repeat' split
  all_goals omega
