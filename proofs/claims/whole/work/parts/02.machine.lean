/-! A machine of our own over a small picture of memory: ints as Int, addresses as numbers from 0 on. -/
abbrev zv : Type := Nat × Int
abbrev zl : Type := Nat × Nat × List (Option Nat)
abbrev zh : Type := List zl × (Nat → Nat → Int)
abbrev zr : Type := Nat × Nat × Nat × Int
abbrev ze : Type := Nat × List Nat × Instr × Nat × zr
abbrev zc : Type := List ze
/-- own class, whether a constructor, locals, code -/
abbrev zM : Type := Nat × Bool × Nat × zc
abbrev zo : Type := (Int × zh) ⊕ ((Bool × Nat × List zv × List zv × zh) ⊕ ((Nat × Nat × List zv × List zv × List zv × zh) ⊕ (Int × List (Int × Nat) × Nat × List zv × List zv × zh)))
def zw (x : Int) : Int := (x + 2147483648) % 4294967296 - 2147483648
def zwl (x : Int) : Int := (x + 9223372036854775808) % 18446744073709551616 - 9223372036854775808
def z_and (a b : Int) : Int := (Int32.ofInt a &&& Int32.ofInt b).toInt
def z_or (a b : Int) : Int := (Int32.ofInt a ||| Int32.ofInt b).toInt
def z_xor (a b : Int) : Int := (Int32.ofInt a ^^^ Int32.ofInt b).toInt
def z_shl (a b : Int) : Int := (Int32.ofInt a <<< (Int32.ofInt b &&& 31)).toInt
def z_shr (a b : Int) : Int := (Int32.ofInt a >>> (Int32.ofInt b &&& 31)).toInt
def z_ushr (a b : Int) : Int := ((Int32.ofInt a).toUInt32 >>> ((Int32.ofInt b).toUInt32 &&& Int32.toUInt32 31)).toInt32.toInt
def z_div (a b : Int) : Int := zw (Int.tdiv a b)
def z_rem (a b : Int) : Int := Int.tmod a b
def z_i2b (a : Int) : Int := (Int32.ofInt a).toInt8.toInt32.toInt
def z_land (a b : Int) : Int := (Int64.ofInt a &&& Int64.ofInt b).toInt
def z_lor (a b : Int) : Int := (Int64.ofInt a ||| Int64.ofInt b).toInt
def z_lshl (a b : Int) : Int := (Int64.ofInt a <<< ((Int32.ofInt b).toInt64 &&& 63)).toInt
def z_lcmp (a b : Int) : Int := if a < b then -1 else if a = b then 0 else 1
def zcmp (c : Jvm.ClassFile.Cond) (a b : Int) : Bool := match c with
  | .eq => decide (a = b)
  | .ne => !decide (a = b)
  | .lt => decide (a < b)
  | .ge => decide (b ≤ a)
  | .gt => decide (b < a)
  | .le => decide (a ≤ b)
def zup (f : Nat → Nat → Int) (a k : Nat) (v : Int) : Nat → Nat → Int := fun b j => if b = a ∧ j = k then v else f b j
def zclr (f : Nat → Nat → Int) (a : Nat) : Nat → Nat → Int := fun b j => if b = a then 0 else f b j
def zcpy (f : Nat → Nat → Int) (a sp b dp n : Nat) : Nat → Nat → Int := fun c j => if c = b ∧ dp ≤ j ∧ j < dp + n then f a (sp + (j - dp)) else f c j
def zat (h : zh) (a : Int) : zl := h.1.getD a.toNat (99, 0, [])
/-- the kinds of fields: 0 an int, 1 a reference that stays, 2 a boolean, 3 a reference that changes -/
def zfts : List (List Nat) := [[1, 1, 1, 0], [1, 1, 1, 1, 1, 1, 0, 0], [1, 1, 0], [1, 1, 1, 1, 1, 0, 0, 0, 0], [0, 0, 1, 1, 1, 1, 1, 1, 2, 2], [1, 1, 1, 0, 1, 0, 1, 0, 2], [3, 3], [0, 1, 1, 1, 1, 1, 1, 0], [1, 0, 0, 0, 0], [1, 0, 1], [1, 1, 1, 1, 1, 1, 3, 3, 1, 1, 1, 1, 1, 1, 1, 2, 0, 0, 0, 0], [0, 0, 1, 1, 1, 1, 1, 1, 1, 0, 0, 0, 0, 0, 0, 0, 0, 0, 1, 1, 1, 1, 0, 0, 0, 0, 0, 0, 1, 1, 1, 1, 1, 1, 1, 1, 1, 1, 1, 1, 1, 1, 1, 1, 1, 1, 1, 1, 0, 1, 1, 1, 1, 0, 0, 0, 1, 1, 0, 1, 1, 1, 1, 1, 1, 1, 1, 0, 1, 1, 1, 1, 1, 1, 1, 1, 2, 0, 0, 0, 1, 1, 1, 1, 1, 1, 1, 1, 1, 1, 1, 1]]
def zft (c k : Nat) : Nat := (zfts.getD c []).getD k 9
def zcat (st : List zv) : Nat := (st.map fun v => if v.1 = 1 then 2 else 1).sum
def zset (ls : List zv) (n : Nat) (v : zv) : List zv := match n with
  | 0 => ls.set 0 v
  | k + 1 => if (ls.getD k (9, 0)).1 = 1 then (ls.set k (9, 0)).set (k + 1) v else ls.set (k + 1) v
def zset2 (ls : List zv) (n : Nat) (v : zv) : List zv := (zset ls n v).set (n + 1) (9, 0)
def zno : Bool × zo := (false, .inl (0, ([], fun _ _ => 0)))
abbrev znx (ls st : List zv) (h : zh) : Bool × zo := (true, .inr (.inl (false, 0, ls, st, h)))
abbrev zng (g : Bool) (ls st : List zv) (h : zh) : Bool × zo := (g, .inr (.inl (false, 0, ls, st, h)))
def zsl (pc : Nat) : Int → List Int → List (Int × Nat)
  | _, [] => []
  | v, o :: os => (v, ((pc : Int) + o).toNat) :: zsl pc (v + 1) os
/-- where one of six texts has a sign -/
def zstr : List (List Int) := [[102, 112, 118, 100, 119], [116, 105, 109, 115, 110, 113, 114, 120, 104, 121], [60, 62, 61], [43, 45], [42, 47, 37], [43, 45, 42, 47, 37, 60, 62, 61]]
def zplf (x : Int) : List Int → Int → Int
  | [], _ => -1
  | c :: cs, k => if c = x then k else zplf x cs (k + 1)
def zpl (i x : Int) : Int := zplf x (zstr.getD i.toNat []) 0
def z_ld (t : Nat) (n : Nat) (ls st : List zv) (h : zh) : Bool × zo := match ls.getD n (9, 0) with
  | (u, x) => zng (u == t) ls ((t, x) :: st) h
def z_lda (n : Nat) (ls st : List zv) (h : zh) : Bool × zo := match ls.getD n (9, 0) with
  | (u, x) => zng (u == 2 || u == 3 || u == 4) ls ((u, x) :: st) h
def z_sti (n : Nat) (ls st : List zv) (h : zh) : Bool × zo := match st with
  | (t, x) :: s => zng (t == 0 && decide (n < ls.length)) (zset ls n (0, x)) s h
  | _ => zno
def z_stl (n : Nat) (ls st : List zv) (h : zh) : Bool × zo := match st with
  | (t, x) :: s => zng (t == 1 && decide (n + 1 < ls.length)) (zset2 ls n (1, x)) s h
  | _ => zno
def z_sta (n : Nat) (ls st : List zv) (h : zh) : Bool × zo := match st with
  | (t, x) :: s => zng ((t == 2 || t == 3 || t == 4) && decide (n < ls.length)) (zset ls n (t, x)) s h
  | _ => zno
def z_b2 (f : Int → Int → Int) (ls st : List zv) (h : zh) : Bool × zo := match st with
  | (t, y) :: (u, x) :: s => zng (t == 0 && u == 0) ls ((0, f x y) :: s) h
  | _ => zno
def z_b2g (f : Int → Int → Int) (ls st : List zv) (h : zh) : Bool × zo := match st with
  | (t, y) :: (u, x) :: s => zng (t == 0 && u == 0 && !decide (y = 0)) ls ((0, f x y) :: s) h
  | _ => zno
def z_l2 (f : Int → Int → Int) (ls st : List zv) (h : zh) : Bool × zo := match st with
  | (t, y) :: (u, x) :: s => zng (t == 1 && u == 1) ls ((1, f x y) :: s) h
  | _ => zno
def z_ix (h : zh) (kd : Nat) (a i : Int) : Bool := decide (0 ≤ a) && ((zat h a).1 == kd && (decide (0 ≤ i) && decide (i < ((zat h a).2.1 : Int))))
def z_gf (r : zr) (ls st : List zv) (h : zh) : Bool × zo := match st with
  | (t, a) :: s => match r.2.2.2 with
    | 1 => zng (t == 2 && (decide (0 ≤ a) && ((zat h a).1 == r.2.1 && (decide (r.2.2.1 < (zat h a).2.1) && ((zat h a).2.2.getD r.2.2.1 none).isSome)))) ls ((2, ((((zat h a).2.2.getD r.2.2.1 none).getD 0 : Nat) : Int)) :: s) h
    | 3 => zng (t == 2 && (decide (0 ≤ a) && ((zat h a).1 == r.2.1 && (decide (r.2.2.1 < (zat h a).2.1) && decide (1 ≤ h.2 a.toNat r.2.2.1))))) ls ((2, h.2 a.toNat r.2.2.1 - 1) :: s) h
    | _ => zng (t == 2 && (decide (0 ≤ a) && ((zat h a).1 == r.2.1 && decide (r.2.2.1 < (zat h a).2.1)))) ls ((0, h.2 a.toNat r.2.2.1) :: s) h
  | _ => zno
def z_pf (own : Nat) (ini : Bool) (r : zr) (ls st : List zv) (h : zh) : Bool × zo := match st with
  | (t, v) :: (u, a) :: s => match r.2.2.2 with
    | 1 => zng (u == 2 && (t == 2 && (decide (0 ≤ a) && ((zat h a).1 == r.2.1 && (decide (r.2.2.1 < (zat h a).2.1) && (decide (0 ≤ v) && (decide (v.toNat < h.1.length) && (ini && own == r.2.1)))))))) ls s (h.1.set a.toNat ((zat h a).1, (zat h a).2.1, (zat h a).2.2.set r.2.2.1 (some v.toNat)), h.2)
    | 3 => zng (u == 2 && (t == 2 && (decide (0 ≤ a) && ((zat h a).1 == r.2.1 && (decide (r.2.2.1 < (zat h a).2.1) && (decide (0 ≤ v) && decide (v.toNat < h.1.length))))))) ls s (h.1, zup h.2 a.toNat r.2.2.1 (v + 1))
    | 2 => zng (u == 2 && (t == 0 && (decide (0 ≤ a) && ((zat h a).1 == r.2.1 && (decide (r.2.2.1 < (zat h a).2.1) && decide (v = 0 ∨ v = 1)))))) ls s (h.1, zup h.2 a.toNat r.2.2.1 v)
    | _ => zng (u == 2 && (t == 0 && (decide (0 ≤ a) && ((zat h a).1 == r.2.1 && decide (r.2.2.1 < (zat h a).2.1))))) ls s (h.1, zup h.2 a.toNat r.2.2.1 v)
  | _ => zno
def z_al (X : Nat → Int) (XL : Nat) (ls st : List zv) (h : zh) : Bool × zo := match st with
  | (t, i) :: (u, a) :: s => match u with
    | 4 => zng (t == 0 && (decide (0 ≤ i) && decide (i < (XL : Int)))) ls ((0, X i.toNat) :: s) h
    | _ => zng (u == 2 && t == 0 && z_ix h 12 a i) ls ((0, h.2 a.toNat i.toNat) :: s) h
  | _ => zno
def z_all (kd tg : Nat) (ls st : List zv) (h : zh) : Bool × zo := match st with
  | (t, i) :: (u, a) :: s => zng (u == 2 && t == 0 && z_ix h kd a i) ls ((tg, h.2 a.toNat i.toNat) :: s) h
  | _ => zno
def z_bal (r : zr) (ls st : List zv) (h : zh) : Bool × zo := match r.2.1 with
  | 14 => z_all 14 0 ls st h
  | 15 => z_all 15 0 ls st h
  | _ => zno
def z_aal (ls st : List zv) (h : zh) : Bool × zo := match st with
  | (t, i) :: (u, a) :: s => zng (u == 2 && t == 0 && ((z_ix h 16 a i || (z_ix h 17 a i || z_ix h 18 a i)) && ((zat h a).2.2.getD i.toNat none).isSome)) ls ((2, ((((zat h a).2.2.getD i.toNat none).getD 0 : Nat) : Int)) :: s) h
  | _ => zno
def z_as (kd tg : Nat) (f : Int → Int) (ls st : List zv) (h : zh) : Bool × zo := match st with
  | (w, v) :: (t, i) :: (u, a) :: s => zng (w == tg && u == 2 && t == 0 && z_ix h kd a i) ls s (h.1, zup h.2 a.toNat i.toNat (f v))
  | _ => zno
def z_bas (r : zr) (ls st : List zv) (h : zh) : Bool × zo := match r.2.1 with
  | 14 => z_as 14 0 z_i2b ls st h
  | 15 => z_as 15 0 (fun v => z_and v 1) ls st h
  | _ => zno
def zec (kd : Nat) : Nat := if kd = 16 then 1 else if kd = 17 then 3 else 2
def z_aas (ls st : List zv) (h : zh) : Bool × zo := match st with
  | (w, v) :: (t, i) :: (u, a) :: s => zng (w == 2 && u == 2 && t == 0 && ((z_ix h 16 a i || (z_ix h 17 a i || z_ix h 18 a i)) && (decide (0 ≤ v) && (decide (v.toNat < h.1.length) && (zat h v).1 == zec (zat h a).1)))) ls s (h.1.set a.toNat ((zat h a).1, (zat h a).2.1, (zat h a).2.2.set i.toNat (some v.toNat)), h.2)
  | _ => zno
def z_len (XL : Nat) (ls st : List zv) (h : zh) : Bool × zo := match st with
  | (u, a) :: s => match u with
    | 4 => znx ls ((0, (XL : Int)) :: s) h
    | _ => zng (u == 2 && (decide (0 ≤ a) && (decide (12 ≤ (zat h a).1) && decide ((zat h a).1 < 19)))) ls ((0, ((zat h a).2.1 : Int)) :: s) h
  | _ => zno
def z_na (kd : Nat) (ls st : List zv) (h : zh) : Bool × zo := match st with
  | (t, n) :: s => zng (t == 0 && (decide (0 ≤ n) && decide (n ≤ 5000))) ls ((2, (h.1.length : Int)) :: s) (h.1 ++ [(kd, n.toNat, if kd < 16 then [] else List.replicate n.toNat none)], zclr h.2 h.1.length)
  | _ => zno
def z_nw (ci N : Nat) (ls st : List zv) (h : zh) : Bool × zo := znx ls ((2, (h.1.length : Int)) :: st) (h.1 ++ [(ci, N, List.replicate N none)], zclr h.2 h.1.length)
def z_cl (r : zr) (ls st : List zv) (h : zh) : Bool × zo := match r.1 with
  | 4 => match st with
    | (t, _) :: s => zng (t == 2 && decide (zcat s ≤ 8)) ls s h
    | _ => zno
  | 5 => match st with
    | (t1, n) :: (t2, dp) :: (t3, b) :: (t4, sp) :: (t5, a) :: s => zng (t1 == 0 && t2 == 0 && t3 == 2 && t4 == 0 && t5 == 2 && (decide (0 ≤ a) && (decide (0 ≤ b) && ((zat h a).1 == 12 && ((zat h b).1 == 12 && (decide (0 ≤ n) && (decide (0 ≤ sp) && (decide (0 ≤ dp) && (decide (sp + n ≤ ((zat h a).2.1 : Int)) && (decide (dp + n ≤ ((zat h b).2.1 : Int)) && decide (zcat s ≤ 8))))))))))) ls s (h.1, zcpy h.2 a.toNat sp.toNat b.toNat dp.toNat n.toNat)
    | _ => zno
  | 6 => match st with
    | (t, x) :: (u, i) :: s => zng (t == 0 && (u == 3 && (decide (0 ≤ i) && (decide (i < 6) && decide (zcat s ≤ 8))))) ls ((0, zpl i x) :: s) h
    | _ => zno
  | k => (decide (1 ≤ k) && (decide (k ≤ 3) && (decide (r.2.2.1 ≤ st.length) && (decide (zcat (st.drop r.2.2.1) ≤ 8) && (r.2.2.2 == -1 || (match (st.take r.2.2.1).reverse with | (t, a) :: _ => t == 2 && (decide (0 ≤ a) && ((zat h a).1 : Int) == r.2.2.2) | _ => false))))), .inr (.inr (.inl (k, r.2.1, (st.take r.2.2.1).reverse, ls, st.drop r.2.2.1, h))))
/-- Math.min, max, abs of ints, min of longs -/
def z_mt (r : zr) (ls st : List zv) (h : zh) : Bool × zo := match r.1 with
  | 14 => match st with
    | (t, y) :: (u, x) :: s => zng (t == 0 && (u == 0 && decide (zcat s ≤ 8))) ls ((0, if y < x then y else x) :: s) h
    | _ => zno
  | 15 => match st with
    | (t, y) :: (u, x) :: s => zng (t == 0 && (u == 0 && decide (zcat s ≤ 8))) ls ((0, if x < y then y else x) :: s) h
    | _ => zno
  | 16 => match st with
    | (t, x) :: s => zng (t == 0 && decide (zcat s ≤ 8)) ls ((0, if 0 ≤ x then x else zw (0 - x)) :: s) h
    | _ => zno
  | 17 => match st with
    | (t, y) :: (u, x) :: s => zng (t == 1 && (u == 1 && decide (zcat s ≤ 8))) ls ((1, if y < x then y else x) :: s) h
    | _ => zno
  | _ => zno
def z_is (r : zr) (ls st : List zv) (h : zh) : Bool × zo := bif decide (14 ≤ r.1) then z_mt r ls st h else z_cl r ls st h
/-- one instruction: a guard, and what comes of it -/
def zs1 (own : Nat) (ini : Bool) (X : Nat → Int) (XL : Nat) (i : Instr) (pc : Nat) (r : zr) (ls st : List zv) (h : zh) : Bool × zo := match i with
  | .iconst n => zng (decide (-128 ≤ n) && decide (n ≤ 127)) ls ((0, n) :: st) h
  | .bipush n => zng (decide (-128 ≤ n) && decide (n ≤ 127)) ls ((0, n) :: st) h
  | .sipush n => zng (decide (-32768 ≤ n) && decide (n ≤ 32767)) ls ((0, n) :: st) h
  | .lconst n => znx ls ((1, (n.val : Int)) :: st) h
  | .ldc _ => match r.1 with
    | 9 => znx ls ((0, r.2.2.2) :: st) h
    | 11 => znx ls ((3, (r.2.1 : Int)) :: st) h
    | _ => zno
  | .ldc_w _ => match r.1 with
    | 9 => znx ls ((0, r.2.2.2) :: st) h
    | 11 => znx ls ((3, (r.2.1 : Int)) :: st) h
    | _ => zno
  | .ldc2_w _ => match r.1 with
    | 10 => znx ls ((1, r.2.2.2) :: st) h
    | _ => zno
  | .iload n => z_ld 0 n ls st h
  | .iload_n n => z_ld 0 n.val ls st h
  | .lload n => z_ld 1 n ls st h
  | .lload_n n => z_ld 1 n.val ls st h
  | .aload n => z_lda n ls st h
  | .aload_n n => z_lda n.val ls st h
  | .istore n => z_sti n ls st h
  | .istore_n n => z_sti n.val ls st h
  | .lstore n => z_stl n ls st h
  | .lstore_n n => z_stl n.val ls st h
  | .astore n => z_sta n ls st h
  | .astore_n n => z_sta n.val ls st h
  | .iinc n c => match ls.getD n (9, 0) with
    | (u, x) => zng (u == 0 && decide (n < ls.length)) (zset ls n (0, zw (x + c))) st h
  | .dup => match st with
    | v :: s => zng (!(v.1 == 1)) ls (v :: v :: s) h
    | _ => zno
  | .dup2 => match st with
    | v :: w :: s => zng (!(v.1 == 1) && !(w.1 == 1)) ls (v :: w :: v :: w :: s) h
    | _ => zno
  | .pop => match st with
    | v :: s => zng (!(v.1 == 1)) ls s h
    | _ => zno
  | .iadd => z_b2 (fun x y => zw (x + y)) ls st h
  | .isub => z_b2 (fun x y => zw (x - y)) ls st h
  | .imul => z_b2 (fun x y => zw (x * y)) ls st h
  | .idiv => z_b2g z_div ls st h
  | .irem => z_b2g z_rem ls st h
  | .iand => z_b2 z_and ls st h
  | .ior => z_b2 z_or ls st h
  | .ixor => z_b2 z_xor ls st h
  | .ishl => z_b2 z_shl ls st h
  | .ishr => z_b2 z_shr ls st h
  | .iushr => z_b2 z_ushr ls st h
  | .ineg => match st with
    | (t, x) :: s => zng (t == 0) ls ((0, zw (-x)) :: s) h
    | _ => zno
  | .i2b => match st with
    | (t, x) :: s => zng (t == 0) ls ((0, z_i2b x) :: s) h
    | _ => zno
  | .i2l => match st with
    | (t, x) :: s => zng (t == 0) ls ((1, x) :: s) h
    | _ => zno
  | .ladd => z_l2 (fun x y => zwl (x + y)) ls st h
  | .lsub => z_l2 (fun x y => zwl (x - y)) ls st h
  | .lmul => z_l2 (fun x y => zwl (x * y)) ls st h
  | .land => z_l2 z_land ls st h
  | .lor => z_l2 z_lor ls st h
  | .lshl => match st with
    | (t, y) :: (u, x) :: s => zng (t == 0 && u == 1) ls ((1, z_lshl x y) :: s) h
    | _ => zno
  | .lcmp => match st with
    | (t, y) :: (u, x) :: s => zng (t == 1 && u == 1) ls ((0, z_lcmp x y) :: s) h
    | _ => zno
  | .ifCond c off => match st with
    | (t, x) :: s => (t == 0 && decide ((pc : Int) + off = (r.2.1 : Int)), .inr (.inl (zcmp c x 0, r.2.1, ls, s, h)))
    | _ => zno
  | .if_icmp c off => match st with
    | (t, y) :: (u, x) :: s => (t == 0 && (u == 0 && decide ((pc : Int) + off = (r.2.1 : Int))), .inr (.inl (zcmp c x y, r.2.1, ls, s, h)))
    | _ => zno
  | .goto off => (decide ((pc : Int) + off = (r.2.1 : Int)), .inr (.inl (true, r.2.1, ls, st, h)))
  | .tableswitch d lo hi offs => match st with
    | (t, x) :: s => (t == 0 && (decide (hi = lo + (offs.toList.length : Int) - 1) && (decide (0 ≤ (pc : Int) + d) && offs.toList.all (fun o => decide (0 ≤ (pc : Int) + o)))), .inr (.inr (.inr (x, zsl pc lo offs.toList, ((pc : Int) + d).toNat, ls, s, h))))
    | _ => zno
  | .lookupswitch d ps => match st with
    | (t, x) :: s => (t == 0 && ((ps.toList.zip (ps.toList.drop 1)).all (fun (a, next) => a.1 < next.1) && (decide (0 ≤ (pc : Int) + d) && ps.toList.all (fun o => decide (0 ≤ (pc : Int) + o.2)))), .inr (.inr (.inr (x, ps.toList.map (fun q => (q.1, ((pc : Int) + q.2).toNat)), ((pc : Int) + d).toNat, ls, s, h))))
    | _ => zno
  | .getfield _ => z_gf r ls st h
  | .putfield _ => z_pf own ini r ls st h
  | .iaload => z_al X XL ls st h
  | .laload => z_all 13 1 ls st h
  | .baload => z_bal r ls st h
  | .aaload => z_aal ls st h
  | .iastore => z_as 12 0 (fun v => v) ls st h
  | .lastore => z_as 13 1 (fun v => v) ls st h
  | .bastore => z_bas r ls st h
  | .aastore => z_aas ls st h
  | .arraylength => z_len XL ls st h
  | .newarray .int => z_na 12 ls st h
  | .newarray .long => z_na 13 ls st h
  | .newarray .byte => z_na 14 ls st h
  | .newarray .boolean => z_na 15 ls st h
  | .anewarray _ => z_na r.2.1 ls st h
  | .new _ => z_nw r.2.1 r.2.2.1 ls st h
  | .invokestatic _ => z_is r ls st h
  | .invokevirtual _ => z_cl r ls st h
  | .invokespecial _ => z_cl r ls st h
  | .ireturn => match st with
    | [(t, x)] => (t == 0 && (r.2.1 == 0 || decide (x = 0 ∨ x = 1)), .inl (x, h))
    | _ => zno
  | .lreturn => match st with
    | [(t, x)] => (t == 1, .inl (x, h))
    | _ => zno
  | .return_ => match st with
    | [] => (true, .inl (0, h))
    | _ => zno
  | _ => zno
