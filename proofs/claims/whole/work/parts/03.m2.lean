/-! A SMALL MACHINE OVER NUMBERED CELLS. Values: ints and longs as Int, references as numbers of cells (0: null). The memory: cell, slot ↦ Int. It runs the claim's own bytecode (decode), with the links resolved by tables. What it answers is tied to the machine by one theorem (the next parts); all else is proved over it. -/
abbrev TV : Type := Int ⊕ (Int ⊕ Nat)
abbrev tI (x : Int) : TV := Sum.inl x
abbrev tL (x : Int) : TV := Sum.inr (Sum.inl x)
abbrev tA (a : Nat) : TV := Sum.inr (Sum.inr a)
abbrev Mem : Type := Nat → Nat → Int
abbrev Wd : Type := Nat × Mem
abbrev Lo : Type := List (Option TV)
abbrev StR : Type := (Nat × Lo × List TV × Wd) ⊕ (Option TV ⊕ (Mth × List TV × List TV))
def mset (mem : Mem) (a k : Nat) (v : Int) : Mem := fun a' k' => if a' = a ∧ k' = k then v else mem a' k'
def w32 (x : Int) : Int := x.bmod 4294967296
def w64 (x : Int) : Int := x.bmod 18446744073709551616
def o32 (f : Int32 → Int32 → Int32) (x y : Int) : Int := (f (Int32.ofInt x) (Int32.ofInt y)).toInt
def o64 (f : Int64 → Int64 → Int64) (x y : Int) : Int := (f (Int64.ofInt x) (Int64.ofInt y)).toInt
def h64 (f : Int64 → Int32 → Int64) (x y : Int) : Int := (f (Int64.ofInt x) (Int32.ofInt y)).toInt
/-- the category of a value -/
def tcat : TV → Nat
  | .inr (.inl _) => 2
  | _ => 1
def tcats : List TV → Nat
  | [] => 0
  | v :: r => tcat v + tcats r
/-- a store at i takes away a long that began at i - 1 -/
def lkill (ls : Lo) : Nat → Lo
  | 0 => ls
  | j + 1 => match ls[j]? with
    | some (some (.inr (.inl _))) => ls.set j none
    | _ => ls
def lput1 (ls : Lo) (i : Nat) (v : TV) : Lo := (lkill ls i).set i (some v)
def lput2 (ls : Lo) (i : Nat) (v : TV) : Lo := ((lkill ls i).set i (some v)).set (i + 1) none
/-- the locals with which a method begins -/
def lent : List TV → Lo
  | [] => []
  | v :: r => if tcat v = 2 then some v :: none :: lent r else some v :: lent r
def lentry (n : Nat) (vs : List TV) : Lo := lent vs ++ List.replicate (n - (lent vs).length) none
def ztyp (t : Nat) (x : Int) : TV := match t with
  | 1 => tL x
  | 3 => tA x.toNat
  | _ => tI x
def zc (pc : Nat) (ls : Lo) (st : List TV) (w : Wd) : Option StR := some (.inl (pc, ls, st, w))
def zgo (pc : Nat) (off : Int) (ls : Lo) (st : List TV) (w : Wd) : Option StR := if 0 ≤ (pc : Int) + off then zc ((pc : Int) + off).toNat ls st w else none
def zcnd : ClassFile.Cond → Int → Int → Bool
  | .eq, x, y => decide (x = y)
  | .ne, x, y => decide (¬ x = y)
  | .lt, x, y => decide (x < y)
  | .ge, x, y => decide (y ≤ x)
  | .gt, x, y => decide (y < x)
  | .le, x, y => decide (x ≤ y)
def zif (c : ClassFile.Cond) (off : Int) (pc : Nat) (ls : Lo) (w : Wd) : List TV → Option StR
  | .inl x :: r => if 0 ≤ (pc : Int) + off then (if zcnd c x 0 then zc ((pc : Int) + off).toNat ls r w else zc (pc + 3) ls r w) else none
  | _ => none
def zicmp (c : ClassFile.Cond) (off : Int) (pc : Nat) (ls : Lo) (w : Wd) : List TV → Option StR
  | .inl y :: .inl x :: r => if 0 ≤ (pc : Int) + off then (if zcnd c x y then zc ((pc : Int) + off).toNat ls r w else zc (pc + 3) ls r w) else none
  | _ => none
def zii (f : Int → Int → Int) (pc : Nat) (ls : Lo) (w : Wd) : List TV → Option StR
  | .inl y :: .inl x :: r => zc (pc + 1) ls (tI (f x y) :: r) w
  | _ => none
def zll (f : Int → Int → Int) (pc : Nat) (ls : Lo) (w : Wd) : List TV → Option StR
  | .inr (.inl y) :: .inr (.inl x) :: r => zc (pc + 1) ls (tL (f x y) :: r) w
  | _ => none
def zli (f : Int → Int → Int) (pc : Nat) (ls : Lo) (w : Wd) : List TV → Option StR
  | .inl y :: .inr (.inl x) :: r => zc (pc + 1) ls (tL (f x y) :: r) w
  | _ => none
def ziid (f : Int → Int → Int) (pc : Nat) (ls : Lo) (w : Wd) : List TV → Option StR
  | .inl y :: .inl x :: r => if y = 0 then none else zc (pc + 1) ls (tI (f x y) :: r) w
  | _ => none
def zlld (f : Int → Int → Int) (pc : Nat) (ls : Lo) (w : Wd) : List TV → Option StR
  | .inr (.inl y) :: .inr (.inl x) :: r => if y = 0 then none else zc (pc + 1) ls (tL (f x y) :: r) w
  | _ => none
def zi (f : Int → Int) (pc : Nat) (ls : Lo) (w : Wd) : List TV → Option StR
  | .inl x :: r => zc (pc + 1) ls (tI (f x) :: r) w
  | _ => none
def zlcmp (x y : Int) : Int := if x < y then -1 else if x = y then 0 else 1
def zld (n i pc : Nat) (ls : Lo) (st : List TV) (w : Wd) (k : Nat) : Option StR := match ls[i]? with
  | some (some v) => match k, v with
    | 0, .inl x => zc (pc + n) ls (tI x :: st) w
    | 1, .inr (.inl x) => zc (pc + n) ls (tL x :: st) w
    | 2, .inr (.inr a) => if a = 0 then none else zc (pc + n) ls (tA a :: st) w
    | _, _ => none
  | _ => none
def zst (n i pc : Nat) (ls : Lo) (w : Wd) (k : Nat) : List TV → Option StR
  | .inl x :: r => if k = 0 ∧ i < ls.length then zc (pc + n) (lput1 ls i (tI x)) r w else none
  | .inr (.inl x) :: r => if k = 1 ∧ i + 1 < ls.length then zc (pc + n) (lput2 ls i (tL x)) r w else none
  | .inr (.inr a) :: r => if k = 2 ∧ i < ls.length ∧ a ≠ 0 then zc (pc + n) (lput1 ls i (tA a)) r w else none
  | _ => none
/-- an array's load, of the kinds ks -/
def zald (L : Nat) (ks : List Nat) (t pc : Nat) (ls : Lo) (w : Wd) : List TV → Option StR
  | .inl i :: .inr (.inr a) :: r => if (sh L a).1 ∈ ks ∧ 0 ≤ i ∧ i < ((sh L a).2 : Int) then zc (pc + 1) ls (ztyp t (w.2 a i.toNat) :: r) w else none
  | _ => none
def zast (L : Nat) (pc : Nat) (ls : Lo) (w : Wd) (o : Nat) : List TV → Option StR
  | .inl x :: .inl i :: .inr (.inr a) :: r =>
    if 0 ≤ i ∧ i < ((sh L a).2 : Int) then
      if o = 0 ∧ (sh L a).1 = 20 then zc (pc + 1) ls r (w.1, mset w.2 a i.toNat x)
      else if o = 1 ∧ (sh L a).1 = 22 then zc (pc + 1) ls r (w.1, mset w.2 a i.toNat (x.bmod 256))
      else if o = 1 ∧ (sh L a).1 = 23 ∧ (x = 0 ∨ x = 1) then zc (pc + 1) ls r (w.1, mset w.2 a i.toNat x)
      else none
    else none
  | .inr (.inl x) :: .inl i :: .inr (.inr a) :: r => if o = 2 ∧ (sh L a).1 = 21 ∧ 0 ≤ i ∧ i < ((sh L a).2 : Int) then zc (pc + 1) ls r (w.1, mset w.2 a i.toNat x) else none
  | .inr (.inr v) :: .inl i :: .inr (.inr a) :: r => if o = 3 ∧ (sh L a).1 = 24 ∧ (sh L v).1 = 1 ∧ 0 ≤ i ∧ i < ((sh L a).2 : Int) then zc (pc + 1) ls r (w.1, mset w.2 a i.toNat v) else none
  | _ => none
def zget (L : Nat) (m : Mth) (idx pc : Nat) (ls : Lo) (w : Wd) : List TV → Option StR
  | .inr (.inr a) :: r => match rF m.1 idx with
    | some (ci, k) => if (sh L a).1 = ci then zc (pc + 3) ls (ztyp (fty ci k) (w.2 a k) :: r) w else none
    | none => none
  | _ => none
def zisInit (m : Mth) : Bool := decide (m.2.2.1.name = "<init>")
def zput (L : Nat) (m : Mth) (idx pc : Nat) (ls : Lo) (w : Wd) : List TV → Option StR
  | v :: .inr (.inr a) :: r => match rF m.1 idx with
    | some (ci, k) =>
      if (sh L a).1 = ci ∧ (ffin ci k = true → (zisInit m = true ∧ m.1 = ci)) then
        match fty ci k, v with
        | 0, .inl x => zc (pc + 3) ls r (w.1, mset w.2 a k x)
        | 2, .inl x => if x = 0 ∨ x = 1 then zc (pc + 3) ls r (w.1, mset w.2 a k x) else none
        | 1, .inr (.inl x) => zc (pc + 3) ls r (w.1, mset w.2 a k x)
        | 3, .inr (.inr b) => if b = 0 then none else zc (pc + 3) ls r (w.1, mset w.2 a k b)
        | _, _ => none
      else none
    | none => none
  | _ => none
def zalen (L : Nat) (pc : Nat) (ls : Lo) (w : Wd) : List TV → Option StR
  | .inr (.inr a) :: r => if 20 ≤ (sh L a).1 ∧ (sh L a).1 ≤ 27 then zc (pc + 1) ls (tI ((sh L a).2 : Int) :: r) w else none
  | _ => none
def ztsw (pc : Nat) (ls : Lo) (r : List TV) (w : Wd) (x d : Int) : Int → List Int → Option StR
  | _, [] => zgo pc d ls r w
  | lo, o :: os => if x = lo then zgo pc o ls r w else ztsw pc ls r w x d (lo + 1) os
def zlsw (pc : Nat) (ls : Lo) (r : List TV) (w : Wd) (x d : Int) : List (Int × Int) → Option StR
  | [] => zgo pc d ls r w
  | (k, o) :: os => if x = k then zgo pc o ls r w else zlsw pc ls r w x d os
/-- the arguments off the stack, the first one first -/
def zargs (n : Nat) (st : List TV) : Option (List TV × List TV) := if n ≤ st.length then some ((st.take n).reverse, st.drop n) else none
def zcall (m' : Mth) (st : List TV) : Option StR := match zargs m'.2.1 st with
  | some (as, r) => if tcats r ≤ 8 ∧ m'.2.2.2.2.1 ≤ 40 ∧ (lent as).length ≤ m'.2.2.2.2.1 then some (.inr (.inr (m', as, r))) else none
  | none => none
def zrecv (L : Nat) (m' : Mth) (st : List TV) : Bool := match (st.take m'.2.1).reverse with
  | .inr (.inr a) :: _ => decide ((sh L a).1 = m'.1 ∧ m'.1 < 12)
  | _ => false
def zcopy (mem : Mem) (s sp d dp n : Nat) : Mem := fun a k => if a = d ∧ dp ≤ k ∧ k < dp + n then mem s (sp + (k - dp)) else mem a k
def zinv (L : Nat) (m : Mth) (idx pc : Nat) (ls : Lo) (st : List TV) (w : Wd) (o : Nat) : Option StR := match rM m.1 idx with
  | none => none
  | some (k, m') =>
    if o = 0 ∧ k = 0 then (if zrecv L m' st then zcall m' st else none)
    else if o = 1 ∧ (k = 1 ∨ k = 3) then zcall m' st
    else if o = 2 ∧ (k = 2 ∨ k = 4 ∨ k = 5) then (match (st.take m'.2.1).reverse with
      | .inr (.inr a) :: _ => if a = 0 then none else zcall m' st
      | _ => none)
    else if o = 0 ∧ k = 6 then (match st with
      | .inr (.inr a) :: r => if (sh L a).1 = 28 ∧ tcats r ≤ 8 then zc (pc + 3) ls (tI ((strs.getD (a - 901) []).length : Int) :: r) w else none
      | _ => none)
    else if o = 0 ∧ k = 7 then (match st with
      | .inl i :: .inr (.inr a) :: r => if (sh L a).1 = 28 ∧ tcats r ≤ 8 ∧ 0 ≤ i ∧ i < ((strs.getD (a - 901) []).length : Int) then zc (pc + 3) ls (tI ((strs.getD (a - 901) []).getD i.toNat 0) :: r) w else none
      | _ => none)
    else if o = 1 ∧ k = 8 then (match st with
      | .inl n :: .inl dp :: .inr (.inr d) :: .inl sp :: .inr (.inr s) :: r =>
        if tcats r ≤ 8 ∧ (sh L s).1 = 21 ∧ (sh L d).1 = 21 ∧ 0 ≤ n ∧ 0 ≤ dp ∧ 0 ≤ sp ∧ sp + n ≤ ((sh L s).2 : Int) ∧ dp + n ≤ ((sh L d).2 : Int) then zc (pc + 3) ls r (w.1, zcopy w.2 s sp.toNat d dp.toNat n.toNat) else none
      | _ => none)
    else if o = 1 ∧ k = 9 then (match st with
      | .inl y :: .inl x :: r => if tcats r ≤ 8 then zc (pc + 3) ls (tI (if x < y then y else x) :: r) w else none
      | _ => none)
    else if o = 1 ∧ k = 10 then (match st with
      | .inl y :: .inl x :: r => if tcats r ≤ 8 then zc (pc + 3) ls (tI (if y < x then y else x) :: r) w else none
      | _ => none)
    else none
def zatyp : ArrayType → Nat
  | .int => 20
  | .long => 21
  | .byte => 22
  | .boolean => 23
  | _ => 98
def znew (w : Wd) (n : Nat) (f : Nat → Nat → Int) : Wd := (w.1 + n, fun a k => if w.1 < a ∧ a ≤ w.1 + n then f (a - w.1) k else w.2 a k)
def zmna (L : Nat) (m : Mth) (idx pc : Nat) (ls : Lo) (w : Wd) : List TV → Option StR
  | .inl k :: .inl n :: r => match rC m.1 idx with
    | some kd => if (kd = 25 ∨ kd = 26) ∧ 0 ≤ n ∧ 0 ≤ k ∧ n ≤ 1000 ∧ k ≤ 1000 ∧ sh L (w.1 + 1) = (kd, n.toNat) ∧ ((List.range n.toNat).all fun i => decide (sh L (w.1 + 2 + i) = (kd - 5, k.toNat))) = true then zc (pc + 4) ls (tA (w.1 + 1) :: r) (znew w (n.toNat + 1) (fun i j => if i = 1 ∧ j < n.toNat then ((w.1 + 2 + j : Nat) : Int) else 0)) else none
    | none => none
  | _ => none
def zdup : Nat → List TV → Option (List TV)
  | 0, a :: r => if tcat a = 1 then some (a :: a :: r) else none
  | 1, a :: b :: r => if tcat a = 1 ∧ tcat b = 1 then some (a :: b :: a :: r) else none
  | 2, a :: b :: c :: r => if tcat a = 1 ∧ tcat b = 1 ∧ tcat c = 1 then some (a :: b :: c :: a :: r) else none
  | 3, a :: b :: r => if tcat a = 1 ∧ tcat b = 1 then some (a :: b :: a :: b :: r) else none
  | _, _ => none
def zdupR (k pc : Nat) (ls : Lo) (st : List TV) (w : Wd) : Option StR := match zdup k st with
  | some st' => zc (pc + 1) ls st' w
  | none => none
/-- one instruction -/
def stp (L : Nat) (m : Mth) (pc : Nat) (ls : Lo) (st : List TV) (w : Wd) : Option StR := match decode m.2.2.2.1 pc with
  | .error _ => none
  | .ok (i, len) => match i with
    | .iconst n => if len = 1 then zc (pc + 1) ls (tI (w32 n) :: st) w else none
    | .bipush n => if len = 2 then zc (pc + 2) ls (tI (n.bmod 256) :: st) w else none
    | .sipush n => if len = 3 then zc (pc + 3) ls (tI (n.bmod 65536) :: st) w else none
    | .lconst n => if len = 1 then zc (pc + 1) ls (tL ((n : Nat) : Int) :: st) w else none
    | .ldc idx => if len = 2 then (match rK m.1 idx with
      | some (0, v) => zc (pc + 2) ls (tI v :: st) w
      | some (2, v) => zc (pc + 2) ls (tA v.toNat :: st) w
      | _ => none) else none
    | .ldc2_w idx => if len = 3 then (match rK m.1 idx with
      | some (1, v) => zc (pc + 3) ls (tL v :: st) w
      | _ => none) else none
    | .iload i => if len = 2 then zld 2 i pc ls st w 0 else none
    | .iload_n i => if len = 1 then zld 1 i pc ls st w 0 else none
    | .lload i => if len = 2 then zld 2 i pc ls st w 1 else none
    | .lload_n i => if len = 1 then zld 1 i pc ls st w 1 else none
    | .aload i => if len = 2 then zld 2 i pc ls st w 2 else none
    | .aload_n i => if len = 1 then zld 1 i pc ls st w 2 else none
    | .istore i => if len = 2 then zst 2 i pc ls w 0 st else none
    | .istore_n i => if len = 1 then zst 1 i pc ls w 0 st else none
    | .lstore i => if len = 2 then zst 2 i pc ls w 1 st else none
    | .lstore_n i => if len = 1 then zst 1 i pc ls w 1 st else none
    | .astore i => if len = 2 then zst 2 i pc ls w 2 st else none
    | .astore_n i => if len = 1 then zst 1 i pc ls w 2 st else none
    | .iinc i n => if len = 3 ∧ i < ls.length then (match ls[i]? with
      | some (some (.inl x)) => zc (pc + 3) (lput1 ls i (tI (w32 (x + n)))) st w
      | _ => none) else none
    | .iadd => if len = 1 then zii (fun x y => w32 (x + y)) pc ls w st else none
    | .isub => if len = 1 then zii (fun x y => w32 (x - y)) pc ls w st else none
    | .imul => if len = 1 then zii (fun x y => w32 (x * y)) pc ls w st else none
    | .iand => if len = 1 then zii (o32 (fun x y => x &&& y)) pc ls w st else none
    | .ior => if len = 1 then zii (o32 (fun x y => x ||| y)) pc ls w st else none
    | .ixor => if len = 1 then zii (o32 (fun x y => x ^^^ y)) pc ls w st else none
    | .ishl => if len = 1 then zii (o32 (fun x y => x <<< (y &&& 31))) pc ls w st else none
    | .ishr => if len = 1 then zii (o32 (fun x y => x >>> (y &&& 31))) pc ls w st else none
    | .idiv => if len = 1 then ziid (fun x y => w32 (x.tdiv y)) pc ls w st else none
    | .irem => if len = 1 then ziid (fun x y => x.tmod y) pc ls w st else none
    | .ineg => if len = 1 then zi (fun x => w32 (-x)) pc ls w st else none
    | .i2b => if len = 1 then zi (fun x => x.bmod 256) pc ls w st else none
    | .i2s => if len = 1 then zi (fun x => x.bmod 65536) pc ls w st else none
    | .i2c => if len = 1 then zi (fun x => x % 65536) pc ls w st else none
    | .i2l => if len = 1 then (match st with
      | .inl x :: r => zc (pc + 1) ls (tL x :: r) w
      | _ => none) else none
    | .l2i => if len = 1 then (match st with
      | .inr (.inl x) :: r => zc (pc + 1) ls (tI (w32 x) :: r) w
      | _ => none) else none
    | .ladd => if len = 1 then zll (fun x y => w64 (x + y)) pc ls w st else none
    | .lsub => if len = 1 then zll (fun x y => w64 (x - y)) pc ls w st else none
    | .lmul => if len = 1 then zll (fun x y => w64 (x * y)) pc ls w st else none
    | .land => if len = 1 then zll (o64 (fun x y => x &&& y)) pc ls w st else none
    | .lor => if len = 1 then zll (o64 (fun x y => x ||| y)) pc ls w st else none
    | .lxor => if len = 1 then zll (o64 (fun x y => x ^^^ y)) pc ls w st else none
    | .lshl => if len = 1 then zli (h64 (fun x y => x <<< (y.toInt64 &&& 63))) pc ls w st else none
    | .lshr => if len = 1 then zli (h64 (fun x y => x >>> (y.toInt64 &&& 63))) pc ls w st else none
    | .lushr => if len = 1 then zli (h64 (fun x y => (x.toUInt64 >>> (y.toInt64.toUInt64 &&& Int64.toUInt64 63)).toInt64)) pc ls w st else none
    | .ldiv => if len = 1 then zlld (fun x y => w64 (x.tdiv y)) pc ls w st else none
    | .lrem => if len = 1 then zlld (fun x y => x.tmod y) pc ls w st else none
    | .lneg => if len = 1 then (match st with
      | .inr (.inl x) :: r => zc (pc + 1) ls (tL (w64 (-x)) :: r) w
      | _ => none) else none
    | .lcmp => if len = 1 then (match st with
      | .inr (.inl y) :: .inr (.inl x) :: r => zc (pc + 1) ls (tI (zlcmp x y) :: r) w
      | _ => none) else none
    | .ifCond c off => if len = 3 then zif c off pc ls w st else none
    | .if_icmp c off => if len = 3 then zicmp c off pc ls w st else none
    | .goto off => if len = 3 then zgo pc off ls st w else none
    | .tableswitch d lo hi offs => if hi + 1 - lo = (offs.size : Int) then (match st with
      | .inl x :: r => ztsw pc ls r w x d lo offs.toList
      | _ => none) else none
    | .lookupswitch d ps => if (ps.toList.zip (ps.toList.drop 1)).all (fun (a, next) => a.1 < next.1) = true then (match st with
      | .inl x :: r => zlsw pc ls r w x d ps.toList
      | _ => none) else none
    | .dup => if len = 1 then zdupR 0 pc ls st w else none
    | .dup_x1 => if len = 1 then zdupR 1 pc ls st w else none
    | .dup_x2 => if len = 1 then zdupR 2 pc ls st w else none
    | .dup2 => if len = 1 then zdupR 3 pc ls st w else none
    | .getfield idx => if len = 3 then zget L m idx pc ls w st else none
    | .putfield idx => if len = 3 then zput L m idx pc ls w st else none
    | .iaload => if len = 1 then zald L [20, 27] 0 pc ls w st else none
    | .laload => if len = 1 then zald L [21] 1 pc ls w st else none
    | .baload => if len = 1 then zald L [22, 23] 0 pc ls w st else none
    | .aaload => if len = 1 then zald L [24, 25, 26] 3 pc ls w st else none
    | .iastore => if len = 1 then zast L pc ls w 0 st else none
    | .bastore => if len = 1 then zast L pc ls w 1 st else none
    | .lastore => if len = 1 then zast L pc ls w 2 st else none
    | .aastore => if len = 1 then zast L pc ls w 3 st else none
    | .arraylength => if len = 1 then zalen L pc ls w st else none
    | .invokevirtual idx => if len = 3 then zinv L m idx pc ls st w 0 else none
    | .invokestatic idx => if len = 3 then zinv L m idx pc ls st w 1 else none
    | .invokespecial idx => if len = 3 then zinv L m idx pc ls st w 2 else none
    | .new idx => if len = 3 then (match rC m.1 idx with
      | some ci => if ci < 12 ∧ sh L (w.1 + 1) = (ci, fcount ci) then zc (pc + 3) ls (tA (w.1 + 1) :: st) (znew w 1 (fun _ _ => 0)) else none
      | none => none) else none
    | .newarray ty => if len = 2 then (match st with
      | .inl n :: r => if 0 ≤ n ∧ n ≤ 100000 ∧ zatyp ty < 30 ∧ sh L (w.1 + 1) = (zatyp ty, n.toNat) then zc (pc + 2) ls (tA (w.1 + 1) :: r) (znew w 1 (fun _ _ => 0)) else none
      | _ => none) else none
    | .anewarray idx => if len = 3 then (match st with
      | .inl n :: r => if 0 ≤ n ∧ n ≤ 100000 ∧ rC m.1 idx = some 1 ∧ sh L (w.1 + 1) = (24, n.toNat) then zc (pc + 3) ls (tA (w.1 + 1) :: r) (znew w 1 (fun _ _ => 0)) else none
      | _ => none) else none
    | .multianewarray idx 2 => if len = 4 then zmna L m idx pc ls w st else none
    | .ireturn => if len = 1 then (match st with
      | [.inl x] => if m.2.2.2.2.2 = some .int ∨ (m.2.2.2.2.2 = some .boolean ∧ (x = 0 ∨ x = 1)) then some (.inr (.inl (some (tI x)))) else none
      | _ => none) else none
    | .lreturn => if len = 1 then (match st with
      | [.inr (.inl x)] => if m.2.2.2.2.2 = some .long then some (.inr (.inl (some (tL x)))) else none
      | _ => none) else none
    | .areturn => if len = 1 then (match st with
      | [.inr (.inr a)] => if a ≠ 0 ∧ m.2.2.2.2.2 = some (.object "ThereAndBack$Text") then some (.inr (.inl (some (tA a)))) else none
      | _ => none) else none
    | .return_ => if len = 1 then (match st with
      | [] => if m.2.2.2.2.2 = none then some (.inr (.inl none)) else none
      | _ => none) else none
    | _ => none
/-- n: fuel; d: how many calls deeper it may go -/
def mrun (L : Nat) : Nat → Nat → Mth → Nat → Lo → List TV → Wd → Option (Option TV × Wd)
  | 0, _, _, _, _, _, _ => none
  | n + 1, d, m, pc, ls, st, w => match stp L m pc ls st w with
    | none => none
    | some (.inl (pc', ls', st', w')) => mrun L n d m pc' ls' st' w'
    | some (.inr (.inl r)) => some (r, w)
    | some (.inr (.inr (m', as, rest))) => match d with
      | 0 => none
      | d' + 1 => match mrun L n d' m' 0 (lentry m'.2.2.2.2.1 as) [] w with
        | none => none
        | some (r, w') => mrun L n (d' + 1) m (pc + 3) ls (r.toList ++ rest) w'
