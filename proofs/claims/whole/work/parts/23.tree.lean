/-! TREES of texts. Types by recursion on how deep brackets and braces may still go. -/
abbrev Ter (F : Type) : Type := F × List (Int × F)
abbrev Exq (F : Type) : Type := Ter F × List (Int × Ter F)
def FF : Nat → Type
  | 0 => Int ⊕ Int
  | b + 1 => (Int ⊕ Int) ⊕ (FF b ⊕ ((Int × Exq (FF b)) ⊕ (Exq (FF b) ⊕ (Int × Exq (FF b) × Exq (FF b)))))
def kL : Int ⊕ Int → List Int
  | .inl t => [t]
  | .inr r => [35, r]
def kT {F : Type} (kf : F → List Int) (x : Ter F) : List Int := kf x.1 ++ x.2.flatMap (fun p => p.1 :: kf p.2)
def kE {F : Type} (kf : F → List Int) (x : Exq F) : List Int := kT kf x.1 ++ x.2.flatMap (fun p => p.1 :: kT kf p.2)
def kF : (b : Nat) → FF b → List Int
  | 0, x => kL x
  | _ + 1, .inl x => kL x
  | b + 1, .inr (.inl x) => 45 :: kF b x
  | b + 1, .inr (.inr (.inl (r, e))) => r :: 91 :: (kE (kF b) e ++ [93])
  | b + 1, .inr (.inr (.inr (.inl e))) => 40 :: (kE (kF b) e ++ [41])
  | b + 1, .inr (.inr (.inr (.inr (c, e1, e2)))) => 40 :: (kE (kF b) e1 ++ c :: (kE (kF b) e2 ++ [41]))
def wL : Int ⊕ Int → Prop
  | .inl t => (-1000000000 ≤ t ∧ t < 0) ∨ kName t = true
  | .inr r => kRow r = true
def wT {F : Type} (wf : F → Prop) (x : Ter F) : Prop := wf x.1 ∧ ∀ p ∈ x.2, kPro p.1 = true ∧ wf p.2
def wE {F : Type} (wf : F → Prop) (x : Exq F) : Prop := wT wf x.1 ∧ ∀ p ∈ x.2, kSum p.1 = true ∧ wT wf p.2
def wF : (b : Nat) → FF b → Prop
  | 0, x => wL x
  | _ + 1, .inl x => wL x
  | b + 1, .inr (.inl x) => wF b x
  | b + 1, .inr (.inr (.inl (r, e))) => kRow r = true ∧ wE (wF b) e
  | b + 1, .inr (.inr (.inr (.inl e))) => wE (wF b) e
  | b + 1, .inr (.inr (.inr (.inr (c, e1, e2)))) => (c = 60 ∨ c = 61) ∧ wE (wF b) e1 ∧ wE (wF b) e2
/-- what an E comes to: names, sizes of rows (none: missing), items, barred items; a refusal, or the value and what was read (-1, k: the name k; r, i: item i of row r) -/
abbrev Env : Type := (Int → Option Int) × (Int → Option Int) × (Int → Int → Int) × (Int → Int → Bool)
abbrev Rs : Type := Except Int (Int × List (Int × Int))
def vL (E : Env) : Int ⊕ Int → Rs
  | .inl t => if t < 0 then .ok (-1 - t, []) else match E.1 (t - 97) with
    | none => .error 1
    | some v => .ok (v, [(-1, t - 97)])
  | .inr r => match E.2.1 (r - 65) with
    | none => .error 2
    | some n => .ok (n, [])
def opP (s a b : Int) : Int := if s = 42 then w64 (a * b) else if s = 38 then o64 (fun x y => x &&& y) a b else if s = 47 then w64 (a.tdiv b) else a.tmod b
def opS (s a b : Int) : Int := if s = 43 then w64 (a + b) else if s = 45 then w64 (a - b) else if s = 94 then o64 (fun x y => x ^^^ y) a b else o64 (fun x y => x ||| y) a b
def vT1 {F : Type} (vf : F → Rs) (v : Int) (q : List (Int × Int)) : List (Int × F) → Rs
  | [] => .ok (v, q)
  | (s, x) :: l => match vf x with
    | .error e => .error e
    | .ok (u, q') => if (s = 47 ∨ s = 37) ∧ u = 0 then .error 4 else vT1 vf (opP s v u) (q ++ q') l
def vT {F : Type} (vf : F → Rs) (x : Ter F) : Rs := match vf x.1 with
  | .error e => .error e
  | .ok (v, q) => vT1 vf v q x.2
def vE1 {F : Type} (vf : F → Rs) (v : Int) (q : List (Int × Int)) : List (Int × Ter F) → Rs
  | [] => .ok (v, q)
  | (s, x) :: l => match vT vf x with
    | .error e => .error e
    | .ok (u, q') => vE1 vf (opS s v u) (q ++ q') l
def vE {F : Type} (vf : F → Rs) (x : Exq F) : Rs := match vT vf x.1 with
  | .error e => .error e
  | .ok (v, q) => vE1 vf v q x.2
/-- which item R [ E ] tells: E's answer is given -/
def vI (E : Env) (r : Int) : Rs → Rs
  | .error e => .error e
  | .ok (i, q) => match E.2.1 r with
    | none => .error 2
    | some n => if i < 0 ∨ n ≤ i then .error 3 else .ok (i, q)
def vF (E : Env) : (b : Nat) → FF b → Rs
  | 0, x => vL E x
  | _ + 1, .inl x => vL E x
  | b + 1, .inr (.inl x) => match vF E b x with
    | .error e => .error e
    | .ok (v, q) => .ok (w64 (-v), q)
  | b + 1, .inr (.inr (.inl (r, e))) => match vI E (r - 65) (vE (vF E b) e) with
    | .error e => .error e
    | .ok (i, q) => if E.2.2.2 (r - 65) i = true then .error 6 else .ok (E.2.2.1 (r - 65) i, q ++ [(r - 65, i)])
  | b + 1, .inr (.inr (.inr (.inl e))) => vE (vF E b) e
  | b + 1, .inr (.inr (.inr (.inr (c, e1, e2)))) => match vE (vF E b) e1 with
    | .error e => .error e
    | .ok (v, q) => match vE (vF E b) e2 with
      | .error e => .error e
      | .ok (u, q') => .ok (if c = 60 then bI (v < u) else bI (v = u), q ++ q')
def upT {F G : Type} (u : F → G) (x : Ter F) : Ter G := (u x.1, x.2.map (fun p => (p.1, u p.2)))
def upE {F G : Type} (u : F → G) (x : Exq F) : Exq G := (upT u x.1, x.2.map (fun p => (p.1, upT u p.2)))
def upF : (b : Nat) → FF b → FF (b + 1)
  | 0, x => .inl x
  | _ + 1, .inl x => .inl x
  | b + 1, .inr (.inl x) => .inr (.inl (upF b x))
  | b + 1, .inr (.inr (.inl (r, e))) => .inr (.inr (.inl (r, upE (upF b) e)))
  | b + 1, .inr (.inr (.inr (.inl e))) => .inr (.inr (.inr (.inl (upE (upF b) e))))
  | b + 1, .inr (.inr (.inr (.inr (c, e1, e2)))) => .inr (.inr (.inr (.inr (c, upE (upF b) e1, upE (upF b) e2))))
/-! steps -/
abbrev EE (c : Nat) : Type := Exq (FF c)
abbrev PP (c : Nat) : Type := Int ⊕ (Int × EE c)
abbrev SS (c : Nat) : Type := (Int × Int × EE c) ⊕ ((PP c × Int × EE c) ⊕ ((PP c × PP c) ⊕ ((Int × Int × Int) ⊕ ((Int × Int × Int × EE c) ⊕ (Int × Int)))))
abbrev CC (c : Nat) (T : Type) : Type := (Int × EE c × T × T × EE c) ⊕ ((EE c × T × T) ⊕ (EE c × T))
def TB (c : Nat) : Nat → Type
  | 0 => Empty
  | b + 1 => List (SS c ⊕ CC c (TB c b))
def kX {c : Nat} (e : EE c) : List Int := kE (kF c) e
def kP {c : Nat} : PP c → List Int
  | .inl n => [n]
  | .inr (r, e) => r :: 91 :: (kX e ++ [93])
def kS {c : Nat} : SS c → List Int
  | .inl (k, n, e) => k :: n :: 61 :: (kX e ++ [59])
  | .inr (.inl (p, o, e)) => kP p ++ o :: (kX e ++ [59])
  | .inr (.inr (.inl (p, q))) => kP p ++ 133 :: (kP q ++ [59])
  | .inr (.inr (.inr (.inl (k, n, s)))) => [k, n, s, 59]
  | .inr (.inr (.inr (.inr (.inl (k, r, d, e))))) => k :: r :: d :: (kX e ++ [59])
  | .inr (.inr (.inr (.inr (.inr (k, n))))) => [k, n, 59]
def kC {c : Nat} {T : Type} (kb : T → List Int) : CC c T → List Int
  | .inl (k, e, a, b, e2) => k :: (kX e ++ 123 :: (kb a ++ 125 :: (if k = 208 then 209 else 212) :: 123 :: (kb b ++ 125 :: (if k = 208 then 210 else 213) :: (kX e2 ++ [59]))))
  | .inr (.inl (e, a, b)) => 216 :: (kX e ++ 123 :: (kb a ++ 125 :: 209 :: 123 :: (kb b ++ [125, 59])))
  | .inr (.inr (e, a)) => 215 :: (kX e ++ 123 :: (kb a ++ [125, 59]))
def k1 {c : Nat} {T : Type} (kb : T → List Int) : SS c ⊕ CC c T → List Int
  | .inl s => kS s
  | .inr s => kC kb s
def kB {c : Nat} : (b : Nat) → TB c b → List Int
  | 0, x => nomatch x
  | b + 1, l => List.flatMap (k1 (kB b)) l
def wX {c : Nat} (e : EE c) : Prop := wE (wF c) e
def wP {c : Nat} : PP c → Prop
  | .inl n => kName n = true
  | .inr (r, e) => kRow r = true ∧ wX e
/-- o: ordinary or not -/
def wS {c : Nat} (o : Bool) : SS c → Prop
  | .inl (k, n, e) => (if o = true then k = 214 else k = 200 ∨ k = 201) ∧ kName n = true ∧ wX e
  | .inr (.inl (p, op, e)) => o = false ∧ wP p ∧ (128 ≤ op ∧ op ≤ 132) ∧ wX e
  | .inr (.inr (.inl (p, q))) => o = false ∧ wP p ∧ wP q
  | .inr (.inr (.inr (.inl (k, n, s)))) => o = false ∧ (k = 202 ∨ k = 203) ∧ kName n = true ∧ kStk s = true
  | .inr (.inr (.inr (.inr (.inl (k, r, d, e))))) => o = false ∧ (k = 204 ∨ k = 205) ∧ kRow r = true ∧ kKind d = true ∧ wX e
  | .inr (.inr (.inr (.inr (.inr (k, n))))) => o = false ∧ (k = 206 ∨ k = 207) ∧ -10 ≤ n ∧ n < 0
def wC {c : Nat} {T : Type} (o : Bool) (wb : T → Prop) : CC c T → Prop
  | .inl (k, e, a, b, e2) => o = false ∧ (k = 208 ∨ k = 211) ∧ wX e ∧ wb a ∧ wb b ∧ wX e2
  | .inr (.inl (e, a, b)) => o = true ∧ wX e ∧ wb a ∧ wb b
  | .inr (.inr (e, a)) => o = true ∧ wX e ∧ wb a
def allL {α : Type} (P : α → Prop) (l : List α) : Prop := ∀ s ∈ l, P s
def w1 {c : Nat} {T : Type} (o : Bool) (wb : T → Prop) : SS c ⊕ CC c T → Prop
  | .inl s => wS o s
  | .inr s => wC o wb s
def wB {c : Nat} (o : Bool) : (b : Nat) → TB c b → Prop
  | 0, x => nomatch x
  | b + 1, l => allL (w1 o (wB o b)) l
/-- instructions -/
def nC {c : Nat} {T : Type} (nb : T → Nat) : CC c T → Nat
  | .inl (_, _, a, b, _) => nb a + nb b + 3
  | .inr (.inl (_, a, b)) => nb a + nb b + 3
  | .inr (.inr (_, a)) => nb a + 2
def n1 {c : Nat} {T : Type} (nb : T → Nat) : SS c ⊕ CC c T → Nat
  | .inl _ => 1
  | .inr s => nC nb s
def nB {c : Nat} : (b : Nat) → TB c b → Nat
  | 0, x => nomatch x
  | b + 1, l => (List.map (n1 (nB b)) l).sum
/-- the table: op, role, start, body, head, middle, tail -/
abbrev Ent : Type := Int × Int × Int × Int × Int × Int × Int
def opS1 {c : Nat} : SS c → Int
  | .inl (k, _, _) => k
  | .inr (.inl (_, o, _)) => o
  | .inr (.inr (.inl _)) => 133
  | .inr (.inr (.inr (.inl (k, _, _)))) => k
  | .inr (.inr (.inr (.inr (.inl (k, _, _, _))))) => k
  | .inr (.inr (.inr (.inr (.inr (k, _))))) => k
/-- where the E, or the second P, begins, from the step's start -/
def boS1 {c : Nat} : SS c → Nat
  | .inr (.inl (p, _, _)) => (kP p).length + 1
  | .inr (.inr (.inl (p, _))) => (kP p).length + 1
  | _ => 3
def tbC {c : Nat} {T : Type} (kb : T → List Int) (nb : T → Nat) (tb : T → Int → Int → List Ent) (i p : Int) : CC c T → List Ent
  | .inl (k, e, a, b, _) =>
    let i1 := i + (kX e).length + 2
    let m := p + nb a + 1
    let i2 := i1 + (kb a).length + 3
    let q := m + nb b + 1
    let i3 := i2 + (kb b).length + 1
    (k, 1, i, i + 1, p, m, q) :: (tb a i1 (p + 1) ++ (k, 2, i2 - 2, i2 - 1, p, m, q) :: (tb b i2 (m + 1) ++ [(k, 3, i3, i3 + 1, p, m, q)]))
  | .inr (.inl (e, a, b)) =>
    let i1 := i + (kX e).length + 2
    let m := p + nb a + 1
    let i2 := i1 + (kb a).length + 3
    let q := m + nb b + 1
    let i3 := i2 + (kb b).length + 1
    (216, 1, i, i + 1, p, m, q) :: (tb a i1 (p + 1) ++ (216, 2, i2 - 2, i2 - 1, p, m, q) :: (tb b i2 (m + 1) ++ [(216, 3, i3, i3 + 1, p, m, q)]))
  | .inr (.inr (e, a)) =>
    let i1 := i + (kX e).length + 2
    let q := p + nb a + 1
    let i3 := i1 + (kb a).length + 1
    (215, 1, i, i + 1, p, q, q) :: (tb a i1 (p + 1) ++ [(215, 3, i3, i3 + 1, p, q, q)])
def tb1 {c : Nat} {T : Type} (kb : T → List Int) (nb : T → Nat) (tb : T → Int → Int → List Ent) (i p : Int) : SS c ⊕ CC c T → List Ent
  | .inl s => [(opS1 s, 0, i, i + boS1 s, p, 0, 0)]
  | .inr s => tbC kb nb tb i p s
def tbL {c : Nat} {T : Type} (kb : T → List Int) (nb : T → Nat) (tb : T → Int → Int → List Ent) : List (SS c ⊕ CC c T) → Int → Int → List Ent
  | [], _, _ => []
  | s :: l, i, p => tb1 kb nb tb i p s ++ tbL kb nb tb l (i + (k1 kb s).length) (p + n1 nb s)
def tbB {c : Nat} : (b : Nat) → TB c b → Int → Int → List Ent
  | 0, x, _, _ => nomatch x
  | b + 1, l, i, p => tbL (kB b) (nB b) (tbB b) l i p
def dpC {c : Nat} {T : Type} (db : T → Nat) : CC c T → Nat
  | .inl (_, _, a, b, _) => max (db a) (db b) + 1
  | .inr (.inl (_, a, b)) => max (db a) (db b) + 1
  | .inr (.inr (_, a)) => db a + 1
def dpB {c : Nat} : (b : Nat) → TB c b → Nat
  | 0, x => nomatch x
  | b + 1, l => List.foldl (fun m (s : SS c ⊕ CC c (TB c b)) => match s with
    | .inl _ => m
    | .inr s => max m (dpC (dpB b) s)) 0 l
/-- mirrors -/
def mS {c : Nat} : SS c → SS c
  | .inl (k, n, e) => .inl (undo k, n, e)
  | .inr (.inl (p, o, e)) => .inr (.inl (p, undo o, e))
  | .inr (.inr (.inl (p, q))) => .inr (.inr (.inl (p, q)))
  | .inr (.inr (.inr (.inl (k, n, s)))) => .inr (.inr (.inr (.inl (undo k, n, s))))
  | .inr (.inr (.inr (.inr (.inl (k, r, d, e))))) => .inr (.inr (.inr (.inr (.inl (undo k, r, d, e)))))
  | .inr (.inr (.inr (.inr (.inr (k, n))))) => .inr (.inr (.inr (.inr (.inr (undo k, n)))))
def mC {c : Nat} {T : Type} (mb : T → T) : CC c T → CC c T
  | .inl (k, e, a, b, e2) => .inl (k, e2, mb a, mb b, e)
  | x => x
def m1 {c : Nat} {T : Type} (mb : T → T) : SS c ⊕ CC c T → SS c ⊕ CC c T
  | .inl s => .inl (mS s)
  | .inr s => .inr (mC mb s)
def mB {c : Nat} : (b : Nat) → TB c b → TB c b
  | 0, x => nomatch x
  | b + 1, l => (List.map (m1 (mB b)) l).reverse
