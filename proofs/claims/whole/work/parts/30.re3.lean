/-! Reader: steps, in numbers -/
abbrev Sg : Type := Int × Int × Int
abbrev PS (α : Type) : Type := Except ((Int × Int × Int) × Sg) (α × Int × Sg)
def lf {α : Type} (σ : Sg) : PR α → PS α
  | .error e => .error (e, σ)
  | .ok (x, j) => .ok (x, j, σ)
def hasTk (T : Int → Int) (tk : Int) : Nat → Int → Bool
  | 0, _ => false
  | n + 1, i => decide (T i = tk) || hasTk T tk n (i + 1)
section
variable (c : Nat) (T : Int → Int)
def pX (i : Int) : PR (EE c) := pE T (pF T c) i
def pP (i : Int) : PR (PP c) :=
  if kRow (T i) = true then (if T (i + 1) = 91 then (match pX c T (i + 2) with
      | .error e => .error e
      | .ok (e, j) => if T j = 93 then .ok (.inr (T i, e), j + 1) else .error (1, j, j)) else .error (1, i + 1, i + 1))
  else if kName (T i) = true then .ok (.inl (T i), i + 1) else .error (1, i, i)
def pChg (i : Int) : PR (SS c) := match pP c T i with
  | .error e => .error e
  | .ok (p, j) => if kPair (T j) = true then (if T j = 133 then (match pP c T (j + 1) with
        | .error e => .error e
        | .ok (q, k) => .ok (.inr (.inr (.inl (p, q))), k))
      else (match pX c T (j + 1) with
        | .error e => .error e
        | .ok (e, k) => .ok (.inr (.inl (p, T j, e)), k))) else .error (1, j, j)
def pLet (i : Int) : PR (SS c) :=
  if kName (T (i + 1)) = true then (if T (i + 2) = 61 then (match pX c T (i + 3) with
      | .error e => .error e
      | .ok (e, j) => .ok (.inl (T i, T (i + 1), e), j)) else .error (1, i + 2, i + 2)) else .error (1, i + 1, i + 1)
def pPsh (i : Int) : PR (SS c) :=
  if kName (T (i + 1)) = true then (if kStk (T (i + 2)) = true then .ok (.inr (.inr (.inr (.inl (T i, T (i + 1), T (i + 2))))), i + 3) else .error (1, i + 2, i + 2)) else .error (1, i + 1, i + 1)
def pNew (i : Int) : PR (SS c) :=
  if kRow (T (i + 1)) = true then (if kKind (T (i + 2)) = true then (match pX c T (i + 3) with
      | .error e => .error e
      | .ok (e, j) => .ok (.inr (.inr (.inr (.inr (.inl (T i, T (i + 1), T (i + 2), e))))), j)) else .error (1, i + 2, i + 2)) else .error (1, i + 1, i + 1)
def pCal (i : Int) : PR (SS c) :=
  if T (i + 1) < 0 then (if T (i + 1) < -10 then .error (5, i + 1, i + 1) else .ok (.inr (.inr (.inr (.inr (.inr (T i, T (i + 1)))))), i + 2)) else .error (1, i + 1, i + 1)
/-- two parts with a key between them -/
def pTwo {B : Type} (pt : Int → Sg → PS B) (key i : Int) (σ : Sg) : PS (B × B) := match pt i σ with
  | .error e => .error e
  | .ok (x, j, σ1) => if T j = key then (match pt (j + 1) σ1 with
      | .error e => .error e
      | .ok (y, k, σ2) => .ok ((x, y), k, σ2)) else .error ((1, j, j), σ1)
/-- if, from: E part key part key2 E -/
def pIf {B : Type} (pt : Int → Sg → PS B) (k1 k2 i : Int) (σ : Sg) : PS (SS c ⊕ CC c B) := match pX c T (i + 1) with
  | .error e => .error (e, σ)
  | .ok (e1, j) => match pTwo T pt k1 j σ with
    | .error e => .error e
    | .ok ((x, y), k, σ1) => if T k = k2 then (match pX c T (k + 1) with
        | .error e => .error (e, σ1)
        | .ok (e2, l) => .ok (.inr (.inl (T i, e1, x, y, e2)), l, σ1)) else .error ((1, k, k), σ1)
def pWhen {B : Type} (pt : Int → Sg → PS B) (i : Int) (σ : Sg) : PS (SS c ⊕ CC c B) := match pX c T (i + 1) with
  | .error e => .error (e, σ)
  | .ok (e1, j) => match pTwo T pt 209 j σ with
    | .error e => .error e
    | .ok ((x, y), k, σ1) => .ok (.inr (.inr (.inl (e1, x, y))), k, σ1)
def pWhile {B : Type} (pt : Int → Sg → PS B) (i : Int) (σ : Sg) : PS (SS c ⊕ CC c B) := match pX c T (i + 1) with
  | .error e => .error (e, σ)
  | .ok (e1, j) => match pt j σ with
    | .error e => .error e
    | .ok (x, k, σ1) => .ok (.inr (.inr (.inr (e1, x))), k, σ1)
def asS {c : Nat} {B : Type} : PS (SS c) → PS (SS c ⊕ CC c B)
  | .error e => .error e
  | .ok (x, j, σ) => .ok (.inl x, j, σ)
def pIn {B : Type} (pt : Int → Sg → PS B) (i : Int) (σ : Sg) : PS (SS c ⊕ CC c B) :=
  if kName (T i) = true ∨ kRow (T i) = true then asS (lf σ (pChg c T i))
  else if T i = 200 ∨ T i = 201 ∨ T i = 214 then asS (lf σ (pLet c T i))
  else if T i = 202 ∨ T i = 203 then asS (lf σ (pPsh c T i))
  else if T i = 204 ∨ T i = 205 then asS (lf σ (pNew c T i))
  else if T i = 206 ∨ T i = 207 then asS (lf σ (pCal c T i))
  else if T i = 208 then pIf c T pt 209 210 i σ
  else if T i = 211 then pIf c T pt 212 213 i σ
  else if T i = 216 then pWhen c T pt i σ
  else pWhile c T pt i σ
/-- what the step from i to j (behind its ;) changes by name stands in its E -/
def inIt (i j : Int) : Bool :=
  if T i = 200 ∨ T i = 201 ∨ T i = 204 ∨ T i = 205 then hasTk T (T (i + 1)) (j - (i + 3)).toNat (i + 3)
  else kName (T i) && decide (¬ T (i + 1) = 133) && hasTk T (T i) (j - (i + 2)).toNat (i + 2)
def pStep {B : Type} (pt : Int → Sg → PS B) (i : Int) (σ : Sg) : PS (SS c ⊕ CC c B) :=
  if kBeg (T i) = true then (if σ.2.1 = 1 ∧ ¬ σ.2.2 = bB (kOrd (T i)) then .error ((6, i, i), σ)
    else match pIn c T pt i (σ.1, 1, bB (kOrd (T i))) with
      | .error e => .error e
      | .ok (s, j, σ2) => if T j = 59 then (if inIt T i (j + 1) = true then .error ((3, i, j + 1), σ2)
          else if σ2.1 + nIns (T i) ≤ 40 then .ok (s, j + 1, (σ2.1 + nIns (T i), σ2.2)) else .error ((4, i, j + 1), (σ2.1 + nIns (T i), σ2.2))) else .error ((1, j, j), σ2))
  else .error ((1, i, i), σ)
def pStps {S : Type} (ps : Int → Sg → PS S) (stop : Int) : Nat → Int → Sg → PS (List S)
  | 0, i, σ => .error ((1, i, i), σ)
  | n + 1, i, σ => if T i = stop then .ok ([], i, σ) else match ps i σ with
    | .error e => .error e
    | .ok (s, j, σ1) => match pStps ps stop n j σ1 with
      | .error e => .error e
      | .ok (l, k, σ2) => .ok (s :: l, k, σ2)
def pPt : (b : Nat) → Int → Sg → PS (TB c b)
  | 0, i, σ => if T i = 123 then .error ((2, i, i), σ) else .error ((1, i, i), σ)
  | b + 1, i, σ => if T i = 123 then (match pStps T (pStep c T (pPt b)) 125 601 (i + 1) σ with
      | .error e => .error e
      | .ok (l, j, σ1) => .ok (l, j + 1, σ1)) else .error ((1, i, i), σ)
def pTop : PS (TB c 6) := pStps T (pStep c T (pPt c T 5)) 0 601 0 (0, 0, 0)
end
def sz (f : Mem) (σ : Sg) : Mem := mset (mset (mset f 14 5 σ.1) 14 6 σ.2.1) 14 7 σ.2.2
def resS (f t g : Mem) (Q : Option TV → Wd → Prop) {α : Type} : PS α → Prop
  | .ok (_, j, σ) => Q (some (tI 1)) (WW (mset (sz f σ) 14 2 j) t g)
  | .error (e, σ) => Q (some (tI 0)) (WW (erR (sz f σ) e) t g)
