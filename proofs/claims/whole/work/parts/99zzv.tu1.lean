/-! TURNED trees -/
theorem upT_k {F G : Type} {u : F → G} {kf : F → List Int} {kg : G → List Int} (h : ∀ x, kg (u x) = kf x) (x : Ter F) : kT kg (upT u x) = kT kf x := by
  show kg (u x.1) ++ (x.2.map (fun p => (p.1, u p.2))).flatMap (fun p => p.1 :: kg p.2) = kf x.1 ++ x.2.flatMap (fun p => p.1 :: kf p.2)
  rw [List.flatMap_map, h]
  simp only [h]
theorem upE_k {F G : Type} {u : F → G} {kf : F → List Int} {kg : G → List Int} (h : ∀ x, kg (u x) = kf x) (x : Exq F) : kE kg (upE u x) = kE kf x := by
  show kT kg (upT u x.1) ++ (x.2.map (fun p => (p.1, upT u p.2))).flatMap (fun p => p.1 :: kT kg p.2) = kT kf x.1 ++ x.2.flatMap (fun p => p.1 :: kT kf p.2)
  rw [List.flatMap_map, upT_k h]
  simp only [upT_k h]
theorem upT_w {F G : Type} {u : F → G} {wf : F → Prop} {wg : G → Prop} (h : ∀ x, wf x → wg (u x)) (x : Ter F) (hx : wT wf x) : wT wg (upT u x) := by
  refine ⟨h _ hx.1, fun p hp => ?_⟩
  obtain ⟨q, hq, rfl⟩ := List.mem_map.mp hp
  exact ⟨(hx.2 q hq).1, h _ (hx.2 q hq).2⟩
theorem upE_w {F G : Type} {u : F → G} {wf : F → Prop} {wg : G → Prop} (h : ∀ x, wf x → wg (u x)) (x : Exq F) (hx : wE wf x) : wE wg (upE u x) := by
  refine ⟨upT_w h _ hx.1, fun p hp => ?_⟩
  obtain ⟨q, hq, rfl⟩ := List.mem_map.mp hp
  exact ⟨(hx.2 q hq).1, upT_w h _ (hx.2 q hq).2⟩
theorem upF_k : ∀ (b : Nat) (x : FF b), kF (b + 1) (upF b x) = kF b x := by
  intro b
  induction b with
  | zero => intro x; rfl
  | succ b ih =>
    intro x
    match x with
    | .inl x => rfl
    | .inr (.inl x) => show 45 :: kF (b + 1) (upF b x) = 45 :: kF b x; rw [ih]
    | .inr (.inr (.inl (r, e))) => show r :: 91 :: (kE (kF (b + 1)) (upE (upF b) e) ++ [93]) = r :: 91 :: (kE (kF b) e ++ [93]); rw [upE_k ih]
    | .inr (.inr (.inr (.inl e))) => show 40 :: (kE (kF (b + 1)) (upE (upF b) e) ++ [41]) = 40 :: (kE (kF b) e ++ [41]); rw [upE_k ih]
    | .inr (.inr (.inr (.inr (q, e1, e2)))) => show 40 :: (kE (kF (b + 1)) (upE (upF b) e1) ++ q :: (kE (kF (b + 1)) (upE (upF b) e2) ++ [41])) = 40 :: (kE (kF b) e1 ++ q :: (kE (kF b) e2 ++ [41])); rw [upE_k ih, upE_k ih]
theorem upF_w : ∀ (b : Nat) (x : FF b), wF b x → wF (b + 1) (upF b x) := by
  intro b
  induction b with
  | zero => intro x h; exact h
  | succ b ih =>
    intro x h
    match x, h with
    | .inl x, h => exact h
    | .inr (.inl x), h => exact ih x h
    | .inr (.inr (.inl (r, e))), h => exact ⟨h.1, upE_w ih e h.2⟩
    | .inr (.inr (.inr (.inl e))), h => exact upE_w ih e h
    | .inr (.inr (.inr (.inr (q, e1, e2)))), h => exact ⟨h.1, upE_w ih e1 h.2.1, upE_w ih e2 h.2.2⟩
def lfF : (b : Nat) → Int ⊕ Int → FF b
  | 0, x => x
  | _ + 1, x => .inl x
theorem lfF_k (b : Nat) (x : Int ⊕ Int) : kF b (lfF b x) = kL x := by cases b <;> rfl
theorem lfF_w (b : Nat) (x : Int ⊕ Int) (h : wL x) : wF b (lfF b x) := by cases b <;> exact h
section
variable {c : Nat}
def upX (e : EE c) : EE (c + 1) := upE (upF c) e
theorem upX_k (e : EE c) : kX (upX e) = kX e := upE_k (upF_k c) e
theorem upX_w (e : EE c) (h : wX e) : wX (upX e) := upE_w (upF_w c) e h
def lfE (c : Nat) (v : Int) : EE c := ((lfF c (.inl v), []), [])
theorem lfE_k (v : Int) : kX (lfE c v) = [v] := by
  show (kF c (lfF c (.inl v)) ++ []) ++ [] = [v]
  rw [lfF_k]; rfl
theorem lfE_w {v : Int} (h : (-1000000000 ≤ v ∧ v < 0) ∨ kName v = true) : wX (lfE c v) := ⟨⟨lfF_w c _ h, fun p hp => absurd hp List.not_mem_nil⟩, fun p hp => absurd hp List.not_mem_nil⟩
/-- ( E = 0 ) -/
def eqN (e : EE c) : EE (c + 1) := ((((.inr (.inr (.inr (.inr (61, e, lfE c (-1))))) : FF (c + 1))), []), [])
theorem eqN_k (e : EE c) : kX (eqN e) = 40 :: (kX e ++ [61, -1, 41]) := by
  show (40 :: (kX e ++ 61 :: (kX (lfE c (-1)) ++ [41])) ++ []) ++ [] = _
  rw [lfE_k]; simp
theorem eqN_w (e : EE c) (h : wX e) : wX (eqN e) := ⟨⟨⟨Or.inr rfl, h, lfE_w (Or.inl (by omega))⟩, fun p hp => absurd hp List.not_mem_nil⟩, fun p hp => absurd hp List.not_mem_nil⟩
end
/-! when is it N + T -/
def opb (v : Int) : Int := if v = 40 ∨ v = 91 then 1 else if v = 41 ∨ v = 93 then -1 else 0
def one1 : Int → Int → List Int → Bool
  | _, _, [] => true
  | pv, dp, v :: l => if dp + opb v = 0 ∧ kSum v = true ∧ kEnd pv = true then false else one1 v (dp + opb v) l
def plQ (n : Int) : List Int → Bool
  | a :: s :: l => decide (a = n ∧ kSum s = true ∧ ¬ s = 124 ∧ ¬ n ∈ l) && one1 s 0 l
  | _ => false
def chB (s : Int) : Int := if s = 43 then 128 else if s = 45 then 129 else 132
section
variable {c : Nat}
def tPu (n : Int) : SS c := .inr (.inr (.inr (.inl (202, n, 86))))
def tCh (n o : Int) (e : EE c) : SS c := .inr (.inl (.inl n, o, e))
def tSw (n m : Int) : SS c := .inr (.inr (.inl (.inl n, .inl m)))
def tLe (k n : Int) (e : EE c) : SS c := .inl (k, n, e)
/-- push N V ; unlet N = 0 ; -/
def tTr (n : Int) : List (SS c) := [tPu n, tLe 201 n (lfE c (-1))]
def tuS (n : Int) (e : EE c) : List (SS (c + 1)) :=
  if plQ n (kX e) = true then (match e.2 with
    | [] => []
    | (s, y) :: rs => [tCh n (chB s) (upX (y, rs))])
  else if n ∈ kX e then tLe 200 122 (upX e) :: tSw n 122 :: tTr 122
  else [tPu n, tCh n 128 (upX e)]
/-- a step behind a block -/
def apL {T : Type} (l : List (SS c ⊕ CC c T)) (s : SS c) : List (SS c ⊕ CC c T) := l ++ [.inl s]
theorem apL_k {T : Type} {kb : T → List Int} (l : List (SS c ⊕ CC c T)) (s : SS c) : (apL l s).flatMap (k1 kb) = l.flatMap (k1 kb) ++ kS s := by
  simp [apL, k1]
theorem apL_n {T : Type} {nb : T → Nat} (l : List (SS c ⊕ CC c T)) (s : SS c) : ((apL l s).map (n1 nb)).sum = (l.map (n1 nb)).sum + 1 := by
  simp [apL, n1]
theorem apL_w {T : Type} {o : Bool} {wb : T → Prop} (l : List (SS c ⊕ CC c T)) (s : SS c) (h : allL (w1 o wb) l) (hs : wS o s) : allL (w1 o wb) (apL l s) := by
  intro u hu
  rcases List.mem_append.mp hu with hu | hu
  · exact h u hu
  · rw [List.mem_singleton.mp hu]; exact hs
def apB : (b : Nat) → TB c b → SS c → TB c b
  | 0, x, _ => nomatch x
  | b + 1, l, s => apL (T := TB c b) l s
theorem apB_k (b : Nat) (x : TB c b) (s : SS c) : kB b (apB b x s) = kB b x ++ kS s := by
  match b, x with
  | b + 1, l => exact apL_k (kb := kB b) l s
theorem apB_n (b : Nat) (x : TB c b) (s : SS c) : nB b (apB b x s) = nB b x + 1 := by
  match b, x with
  | b + 1, l => exact apL_n (nb := nB b) l s
theorem apB_w {o : Bool} (b : Nat) (x : TB c b) (s : SS c) (h : wB o b x) (hs : wS o s) : wB o b (apB b x s) := by
  match b, x, h with
  | b + 1, l, h => exact apL_w (wb := wB o b) l s h hs
def tu1 {T U : Type} (tb : T → U) (ap : U → SS (c + 1) → U) (em : T → U) (cn : Int) : SS c ⊕ CC c T → List (SS (c + 1) ⊕ CC (c + 1) U)
  | .inl (.inl (_, n, e)) => (tuS n e).map .inl
  | .inr (.inr (.inl (e, a, b))) => .inl (tLe 200 cn (eqN e)) :: .inr (.inl (208, eqN (lfE c cn), tb a, tb b, eqN (lfE c cn))) :: (tTr cn).map .inl
  | .inr (.inr (.inr (e, a))) => .inl (tLe 200 cn (lfE (c + 1) (-1))) :: .inr (.inl (211, eqN (lfE c cn), em a, ap (tb a) (tCh cn 128 (lfE (c + 1) (-2))), eqN e)) :: (tTr cn).map .inl
  | _ => []
/-- a block without steps -/
def emB : (b : Nat) → TB c b → TB (c + 1) b
  | 0, x => nomatch x
  | _ + 1, _ => []
def tuB : (b : Nat) → Int → TB c b → TB (c + 1) b
  | 0, _, x => nomatch x
  | b + 1, cn, l => List.flatMap (tu1 (tuB b (cn - 1)) (apB b) (emB b) cn) l
theorem emB_k (b : Nat) (x : TB c b) : kB b (emB b x) = [] ∧ nB b (emB b x) = 0 ∧ ∀ o, wB o b (emB b x) := by
  match b, x with
  | b + 1, l => exact ⟨rfl, rfl, fun o s hs => absurd hs List.not_mem_nil⟩
end
