/-! Mirrors: tables of lists -/
section
variable {c : Nat} {T : Type} {kb : T → List Int} {nb : T → Nat} {tb : T → Int → Int → List En9}
theorem t9L_app : ∀ (x y : List (SS c ⊕ CC c T)) (i p : Int), t9L kb nb tb (x ++ y) i p = t9L kb nb tb x i p ++ t9L kb nb tb y (i + (x.flatMap (k1 kb)).length) (p + ((x.map (n1 nb)).sum : Nat)) := by
  intro x
  induction x with
  | nil =>
    intro y i p
    simp only [List.nil_append, t9L, List.flatMap_nil, List.length_nil, List.map_nil, List.sum_nil]
    rw [show i + ((0 : Nat) : Int) = i by omega, show p + ((0 : Nat) : Int) = p by omega]
  | cons s x ih =>
    intro y i p
    rw [List.cons_append, t9L, t9L, ih, List.append_assoc, List.flatMap_cons, List.length_append, List.map_cons, List.sum_cons, show i + ((k1 kb s).length : Int) + ((x.flatMap (k1 kb)).length : Int) = i + (((k1 kb s).length + (x.flatMap (k1 kb)).length : Nat) : Int) by omega, show p + (n1 nb s : Int) + ((x.map (n1 nb)).sum : Int) = p + ((n1 nb s + (x.map (n1 nb)).sum : Nat) : Int) by omega]
end
