/-! The walk: where heads stand -/
def Sb9 (G l : List En9) (p : Int) : Prop := 0 ≤ p ∧ ∀ k e, l[k]? = some e → G[p.toNat + k]? = some e
def HOk (G : List En9) (e : En9) : Prop := ¬ e.1.2.1 = 0 → (e.1.1 = 215 → e.1.2.2.2.2.2.1 = e.1.2.2.2.2.2.2) ∧ 0 ≤ e.1.2.2.2.2.1 ∧ ∃ e', G[e.1.2.2.2.2.1.toNat]? = some e' ∧ e'.1.2.1 = 1
theorem Sb9_cons {G l : List En9} {e : En9} {p : Int} (h : Sb9 G (e :: l) p) : G[p.toNat]? = some e ∧ Sb9 G l (p + 1) := by
  refine ⟨h.2 0 e rfl, by have := h.1; omega, fun k x hx => ?_⟩
  have := h.2 (k + 1) x (by simpa using hx)
  have h0 := h.1
  rw [show p.toNat + (k + 1) = (p + 1).toNat + k by omega] at this
  exact this
theorem Sb9_app {G l m : List En9} {p : Int} (h : Sb9 G (l ++ m) p) : Sb9 G l p ∧ Sb9 G m (p + l.length) := by
  have h0 := h.1
  refine ⟨⟨h0, fun k x hx => h.2 k x (by rw [List.getElem?_append_left (List.getElem?_eq_some_iff.mp hx).1]; exact hx)⟩, by omega, fun k x hx => ?_⟩
  have := h.2 (l.length + k) x (by rw [List.getElem?_append_right (by omega), Nat.add_sub_cancel_left]; exact hx)
  rw [show p.toNat + (l.length + k) = (p + (l.length : Int)).toNat + k by omega] at this
  exact this
section
variable {c : Nat} {o : Bool} {G : List En9}
theorem H9_2 {la lb : List En9} {op i b i2 b2 i3 b3 p m q x y : Int} (hop : ¬ op = 215) (hla : ∀ P, Sb9 G la P → P = p + 1 → ∀ e ∈ la, HOk G e) (hlb : ∀ P, Sb9 G lb P → P = p + 1 + la.length + 1 → ∀ e ∈ lb, HOk G e) (h : Sb9 G (((op, 1, i, b, p, m, q), x, y) :: (la ++ ((op, 2, i2, b2, p, m, q), x, y) :: (lb ++ [((op, 3, i3, b3, p, m, q), x, y)]))) p) : ∀ e ∈ (((op, 1, i, b, p, m, q), x, y) :: (la ++ ((op, 2, i2, b2, p, m, q), x, y) :: (lb ++ [((op, 3, i3, b3, p, m, q), x, y)]))), HOk G e := by
  have h0 := h.1
  obtain ⟨g1, h⟩ := Sb9_cons h
  obtain ⟨h1, h⟩ := Sb9_app h
  obtain ⟨g2, h⟩ := Sb9_cons h
  obtain ⟨h2, h⟩ := Sb9_app h
  have key : ∀ ro s t, HOk G ((op, ro, s, t, p, m, q), x, y) := fun ro s t _ => ⟨fun hh => absurd hh hop, h0, _, g1, rfl⟩
  intro e he
  rcases List.mem_cons.mp he with rfl | he
  · exact key _ _ _
  · rcases List.mem_append.mp he with he | he
    · exact hla _ h1 rfl e he
    · rcases List.mem_cons.mp he with rfl | he
      · exact key _ _ _
      · rcases List.mem_append.mp he with he | he
        · exact hlb _ h2 rfl e he
        · rw [List.mem_singleton.mp he]; exact key _ _ _
theorem H9_1 {la : List En9} {op i b i3 b3 p q x y : Int} (hla : ∀ P, Sb9 G la P → P = p + 1 → ∀ e ∈ la, HOk G e) (h : Sb9 G (((op, 1, i, b, p, q, q), x, y) :: (la ++ [((op, 3, i3, b3, p, q, q), x, y)])) p) : ∀ e ∈ (((op, 1, i, b, p, q, q), x, y) :: (la ++ [((op, 3, i3, b3, p, q, q), x, y)])), HOk G e := by
  have h0 := h.1
  obtain ⟨g1, h⟩ := Sb9_cons h
  obtain ⟨h1, h⟩ := Sb9_app h
  have key : ∀ ro s t, HOk G ((op, ro, s, t, p, q, q), x, y) := fun ro s t _ => ⟨fun _ => rfl, h0, _, g1, rfl⟩
  intro e he
  rcases List.mem_cons.mp he with rfl | he
  · exact key _ _ _
  · rcases List.mem_append.mp he with he | he
    · exact hla _ h1 rfl e he
    · rw [List.mem_singleton.mp he]; exact key _ _ _
theorem H9_C {T : Type} {kb : T → List Int} {nb : T → Nat} {tb : T → Int → Int → List En9} {wb : T → Prop} (hl : ∀ x i p, (tb x i p).length = nb x) (hb : ∀ x, wb x → ∀ i p, Sb9 G (tb x i p) p → ∀ e ∈ tb x i p, HOk G e) (s : CC c T) (hw : wC o wb s) (i p : Int) (h : Sb9 G (t9C kb nb tb i p s) p) : ∀ e ∈ t9C kb nb tb i p s, HOk G e := by
  match s, hw, h with
  | .inl (k, e, a, b, e2), hw, h =>
    refine H9_2 (by have := hw.2.1; omega) (fun P h1 hP => ?_) (fun P h1 hP => ?_) h
    · subst hP; exact hb a hw.2.2.2.1 _ _ h1
    · rw [hl] at hP
      rw [show p + (nb a : Int) + 1 + 1 = P by omega] at h1 ⊢
      exact hb b hw.2.2.2.2.1 _ _ h1
  | .inr (.inl (e, a, b)), hw, h =>
    refine H9_2 (by decide) (fun P h1 hP => ?_) (fun P h1 hP => ?_) h
    · subst hP; exact hb a hw.2.2.1 _ _ h1
    · rw [hl] at hP
      rw [show p + (nb a : Int) + 1 + 1 = P by omega] at h1 ⊢
      exact hb b hw.2.2.2 _ _ h1
  | .inr (.inr (e, a)), hw, h =>
    refine H9_1 (fun P h1 hP => ?_) h
    subst hP; exact hb a hw.2.2 _ _ h1
theorem H9_L {T : Type} {kb : T → List Int} {nb : T → Nat} {tb : T → Int → Int → List En9} {wb : T → Prop} (hl : ∀ x i p, (tb x i p).length = nb x) (hb : ∀ x, wb x → ∀ i p, Sb9 G (tb x i p) p → ∀ e ∈ tb x i p, HOk G e) : ∀ (l : List (SS c ⊕ CC c T)), allL (w1 o wb) l → ∀ (i p : Int), Sb9 G (t9L kb nb tb l i p) p → ∀ e ∈ t9L kb nb tb l i p, HOk G e := by
  intro l
  induction l with
  | nil => intro _ i p _ e he; exact absurd he (by simp [t9L])
  | cons s l ih =>
    intro hw i p h e he
    rw [t9L] at h he
    obtain ⟨h1, h2⟩ := Sb9_app h
    rw [t91_len hl] at h2
    rcases List.mem_append.mp he with he | he
    · have hws := hw s (List.mem_cons_self ..)
      match s, hws, h1, he with
      | .inl s, hws, h1, he =>
        rw [List.mem_singleton.mp he]; exact fun hr => absurd rfl hr
      | .inr s, hws, h1, he => exact H9_C hl hb s hws i p h1 e he
    · exact ih (fun x hx => hw x (List.mem_cons_of_mem _ hx)) _ _ h2 e he
theorem H9_B : ∀ (b : Nat) (x : TB c b), wB o b x → ∀ i p, Sb9 G (t9B b x i p) p → ∀ e ∈ t9B b x i p, HOk G e := by
  intro b
  induction b with
  | zero => intro x; exact nomatch x
  | succ b ih => intro x hw i p h; exact H9_L (t9B_len b) ih x hw i p h
theorem H9_top (x : TB c 6) (hw : wB o 6 x) {k : Nat} {e : En9} (he : (t9B 6 x 0 0)[k]? = some e) : HOk (t9B 6 x 0 0) e :=
  H9_B 6 x hw 0 0 ⟨Int.le_refl _, fun k e h => by rw [show (0 : Int).toNat + k = k by simp]; exact h⟩ e (List.mem_of_getElem? he)
end
