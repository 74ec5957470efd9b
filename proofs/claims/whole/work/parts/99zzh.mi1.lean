/-! Mirrors: what they keep -/
theorem wt_u {k : Int} (h : (128 ≤ k ∧ k ≤ 132) ∨ (200 ≤ k ∧ k ≤ 207)) : wtk (undo k) = wtk k := by
  have : k = 128 ∨ k = 129 ∨ k = 130 ∨ k = 131 ∨ k = 132 ∨ k = 200 ∨ k = 201 ∨ k = 202 ∨ k = 203 ∨ k = 204 ∨ k = 205 ∨ k = 206 ∨ k = 207 := by omega
  rcases this with rfl | rfl | rfl | rfl | rfl | rfl | rfl | rfl | rfl | rfl | rfl | rfl | rfl <;> decide
theorem u_r {k : Int} : ((k = 200 ∨ k = 201) → undo k = 200 ∨ undo k = 201) ∧ ((128 ≤ k ∧ k ≤ 132) → 128 ≤ undo k ∧ undo k ≤ 132) ∧ ((k = 202 ∨ k = 203) → undo k = 202 ∨ undo k = 203) ∧ ((k = 204 ∨ k = 205) → undo k = 204 ∨ undo k = 205) ∧ ((k = 206 ∨ k = 207) → undo k = 206 ∨ undo k = 207) := by
  refine ⟨?_, ?_, ?_, ?_, ?_⟩
  · rintro (rfl | rfl) <;> decide
  · intro h
    have : k = 128 ∨ k = 129 ∨ k = 130 ∨ k = 131 ∨ k = 132 := by omega
    rcases this with rfl | rfl | rfl | rfl | rfl <;> decide
  · rintro (rfl | rfl) <;> decide
  · rintro (rfl | rfl) <;> decide
  · rintro (rfl | rfl) <;> decide
section
variable {c : Nat}
theorem mS_w (s : SS c) (h : wS false s) : wS false (mS s) ∧ (kS (mS s)).length = (kS s).length ∧ wtL (kS (mS s)) = wtL (kS s) := by
  match s, h with
  | .inl (k, n, e), h =>
    have hk : k = 200 ∨ k = 201 := by have := h.1; simpa using this
    refine ⟨⟨?_, h.2.1, h.2.2⟩, by simp [mS, kS], ?_⟩
    · rw [if_neg (by decide)]; exact u_r.1 hk
    · simp only [mS, kS, wtL_c]; rw [wt_u (by omega)]
  | .inr (.inl (p, o, e)), h =>
    refine ⟨⟨h.1, h.2.1, u_r.2.1 h.2.2.1, h.2.2.2⟩, by simp [mS, kS], ?_⟩
    have := h.2.2.1
    simp only [mS, kS, wtL_a, wtL_c]; rw [wt_u (by omega)]
  | .inr (.inr (.inl (p, q))), h => exact ⟨h, rfl, rfl⟩
  | .inr (.inr (.inr (.inl (k, n, s)))), h =>
    refine ⟨⟨h.1, u_r.2.2.1 h.2.1, h.2.2⟩, by simp [mS, kS], ?_⟩
    have := h.2.1
    simp only [mS, kS, wtL_c]; rw [wt_u (by omega)]
  | .inr (.inr (.inr (.inr (.inl (k, r, d, e))))), h =>
    refine ⟨⟨h.1, u_r.2.2.2.1 h.2.1, h.2.2⟩, by simp [mS, kS], ?_⟩
    have := h.2.1
    simp only [mS, kS, wtL_c]; rw [wt_u (by omega)]
  | .inr (.inr (.inr (.inr (.inr (k, n))))), h =>
    refine ⟨⟨h.1, u_r.2.2.2.2 h.2.1, h.2.2⟩, by simp [mS, kS], ?_⟩
    have := h.2.1
    simp only [mS, kS, wtL_c]; rw [wt_u (by omega)]
/-- what a mirror keeps -/
def MK {T : Type} (w : T → Prop) (k : T → List Int) (n : T → Nat) (x y : T) : Prop := w y ∧ (k y).length = (k x).length ∧ wtL (k y) = wtL (k x) ∧ n y = n x
theorem mC_w {T : Type} {kb : T → List Int} {nb : T → Nat} {wb : T → Prop} {mb : T → T} (hb : ∀ x, wb x → MK wb kb nb x (mb x)) (s : CC c T) (h : wC false wb s) : MK (wC false wb) (kC kb) (nC nb) s (mC mb s) := by
  match s, h with
  | .inl (k, e, a, b, e2), h =>
    obtain ⟨h1, h2, h3, h4, h5, h6⟩ := h
    obtain ⟨a1, a2, a3, a4⟩ := hb a h4
    obtain ⟨b1, b2, b3, b4⟩ := hb b h5
    refine ⟨⟨h1, h2, h6, a1, b1, h3⟩, ?_, ?_, ?_⟩
    · simp only [mC, kC, List.length_cons, List.length_append, a2, b2, List.length_nil]; omega
    · simp only [mC, kC, wtL_c, wtL_a, a3, b3]; omega
    · simp only [mC, nC, a4, b4]
  | .inr (.inl (e, a, b)), h => exact absurd h.1 (by decide)
  | .inr (.inr (e, a)), h => exact absurd h.1 (by decide)
theorem m1_w {T : Type} {kb : T → List Int} {nb : T → Nat} {wb : T → Prop} {mb : T → T} (hb : ∀ x, wb x → MK wb kb nb x (mb x)) (s : SS c ⊕ CC c T) (h : w1 false wb s) : MK (w1 false wb) (k1 kb) (n1 nb) s (m1 mb s) := by
  match s, h with
  | .inl s, h => obtain ⟨a1, a2, a3⟩ := mS_w s h; exact ⟨a1, a2, a3, rfl⟩
  | .inr s, h => exact mC_w hb s h
theorem mB_w : ∀ (b : Nat) (x : TB c b), wB false b x → MK (wB false b) (kB b) (nB b) x (mB b x) := by
  intro b
  induction b with
  | zero => intro x; exact nomatch x
  | succ b ih =>
    intro x h
    have key : ∀ (l : List (SS c ⊕ CC c (TB c b))), allL (w1 false (wB false b)) l → (allL (w1 false (wB false b)) ((l.map (m1 (mB b))).reverse)) ∧ (((l.map (m1 (mB b))).reverse).flatMap (k1 (kB b))).length = (l.flatMap (k1 (kB b))).length ∧ wtL (((l.map (m1 (mB b))).reverse).flatMap (k1 (kB b))) = wtL (l.flatMap (k1 (kB b))) ∧ (((l.map (m1 (mB b))).reverse).map (n1 (nB b))).sum = (l.map (n1 (nB b))).sum := by
      intro l
      induction l with
      | nil => intro _; exact ⟨fun s hs => absurd hs (by simp), rfl, rfl, rfl⟩
      | cons s l ihl =>
        intro hl
        obtain ⟨q1, q2, q3, q4⟩ := ihl (fun u hu => hl u (List.mem_cons_of_mem _ hu))
        obtain ⟨p1, p2, p3, p4⟩ := m1_w ih s (hl s (List.mem_cons_self ..))
        rw [List.map_cons, List.reverse_cons]
        refine ⟨fun u hu => ?_, ?_, ?_, ?_⟩
        · rcases List.mem_append.mp hu with hu | hu
          · exact q1 u hu
          · rw [List.mem_singleton.mp hu]; exact p1
        · simp only [List.flatMap_append, List.length_append, q2, List.flatMap_cons, List.flatMap_nil, List.append_nil, p2]; omega
        · have w0 : wtL [] = 0 := rfl
          simp only [List.flatMap_append, wtL_a, q3, List.flatMap_cons, List.flatMap_nil, List.append_nil, p3]; omega
        · rw [List.map_append, List.sum_append, q4, List.map_cons, List.map_cons, List.sum_cons, List.map_nil, List.sum_cons, List.sum_nil, p4]; omega
    exact key x h
end
