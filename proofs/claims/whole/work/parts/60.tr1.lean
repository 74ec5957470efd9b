/-! What was read is a tree: its tokens are those that stand there -/
def tks (T : Int → Int) : Int → Nat → List Int
  | _, 0 => []
  | i, m + 1 => T i :: tks T (i + 1) m
def seg (T : Int → Int) (i j : Int) (l : List Int) : Prop := i ≤ j ∧ l = tks T i (j - i).toNat
theorem tks_add {T : Int → Int} : ∀ (a b : Nat) (i : Int), tks T i (a + b) = tks T i a ++ tks T (i + a) b := by
  intro a
  induction a with
  | zero => intro b i; simp [tks]
  | succ a ih =>
    intro b i
    rw [show a + 1 + b = (a + b) + 1 by omega]
    show T i :: tks T (i + 1) (a + b) = T i :: tks T (i + 1) a ++ tks T (i + ((a + 1 : Nat) : Int)) b
    rw [ih b (i + 1), show i + 1 + (a : Int) = i + ((a + 1 : Nat) : Int) by omega]; rfl
theorem seg_nil {T : Int → Int} {i : Int} : seg T i i [] := ⟨Int.le_refl _, by rw [show (i - i).toNat = 0 by omega]; rfl⟩
theorem seg_app {T : Int → Int} {i j k : Int} {l m : List Int} (h1 : seg T i j l) (h2 : seg T j k m) : seg T i k (l ++ m) := by
  obtain ⟨a, b⟩ := h1
  obtain ⟨e, e'⟩ := h2
  refine ⟨by omega, ?_⟩
  rw [b, e', show (k - i).toNat = (j - i).toNat + (k - j).toNat by omega, tks_add, show i + ((j - i).toNat : Int) = j by omega]
theorem seg_one {T : Int → Int} {i v : Int} (h : T i = v) : seg T i (i + 1) [v] := ⟨by omega, by rw [show (i + 1 - i).toNat = 1 by omega, ← h]; rfl⟩
theorem seg_cons {T : Int → Int} {i j v : Int} {l : List Int} (h : T i = v) (h2 : seg T (i + 1) j l) : seg T i j (v :: l) := seg_app (seg_one h) h2
theorem seg_snoc {T : Int → Int} {i j v : Int} {l : List Int} (h2 : seg T i j l) (h : T j = v) : seg T i (j + 1) (l ++ [v]) := seg_app h2 (seg_one h)
section
variable {T : Int → Int}
theorem pMore_t {F : Type} {pf : Int → PR F} {sg : Int → Bool} {kf : F → List Int} {wf : F → Prop} (hp : ∀ i x j, pf i = .ok (x, j) → seg T i j (kf x) ∧ i < j ∧ wf x) : ∀ (m : Nat) (i : Int) (l : List (Int × F)) (j : Int), pMore T pf sg m i = .ok (l, j) → seg T i j (l.flatMap (fun p => p.1 :: kf p.2)) ∧ ∀ p ∈ l, sg p.1 = true ∧ wf p.2 := by
  intro m
  induction m with
  | zero => intro i l j h; cases h; exact ⟨seg_nil, fun p hp => absurd hp List.not_mem_nil⟩
  | succ m ih =>
    intro i l j h
    unfold pMore at h
    split at h
    · rename_i hs
      split at h
      · cases h
      · rename_i x j1 h1
        split at h
        · cases h
        · rename_i l1 k h2
          cases h
          have q1 := hp _ _ _ h1
          have q2 := ih _ _ _ h2
          refine ⟨?_, ?_⟩
          · simp only [List.flatMap_cons]
            exact seg_app (seg_cons rfl q1.1) q2.1
          · intro p hp
            rcases List.mem_cons.mp hp with rfl | hp
            · exact ⟨hs, q1.2.2⟩
            · exact q2.2 p hp
    · cases h; exact ⟨seg_nil, fun p hp => absurd hp List.not_mem_nil⟩
theorem pTX_t {F : Type} {pf : Int → PR F} {kf : F → List Int} {wf : F → Prop} (hp : ∀ i x j, pf i = .ok (x, j) → seg T i j (kf x) ∧ i < j ∧ wf x) (i : Int) (x : Ter F) (j : Int) (h : pTX T pf i = .ok (x, j)) : seg T i j (kT kf x) ∧ i < j ∧ wT wf x := by
  unfold pTX at h
  split at h
  · cases h
  · rename_i y j1 h1
    split at h
    · cases h
    · rename_i l k h2
      cases h
      have q1 := hp _ _ _ h1
      have q2 := pMore_t hp _ _ _ _ h2
      exact ⟨seg_app q1.1 q2.1, by have := q2.1.1; omega, q1.2.2, q2.2⟩
theorem pE_t {F : Type} {pf : Int → PR F} {kf : F → List Int} {wf : F → Prop} (hp : ∀ i x j, pf i = .ok (x, j) → seg T i j (kf x) ∧ i < j ∧ wf x) (i : Int) (x : Exq F) (j : Int) (h : pE T pf i = .ok (x, j)) : seg T i j (kE kf x) ∧ i < j ∧ wE wf x := by
  unfold pE pEX at h
  split at h
  · cases h
  · rename_i y j1 h1
    split at h
    · cases h
    · rename_i l k h2
      cases h
      have q1 := pTX_t hp _ _ _ h1
      have q2 := pMore_t (kf := kT kf) (wf := wT wf) (pTX_t hp) _ _ _ _ h2
      exact ⟨seg_app q1.1 q2.1, by have := q2.1.1; omega, q1.2.2, q2.2⟩
theorem pL_t (hlow : ∀ i, -1000000000 ≤ T i) (i : Int) (x : Int ⊕ Int) (j : Int) (h : pL T i = .ok (x, j)) : seg T i j (kL x) ∧ i < j ∧ wL x := by
  unfold pL at h
  split at h
  · rename_i h35
    split at h
    · rename_i hr
      cases h
      refine ⟨?_, by omega, hr⟩
      rw [show i + 2 = i + 1 + 1 by omega]
      exact seg_cons h35 (seg_one rfl)
    · cases h
  · split at h
    · rename_i hn
      cases h
      refine ⟨seg_one rfl, by omega, ?_⟩
      rcases hn with hn | hn
      · exact Or.inl ⟨hlow i, by unfold kNum at hn; simpa using hn⟩
      · exact Or.inr hn
    · cases h
theorem pF_t (hlow : ∀ i, -1000000000 ≤ T i) : ∀ (b : Nat) (i : Int) (x : FF b) (j : Int), pF T b i = .ok (x, j) → seg T i j (kF b x) ∧ i < j ∧ wF b x := by
  intro b
  induction b with
  | zero =>
    intro i x j h
    unfold pF at h
    split at h
    · cases h
    · split at h
      · split at h <;> cases h
      · exact pL_t hlow i x j h
  | succ b ih =>
    intro i x j h
    unfold pF at h
    split at h
    · rename_i h45
      split at h
      · cases h
      · rename_i y k h1
        cases h
        have q := ih _ _ _ h1
        exact ⟨seg_cons h45 q.1, by omega, q.2.2⟩
    · split at h
      · rename_i h40
        split at h
        · cases h
        · rename_i y k h1
          have q := pE_t ih _ _ _ h1
          split at h
          · rename_i hc
            split at h
            · cases h
            · rename_i y2 k2 h2
              have q2 := pE_t ih _ _ _ h2
              split at h
              · rename_i h41
                cases h
                refine ⟨?_, by omega, hc, q.2.2, q2.2.2⟩
                exact seg_cons h40 (seg_app q.1 (seg_cons rfl (seg_snoc q2.1 h41)))
              · cases h
          · split at h
            · rename_i h41
              cases h
              exact ⟨seg_cons h40 (seg_snoc q.1 h41), by omega, q.2.2⟩
            · cases h
      · split at h
        · rename_i hr
          split at h
          · rename_i h91
            split at h
            · cases h
            · rename_i y k h1
              have q := pE_t ih _ _ _ h1
              split at h
              · rename_i h93
                cases h
                refine ⟨?_, by omega, hr, q.2.2⟩
                have q1 := q.1
                rw [show i + 2 = i + 1 + 1 by omega] at q1
                exact seg_cons rfl (seg_cons h91 (seg_snoc q1 h93))
              · cases h
          · cases h
        · split at h
          · cases h
          · rename_i y k h1
            cases h
            exact pL_t hlow _ _ _ h1
end
