/-! What was read is a tree: the whole text -/
section
variable {c : Nat} {T : Int → Int}
theorem pStep_t (hlow : ∀ i, -1000000000 ≤ T i) {B : Type} {kb : B → List Int} {wb : Bool → B → Prop} {nb : B → Nat} {pt : Int → Sg → PS B} (hp : PTt T kb wb nb pt) (i : Int) (σ : Sg) (s : SS c ⊕ CC c B) (j : Int) (σ' : Sg) (h : pStep c T pt i σ = .ok (s, j, σ')) : i < j ∧ seg T i j (k1 kb s) ∧ w1 (kOrd (T i)) (wb (kOrd (T i))) s ∧ σ'.2 = (1, bB (kOrd (T i))) ∧ (σ.2.1 = 1 → σ.2.2 = bB (kOrd (T i))) ∧ σ'.1 = σ.1 + n1 nb s := by
  unfold pStep at h
  split at h
  · rename_i hB
    split at h
    · cases h
    · rename_i hno
      split at h
      · cases h
      · rename_i s1 j1 σ2 h1
        split at h
        · rename_i h59
          split at h
          · cases h
          · split at h
            · cases h
              have q := pIn_t hlow hp _ _ _ _ _ h1 rfl hB h59
              refine ⟨by omega, q.1, q.2.2.1, q.2.2.2.1, fun hh => ?_, q.2.2.2.2⟩
              by_cases e : σ.2.2 = bB (kOrd (T i))
              · exact e
              · exact absurd ⟨hh, e⟩ hno
            · cases h
        · cases h
  · cases h
theorem pStps_t (hlow : ∀ i, -1000000000 ≤ T i) {B : Type} {kb : B → List Int} {wb : Bool → B → Prop} {nb : B → Nat} {pt : Int → Sg → PS B} (hp : PTt T kb wb nb pt) {stop : Int} : ∀ (m : Nat) (i : Int) (σ : Sg) (l : List (SS c ⊕ CC c B)) (j : Int) (σ' : Sg) (o : Bool), pStps T (pStep c T pt) stop m i σ = .ok (l, j, σ') → σ.2 = (1, bB o) → i ≤ j ∧ seg T i j (l.flatMap (k1 kb)) ∧ allL (w1 o (wb o)) l ∧ σ'.2 = σ.2 ∧ σ'.1 = σ.1 + (l.map (n1 nb)).sum := by
  intro m
  induction m with
  | zero => intro i σ l j σ' o h hσ; cases h
  | succ m ih =>
    intro i σ l j σ' o h hσ
    unfold pStps at h
    split at h
    · cases h
      exact ⟨Int.le_refl _, seg_nil, fun s hs => absurd hs List.not_mem_nil, rfl, by simp⟩
    · split at h
      · cases h
      · rename_i s j1 σ1 h1
        split at h
        · cases h
        · rename_i l1 k σ2 h2
          cases h
          have q := pStep_t hlow hp _ _ _ _ _ h1
          have ho : kOrd (T i) = o := by
            have := q.2.2.2.2.1 (by rw [hσ])
            rw [hσ] at this
            exact (bB_inj this).symm
          rw [ho] at q
          have q2 := ih _ _ _ _ _ o h2 q.2.2.2.1
          refine ⟨by omega, ?_, ?_, by rw [q2.2.2.2.1, q.2.2.2.1, hσ], ?_⟩
          · simp only [List.flatMap_cons]; exact seg_app q.2.1 q2.2.1
          · intro x hx
            rcases List.mem_cons.mp hx with rfl | hx
            · exact q.2.2.1
            · exact q2.2.2.1 x hx
          · have := q2.2.2.2.2
            have := q.2.2.2.2.2
            simp only [List.map_cons, List.sum_cons]
            omega
theorem pPt_t (hlow : ∀ i, -1000000000 ≤ T i) : ∀ (b : Nat), PTt T (kB (c := c) b) (fun o => wB o b) (nB b) (pPt c T b) := by
  intro b
  induction b with
  | zero => intro i σ x j σ' o h hσ; unfold pPt at h; split at h <;> cases h
  | succ b ih =>
    intro i σ x j σ' o h hσ
    unfold pPt at h
    split at h
    · rename_i h123
      split at h
      · cases h
      · rename_i l k σ1 h1
        cases h
        have q := pStps_t hlow ih _ _ _ _ _ _ o h1 hσ
        have h125 := pStps_stop _ _ _ _ _ _ h1
        exact ⟨by omega, seg_cons h123 (seg_snoc q.2.1 h125), q.2.2.1, q.2.2.2.1, q.2.2.2.2⟩
    · cases h
/-- a text that was read -/
theorem pTop_t (hlow : ∀ i, -1000000000 ≤ T i) (x : TB c 6) (j : Int) (σ' : Sg) (h : pTop c T = .ok (x, j, σ')) : T j = 0 ∧ seg T 0 j (kB 6 x) ∧ wB (kOrd (T 0)) 6 x ∧ σ'.1 = nB 6 x ∧ σ'.1 ≤ 40 ∧ (σ'.2.1 = 0 ∨ σ'.2.2 = bB (kOrd (T 0))) := by
  have h0 := pStps_stop _ _ _ _ _ _ h
  have hok := pStps_ok (pStep_ok (pPt_ok (c := c) (T := T) 5)) 601 0 (0, 0, 0) x j σ' ⟨Or.inl rfl, Or.inl rfl, by decide, by decide⟩ h
  unfold pTop at h
  unfold pStps at h
  split at h
  · cases h
    refine ⟨h0, seg_nil, fun s hs => absurd hs List.not_mem_nil, rfl, by decide, Or.inl rfl⟩
  · split at h
    · cases h
    · rename_i s j1 σ1 h1
      split at h
      · cases h
      · rename_i l1 k σ2 h2
        cases h
        have q := pStep_t hlow (pPt_t hlow 5) _ _ _ _ _ h1
        have q2 := pStps_t hlow (pPt_t hlow 5) _ _ _ _ _ _ (kOrd (T 0)) h2 q.2.2.2.1
        refine ⟨h0, ?_, ?_, ?_, hok.2.2.2, Or.inr (by rw [q2.2.2.2.1, q.2.2.2.1])⟩
        · show seg T 0 j (List.flatMap (k1 (kB 5)) (s :: l1))
          simp only [List.flatMap_cons]; exact seg_app q.2.1 q2.2.1
        · intro x hx
          rcases List.mem_cons.mp hx with rfl | hx
          · exact q.2.2.1
          · exact q2.2.2.1 x hx
        · have a := q2.2.2.2.2
          have b := q.2.2.2.2.2
          show σ'.1 = (((List.map (n1 (nB 5)) (s :: l1)).sum : Nat) : Int)
          simp only [List.map_cons, List.sum_cons]
          have : ((0, 0, 0) : Sg).1 = 0 := rfl
          omega
end
