/-! What was read is a tree: steps -/
section
variable {c : Nat} {T : Int → Int}
theorem pX_t (hlow : ∀ i, -1000000000 ≤ T i) (i : Int) (x : EE c) (j : Int) (h : pX c T i = .ok (x, j)) : seg T i j (kX x) ∧ i < j ∧ wX x := pE_t (pF_t hlow c) i x j h
theorem pP_t (hlow : ∀ i, -1000000000 ≤ T i) (i : Int) (x : PP c) (j : Int) (h : pP c T i = .ok (x, j)) : seg T i j (kP x) ∧ i < j ∧ wP x := by
  unfold pP at h
  split at h
  · rename_i hr
    split at h
    · rename_i h91
      split at h
      · cases h
      · rename_i e k h1
        have q := pX_t hlow _ _ _ h1
        split at h
        · rename_i h93
          cases h
          have q1 := q.1
          rw [show i + 2 = i + 1 + 1 by omega] at q1
          exact ⟨seg_cons rfl (seg_cons h91 (seg_snoc q1 h93)), by omega, hr, q.2.2⟩
        · cases h
    · cases h
  · split at h
    · rename_i hn
      cases h
      exact ⟨seg_one rfl, by omega, hn⟩
    · cases h
theorem pChg_t (hlow : ∀ i, -1000000000 ≤ T i) (i : Int) (s : SS c) (j : Int) (h : pChg c T i = .ok (s, j)) (h59 : T j = 59) : seg T i (j + 1) (kS s) ∧ i < j ∧ wS false s := by
  unfold pChg at h
  split at h
  · cases h
  · rename_i p k h1
    have q := pP_t hlow _ _ _ h1
    split at h
    · rename_i hk
      split at h
      · rename_i h133
        split at h
        · cases h
        · rename_i p2 k2 h2
          cases h
          have q2 := pP_t hlow _ _ _ h2
          exact ⟨seg_app q.1 (seg_cons h133 (seg_snoc q2.1 h59)), by omega, rfl, q.2.2, q2.2.2⟩
      · rename_i h133
        split at h
        · cases h
        · rename_i e k2 h2
          cases h
          have q2 := pX_t hlow _ _ _ h2
          refine ⟨seg_app q.1 (seg_cons rfl (seg_snoc q2.1 h59)), by omega, rfl, q.2.2, ?_, q2.2.2⟩
          unfold kPair at hk; simp at hk; omega
    · cases h
theorem pLet_t (hlow : ∀ i, -1000000000 ≤ T i) (i : Int) (s : SS c) (j : Int) (hk : T i = 200 ∨ T i = 201 ∨ T i = 214) (h : pLet c T i = .ok (s, j)) (h59 : T j = 59) : seg T i (j + 1) (kS s) ∧ i < j ∧ wS (kOrd (T i)) s := by
  unfold pLet at h
  split at h
  · rename_i hn
    split at h
    · rename_i h61
      split at h
      · cases h
      · rename_i e k h1
        cases h
        have q := pX_t hlow _ _ _ h1
        have q1 := q.1
        rw [show i + 3 = i + 1 + 1 + 1 by omega] at q1
        rw [show i + 2 = i + 1 + 1 by omega] at h61
        refine ⟨seg_cons rfl (seg_cons rfl (seg_cons h61 (seg_snoc q1 h59))), by omega, ?_, hn, q.2.2⟩
        rcases hk with e | e | e <;> rw [e] <;> decide
    · cases h
  · cases h
theorem pPsh_t (i : Int) (s : SS c) (j : Int) (hk : T i = 202 ∨ T i = 203) (h : pPsh c T i = .ok (s, j)) (h59 : T j = 59) : seg T i (j + 1) (kS s) ∧ i < j ∧ wS false s := by
  unfold pPsh at h
  split at h
  · rename_i hn
    split at h
    · rename_i hs
      cases h
      refine ⟨?_, by omega, rfl, hk, hn, hs⟩
      rw [show i + 3 = i + 1 + 1 + 1 by omega] at h59 ⊢
      rw [show i + 2 = i + 1 + 1 by omega]
      exact seg_cons rfl (seg_cons rfl (seg_cons rfl (seg_one h59)))
    · cases h
  · cases h
theorem pNew_t (hlow : ∀ i, -1000000000 ≤ T i) (i : Int) (s : SS c) (j : Int) (hk : T i = 204 ∨ T i = 205) (h : pNew c T i = .ok (s, j)) (h59 : T j = 59) : seg T i (j + 1) (kS s) ∧ i < j ∧ wS false s := by
  unfold pNew at h
  split at h
  · rename_i hr
    split at h
    · rename_i hd
      split at h
      · cases h
      · rename_i e k h1
        cases h
        have q := pX_t hlow _ _ _ h1
        have q1 := q.1
        rw [show i + 3 = i + 1 + 1 + 1 by omega] at q1
        refine ⟨?_, by omega, rfl, hk, hr, hd, q.2.2⟩
        rw [show i + 2 = i + 1 + 1 by omega]
        exact seg_cons rfl (seg_cons rfl (seg_cons rfl (seg_snoc q1 h59)))
    · cases h
  · cases h
theorem pCal_t (i : Int) (s : SS c) (j : Int) (hk : T i = 206 ∨ T i = 207) (h : pCal c T i = .ok (s, j)) (h59 : T j = 59) : seg T i (j + 1) (kS s) ∧ i < j ∧ wS false s := by
  unfold pCal at h
  split at h
  · rename_i hn
    split at h
    · cases h
    · rename_i h10
      cases h
      refine ⟨?_, by omega, rfl, hk, by omega, hn⟩
      rw [show i + 2 = i + 1 + 1 by omega] at h59 ⊢
      exact seg_cons rfl (seg_cons rfl (seg_one h59))
  · cases h
/-- what a part read comes to -/
def PTt (T : Int → Int) {B : Type} (kb : B → List Int) (wb : Bool → B → Prop) (nb : B → Nat) (pt : Int → Sg → PS B) : Prop := ∀ (i : Int) (σ : Sg) (x : B) (j : Int) (σ' : Sg) (o : Bool), pt i σ = .ok (x, j, σ') → σ.2 = (1, bB o) → i < j ∧ seg T i j (123 :: (kb x ++ [125])) ∧ wb o x ∧ σ'.2 = σ.2 ∧ σ'.1 = σ.1 + nb x
theorem pTwo_t {B : Type} {kb : B → List Int} {wb : Bool → B → Prop} {nb : B → Nat} {pt : Int → Sg → PS B} (hp : PTt T kb wb nb pt) (key i : Int) (σ : Sg) (x y : B) (j : Int) (σ' : Sg) (o : Bool) (h : pTwo T pt key i σ = .ok ((x, y), j, σ')) (hσ : σ.2 = (1, bB o)) : i < j ∧ seg T i j (123 :: (kb x ++ 125 :: key :: 123 :: (kb y ++ [125]))) ∧ wb o x ∧ wb o y ∧ σ'.2 = σ.2 ∧ σ'.1 = σ.1 + nb x + nb y := by
  unfold pTwo at h
  split at h
  · cases h
  · rename_i x1 j1 σ1 h1
    have q1 := hp _ _ _ _ _ o h1 hσ
    split at h
    · rename_i hk
      split at h
      · cases h
      · rename_i y1 j2 σ2 h2
        cases h
        have q2 := hp _ _ _ _ _ o h2 (by rw [q1.2.2.2.1]; exact hσ)
        refine ⟨by omega, ?_, q1.2.2.1, q2.2.2.1, by rw [q2.2.2.2.1, q1.2.2.2.1], by have := q1.2.2.2.2; have := q2.2.2.2.2; omega⟩
        have := seg_app q1.2.1 (seg_cons hk q2.2.1)
        simpa [List.append_assoc] using this
    · cases h
theorem bB_inj {a b : Bool} (h : bB a = bB b) : a = b := by cases a <;> cases b <;> first | rfl | (exfalso; revert h; decide)
theorem pIn_t (hlow : ∀ i, -1000000000 ≤ T i) {B : Type} {kb : B → List Int} {wb : Bool → B → Prop} {nb : B → Nat} {pt : Int → Sg → PS B} (hp : PTt T kb wb nb pt) (i : Int) (σ : Sg) (s : SS c ⊕ CC c B) (j : Int) (σ' : Sg) (h : pIn c T pt i σ = .ok (s, j, σ')) (hσ : σ.2 = (1, bB (kOrd (T i)))) (hB : kBeg (T i) = true) (h59 : T j = 59) : seg T i (j + 1) (k1 kb s) ∧ i < j ∧ w1 (kOrd (T i)) (wb (kOrd (T i))) s ∧ σ'.2 = σ.2 ∧ σ'.1 + nIns (T i) = σ.1 + n1 nb s := by
  have hs : ∀ (r : PR (SS c)), (∀ s j, r = .ok (s, j) → T j = 59 → seg T i (j + 1) (kS s) ∧ i < j ∧ wS (kOrd (T i)) s) → nIns (T i) = 1 → (asS (lf σ r) : PS (SS c ⊕ CC c B)) = .ok (s, j, σ') → seg T i (j + 1) (k1 kb s) ∧ i < j ∧ w1 (kOrd (T i)) (wb (kOrd (T i))) s ∧ σ'.2 = σ.2 ∧ σ'.1 + nIns (T i) = σ.1 + n1 nb s := by
    intro r hr hn he
    cases r with
    | error e => cases he
    | ok q =>
      obtain ⟨s1, j1⟩ := q
      cases he
      have q := hr _ _ rfl h59
      exact ⟨q.1, q.2.1, q.2.2, rfl, by rw [hn]; rfl⟩
  unfold pIn at h
  split at h
  · rename_i h1
    have hx : (97 ≤ T i ∧ T i ≤ 122) ∨ (65 ≤ T i ∧ T i ≤ 70) := by unfold kName kRow at h1; simp at h1; omega
    have ho : kOrd (T i) = false := by unfold kOrd; simp; omega
    exact hs _ (fun s j hh h59 => by rw [ho]; exact pChg_t hlow _ _ _ hh h59) (nIns_1 (by omega)) h
  · split at h
    · rename_i h1
      exact hs _ (fun s j hh h59 => pLet_t hlow _ _ _ h1 hh h59) (nIns_1 (by omega)) h
    · split at h
      · rename_i h1
        have ho : kOrd (T i) = false := by unfold kOrd; simp; omega
        exact hs _ (fun s j hh h59 => by rw [ho]; exact pPsh_t _ _ _ h1 hh h59) (nIns_1 (by omega)) h
      · split at h
        · rename_i h1
          have ho : kOrd (T i) = false := by unfold kOrd; simp; omega
          exact hs _ (fun s j hh h59 => by rw [ho]; exact pNew_t hlow _ _ _ h1 hh h59) (nIns_1 (by omega)) h
        · split at h
          · rename_i h1
            have ho : kOrd (T i) = false := by unfold kOrd; simp; omega
            exact hs _ (fun s j hh h59 => by rw [ho]; exact pCal_t _ _ _ h1 hh h59) (nIns_1 (by omega)) h
          · have hif : ∀ K1 K2, (T i = 208 ∧ K1 = 209 ∧ K2 = 210) ∨ (T i = 211 ∧ K1 = 212 ∧ K2 = 213) → pIf c T pt K1 K2 i σ = .ok (s, j, σ') → seg T i (j + 1) (k1 kb s) ∧ i < j ∧ w1 (kOrd (T i)) (wb (kOrd (T i))) s ∧ σ'.2 = σ.2 ∧ σ'.1 + nIns (T i) = σ.1 + n1 nb s := by
              intro K1 K2 hK he
              have ho : kOrd (T i) = false := by unfold kOrd; simp; omega
              have hn3 : nIns (T i) = 3 := by rcases hK with q | q <;> rw [q.1] <;> rfl
              unfold pIf at he
              split at he
              · cases he
              · rename_i e1 j1 h1
                have q1 := pX_t hlow _ _ _ h1
                split at he
                · cases he
                · rename_i x y j2 σ2 h2
                  have q2 := pTwo_t hp _ _ _ _ _ _ _ (kOrd (T i)) h2 hσ
                  split at he
                  · rename_i hk2
                    split at he
                    · cases he
                    · rename_i e2 j3 h3
                      cases he
                      have q3 := pX_t hlow _ _ _ h3
                      refine ⟨?_, by omega, ⟨ho, by omega, q1.2.2, q2.2.2.1, q2.2.2.2.1, q3.2.2⟩, q2.2.2.2.2.1, ?_⟩
                      · have := seg_cons (v := T i) rfl (seg_app q1.1 (seg_app q2.2.1 (seg_cons hk2 (seg_snoc q3.1 h59))))
                        rcases hK with ⟨a, rfl, rfl⟩ | ⟨a, rfl, rfl⟩ <;> simpa [k1, kC, List.append_assoc, a] using this
                      · have := q2.2.2.2.2.2
                        show σ'.1 + nIns (T i) = σ.1 + ((nb x + nb y + 3 : Nat) : Int)
                        omega
                  · cases he
            split at h
            · rename_i h1; exact hif _ _ (Or.inl ⟨h1, rfl, rfl⟩) h
            · split at h
              · rename_i h1; exact hif _ _ (Or.inr ⟨h1, rfl, rfl⟩) h
              · split at h
                · rename_i h216
                  have ho : kOrd (T i) = true := by rw [h216]; rfl
                  have hn3 : nIns (T i) = 3 := by rw [h216]; rfl
                  unfold pWhen at h
                  split at h
                  · cases h
                  · rename_i e1 j1 h1
                    have q1 := pX_t hlow _ _ _ h1
                    split at h
                    · cases h
                    · rename_i x y j2 σ2 h2
                      cases h
                      have q2 := pTwo_t hp _ _ _ _ _ _ _ (kOrd (T i)) h2 hσ
                      refine ⟨?_, by omega, ⟨ho, q1.2.2, q2.2.2.1, q2.2.2.2.1⟩, q2.2.2.2.2.1, ?_⟩
                      · have := seg_cons h216 (seg_app q1.1 (seg_snoc q2.2.1 h59))
                        simpa [k1, kC, List.append_assoc] using this
                      · have := q2.2.2.2.2.2
                        show σ'.1 + nIns (T i) = σ.1 + ((nb x + nb y + 3 : Nat) : Int)
                        omega
                · have h215 : T i = 215 := by
                    rename_i n1 n2 n3 n4 n5 n6 n7 n8
                    unfold kBeg at hB; unfold kName kRow at n1; simp at hB n1; omega
                  have ho : kOrd (T i) = true := by rw [h215]; rfl
                  have hn2 : nIns (T i) = 2 := by rw [h215]; rfl
                  unfold pWhile at h
                  split at h
                  · cases h
                  · rename_i e1 j1 h1
                    have q1 := pX_t hlow _ _ _ h1
                    split at h
                    · cases h
                    · rename_i x j2 σ2 h2
                      cases h
                      have q2 := hp _ _ _ _ _ (kOrd (T i)) h2 hσ
                      refine ⟨?_, by omega, ⟨ho, q1.2.2, q2.2.2.1⟩, q2.2.2.2.1, ?_⟩
                      · have := seg_cons h215 (seg_app q1.1 (seg_snoc q2.2.1 h59))
                        simpa [k1, kC, List.append_assoc] using this
                      · have := q2.2.2.2.2
                        show σ'.1 + nIns (T i) = σ.1 + ((nb x + 2 : Nat) : Int)
                        omega
end
