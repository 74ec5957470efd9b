/-! Where reading ends, or fails: within the tokens -/
def bR (len : Int) {α : Type} : PR α → Prop
  | .error (_, e, _) => 0 ≤ e ∧ e ≤ len
  | .ok (_, j) => 0 ≤ j ∧ j ≤ len
def bS (len : Int) {α : Type} : PS α → Prop
  | .error ((_, e, _), _) => 0 ≤ e ∧ e ≤ len
  | .ok (_, j, _) => 0 ≤ j ∧ j ≤ len
section
variable {c : Nat} {T : Int → Int} {len : Int}
theorem knz {v : Int} (h : kName v = true ∨ kRow v = true ∨ kStk v = true ∨ kKind v = true ∨ kPair v = true ∨ kSum v = true ∨ kPro v = true ∨ kNum v = true ∨ kBeg v = true) : ¬ v = 0 := by
  unfold kName kRow kStk kKind kPair kSum kPro kNum kBeg at h
  simp only [decide_eq_true_eq] at h
  omega
theorem pMore_b (hT : ∀ i, ¬ T i = 0 → 0 ≤ i ∧ i < len) {F : Type} {pf : Int → PR F} {sg : Int → Bool} (hsg : ∀ v, sg v = true → ¬ v = 0) (hf : ∀ i, 0 ≤ i → i ≤ len → bR len (pf i)) : ∀ (n : Nat) (i : Int), 0 ≤ i → i ≤ len → bR len (pMore T pf sg n i) := by
  intro n
  induction n with
  | zero => intro i h0 h1; exact ⟨h0, h1⟩
  | succ n ih =>
    intro i h0 h1
    unfold pMore
    by_cases hs : sg (T i) = true
    · rw [if_pos hs]
      have hi := hT i (hsg _ hs)
      have h2 := hf (i + 1) (by omega) (by omega)
      cases hp : pf (i + 1) with
      | error e => rw [hp] at h2; exact h2
      | ok q =>
        obtain ⟨x, j⟩ := q
        rw [hp] at h2
        have h3 := ih j h2.1 h2.2
        dsimp only
        cases hp2 : pMore T pf sg n j with
        | error e => rw [hp2] at h3; exact h3
        | ok q => obtain ⟨l, k⟩ := q; rw [hp2] at h3; exact h3
    · rw [if_neg hs]; exact ⟨h0, h1⟩
theorem pTX_b (hT : ∀ i, ¬ T i = 0 → 0 ≤ i ∧ i < len) {F : Type} {pf : Int → PR F} (hf : ∀ i, 0 ≤ i → i ≤ len → bR len (pf i)) (i : Int) (h0 : 0 ≤ i) (h1 : i ≤ len) : bR len (pTX T pf i) := by
  unfold pTX
  have h2 := hf i h0 h1
  cases hp : pf i with
  | error e => rw [hp] at h2; exact h2
  | ok q =>
    obtain ⟨x, j⟩ := q
    rw [hp] at h2
    have h3 := pMore_b hT (sg := kPro) (fun v h => knz (by simp [h])) hf 600 j h2.1 h2.2
    dsimp only
    cases hp2 : pMore T pf kPro 600 j with
    | error e => rw [hp2] at h3; exact h3
    | ok q => obtain ⟨l, k⟩ := q; rw [hp2] at h3; exact h3
theorem pEX_b (hT : ∀ i, ¬ T i = 0 → 0 ≤ i ∧ i < len) {F : Type} {pf : Int → PR F} (hf : ∀ i, 0 ≤ i → i ≤ len → bR len (pf i)) (i : Int) (h0 : 0 ≤ i) (h1 : i ≤ len) : bR len (pEX T pf i) := by
  unfold pEX
  have h2 := hf i h0 h1
  cases hp : pf i with
  | error e => rw [hp] at h2; exact h2
  | ok q =>
    obtain ⟨x, j⟩ := q
    rw [hp] at h2
    have h3 := pMore_b hT (sg := kSum) (fun v h => knz (by simp [h])) hf 600 j h2.1 h2.2
    dsimp only
    cases hp2 : pMore T pf kSum 600 j with
    | error e => rw [hp2] at h3; exact h3
    | ok q => obtain ⟨l, k⟩ := q; rw [hp2] at h3; exact h3
theorem pE_b (hT : ∀ i, ¬ T i = 0 → 0 ≤ i ∧ i < len) {F : Type} {pf : Int → PR F} (hf : ∀ i, 0 ≤ i → i ≤ len → bR len (pf i)) (i : Int) (h0 : 0 ≤ i) (h1 : i ≤ len) : bR len (pE T pf i) := pEX_b hT (pTX_b hT hf) i h0 h1
theorem pL_b (hT : ∀ i, ¬ T i = 0 → 0 ≤ i ∧ i < len) (i : Int) (h0 : 0 ≤ i) (h1 : i ≤ len) : bR len (pL T i) := by
  unfold pL
  by_cases e : T i = 35
  · rw [if_pos e]
    have hi := hT i (by omega)
    by_cases e2 : kRow (T (i + 1)) = true
    · rw [if_pos e2]; have := hT (i + 1) (knz (by simp [e2])); exact ⟨by omega, by omega⟩
    · rw [if_neg e2]; exact ⟨by omega, by omega⟩
  · rw [if_neg e]
    by_cases e2 : kNum (T i) = true ∨ kName (T i) = true
    · rw [if_pos e2]
      have := hT i (knz (by rcases e2 with e2 | e2 <;> simp [e2]))
      exact ⟨by omega, by omega⟩
    · rw [if_neg e2]; exact ⟨by omega, by omega⟩
theorem pF_b (hT : ∀ i, ¬ T i = 0 → 0 ≤ i ∧ i < len) : ∀ (n : Nat) (i : Int), 0 ≤ i → i ≤ len → bR len (pF T n i) := by
  intro n
  induction n with
  | zero =>
    intro i h0 h1
    unfold pF
    by_cases e : T i = 45 ∨ T i = 40
    · rw [if_pos e]; exact ⟨h0, h1⟩
    · rw [if_neg e]
      by_cases e2 : kRow (T i) = true
      · rw [if_pos e2]
        have := hT i (knz (by simp [e2]))
        split
        · exact ⟨by omega, by omega⟩
        · exact ⟨by omega, by omega⟩
      · rw [if_neg e2]; exact pL_b hT i h0 h1
  | succ n ih =>
    intro i h0 h1
    unfold pF
    by_cases e : T i = 45
    · rw [if_pos e]
      have hi := hT i (by omega)
      have h2 := ih (i + 1) (by omega) (by omega)
      cases hp : pF T n (i + 1) with
      | error e => rw [hp] at h2; exact h2
      | ok q => obtain ⟨x, j⟩ := q; rw [hp] at h2; exact h2
    · rw [if_neg e]
      by_cases e2 : T i = 40
      · rw [if_pos e2]
        have hi := hT i (by omega)
        have h2 := pE_b hT ih (i + 1) (by omega) (by omega)
        cases hp : pE T (pF T n) (i + 1) with
        | error e => rw [hp] at h2; exact h2
        | ok q =>
          obtain ⟨x, j⟩ := q
          rw [hp] at h2
          dsimp only
          by_cases e3 : T j = 60 ∨ T j = 61
          · rw [if_pos e3]
            have hj := hT j (by omega)
            have h3 := pE_b hT ih (j + 1) (by omega) (by omega)
            cases hp2 : pE T (pF T n) (j + 1) with
            | error e => rw [hp2] at h3; exact h3
            | ok q =>
              obtain ⟨y, k⟩ := q
              rw [hp2] at h3
              dsimp only
              by_cases e4 : T k = 41
              · rw [if_pos e4]; have := hT k (by omega); exact ⟨by omega, by omega⟩
              · rw [if_neg e4]; exact h3
          · rw [if_neg e3]
            by_cases e4 : T j = 41
            · rw [if_pos e4]; have := hT j (by omega); exact ⟨by omega, by omega⟩
            · rw [if_neg e4]; exact h2
      · rw [if_neg e2]
        by_cases e3 : kRow (T i) = true
        · rw [if_pos e3]
          have hi := hT i (knz (by simp [e3]))
          by_cases e4 : T (i + 1) = 91
          · rw [if_pos e4]
            have hi1 := hT (i + 1) (by omega)
            have h2 := pE_b hT ih (i + 2) (by omega) (by omega)
            cases hp : pE T (pF T n) (i + 2) with
            | error e => rw [hp] at h2; exact h2
            | ok q =>
              obtain ⟨x, j⟩ := q
              rw [hp] at h2
              dsimp only
              by_cases e5 : T j = 93
              · rw [if_pos e5]; have := hT j (by omega); exact ⟨by omega, by omega⟩
              · rw [if_neg e5]; exact h2
          · rw [if_neg e4]; exact ⟨by omega, by omega⟩
        · rw [if_neg e3]
          have h2 := pL_b hT i h0 h1
          cases hp : pL T i with
          | error e => rw [hp] at h2; exact h2
          | ok q => obtain ⟨x, j⟩ := q; rw [hp] at h2; exact h2
theorem pX_b (hT : ∀ i, ¬ T i = 0 → 0 ≤ i ∧ i < len) (i : Int) (h0 : 0 ≤ i) (h1 : i ≤ len) : bR len (pX c T i) := pE_b hT (pF_b hT c) i h0 h1
theorem pP_b (hT : ∀ i, ¬ T i = 0 → 0 ≤ i ∧ i < len) (i : Int) (h0 : 0 ≤ i) (h1 : i ≤ len) : bR len (pP c T i) := by
  unfold pP
  by_cases e3 : kRow (T i) = true
  · rw [if_pos e3]
    have hi := hT i (knz (by simp [e3]))
    by_cases e4 : T (i + 1) = 91
    · rw [if_pos e4]
      have hi1 := hT (i + 1) (by omega)
      have h2 := pX_b (c := c) hT (i + 2) (by omega) (by omega)
      cases hp : pX c T (i + 2) with
      | error e => rw [hp] at h2; exact h2
      | ok q =>
        obtain ⟨x, j⟩ := q
        rw [hp] at h2
        dsimp only
        by_cases e5 : T j = 93
        · rw [if_pos e5]; have := hT j (by omega); exact ⟨by omega, by omega⟩
        · rw [if_neg e5]; exact h2
    · rw [if_neg e4]; exact ⟨by omega, by omega⟩
  · rw [if_neg e3]
    by_cases e4 : kName (T i) = true
    · rw [if_pos e4]; have := hT i (knz (by simp [e4])); exact ⟨by omega, by omega⟩
    · rw [if_neg e4]; exact ⟨h0, h1⟩
theorem pChg_b (hT : ∀ i, ¬ T i = 0 → 0 ≤ i ∧ i < len) (i : Int) (h0 : 0 ≤ i) (h1 : i ≤ len) : bR len (pChg c T i) := by
  unfold pChg
  have h2 := pP_b (c := c) hT i h0 h1
  cases hp : pP c T i with
  | error e => rw [hp] at h2; exact h2
  | ok q =>
    obtain ⟨x, j⟩ := q
    rw [hp] at h2
    dsimp only
    by_cases e : kPair (T j) = true
    · rw [if_pos e]
      have hj := hT j (knz (by simp [e]))
      by_cases e2 : T j = 133
      · rw [if_pos e2]
        have h3 := pP_b (c := c) hT (j + 1) (by omega) (by omega)
        cases hp2 : pP c T (j + 1) with
        | error e => rw [hp2] at h3; exact h3
        | ok q => obtain ⟨y, k⟩ := q; rw [hp2] at h3; exact h3
      · rw [if_neg e2]
        have h3 := pX_b (c := c) hT (j + 1) (by omega) (by omega)
        cases hp2 : pX c T (j + 1) with
        | error e => rw [hp2] at h3; exact h3
        | ok q => obtain ⟨y, k⟩ := q; rw [hp2] at h3; exact h3
    · rw [if_neg e]; exact h2
theorem pLet_b (hT : ∀ i, ¬ T i = 0 → 0 ≤ i ∧ i < len) (i : Int) (h0 : 0 ≤ i) (h1 : i < len) : bR len (pLet c T i) := by
  unfold pLet
  by_cases e : kName (T (i + 1)) = true
  · rw [if_pos e]
    have hi := hT _ (knz (v := T (i + 1)) (by simp [e]))
    by_cases e2 : T (i + 2) = 61
    · rw [if_pos e2]
      have hi2 := hT (i + 2) (by omega)
      have h3 := pX_b (c := c) hT (i + 3) (by omega) (by omega)
      cases hp2 : pX c T (i + 3) with
      | error e => rw [hp2] at h3; exact h3
      | ok q => obtain ⟨y, k⟩ := q; rw [hp2] at h3; exact h3
    · rw [if_neg e2]; exact ⟨by omega, by omega⟩
  · rw [if_neg e]; exact ⟨by omega, by omega⟩
theorem pPsh_b (hT : ∀ i, ¬ T i = 0 → 0 ≤ i ∧ i < len) (i : Int) (h0 : 0 ≤ i) (h1 : i < len) : bR len (pPsh c T i) := by
  unfold pPsh
  by_cases e : kName (T (i + 1)) = true
  · rw [if_pos e]
    have hi := hT _ (knz (v := T (i + 1)) (by simp [e]))
    by_cases e2 : kStk (T (i + 2)) = true
    · rw [if_pos e2]; have := hT _ (knz (v := T (i + 2)) (by simp [e2])); exact ⟨by omega, by omega⟩
    · rw [if_neg e2]; exact ⟨by omega, by omega⟩
  · rw [if_neg e]; exact ⟨by omega, by omega⟩
theorem pNew_b (hT : ∀ i, ¬ T i = 0 → 0 ≤ i ∧ i < len) (i : Int) (h0 : 0 ≤ i) (h1 : i < len) : bR len (pNew c T i) := by
  unfold pNew
  by_cases e : kRow (T (i + 1)) = true
  · rw [if_pos e]
    have hi := hT _ (knz (v := T (i + 1)) (by simp [e]))
    by_cases e2 : kKind (T (i + 2)) = true
    · rw [if_pos e2]
      have hi2 := hT _ (knz (v := T (i + 2)) (by simp [e2]))
      have h3 := pX_b (c := c) hT (i + 3) (by omega) (by omega)
      cases hp2 : pX c T (i + 3) with
      | error e => rw [hp2] at h3; exact h3
      | ok q => obtain ⟨y, k⟩ := q; rw [hp2] at h3; exact h3
    · rw [if_neg e2]; exact ⟨by omega, by omega⟩
  · rw [if_neg e]; exact ⟨by omega, by omega⟩
theorem pCal_b (hT : ∀ i, ¬ T i = 0 → 0 ≤ i ∧ i < len) (i : Int) (h0 : 0 ≤ i) (h1 : i < len) : bR len (pCal c T i) := by
  unfold pCal
  by_cases e : T (i + 1) < 0
  · rw [if_pos e]
    have hi := hT (i + 1) (by omega)
    by_cases e2 : T (i + 1) < -10
    · rw [if_pos e2]; exact ⟨by omega, by omega⟩
    · rw [if_neg e2]; exact ⟨by omega, by omega⟩
  · rw [if_neg e]; exact ⟨by omega, by omega⟩
theorem lf_b {α : Type} {σ : Sg} {r : PR α} (h : bR len r) : bS len (lf σ r) := by
  cases r with
  | error e => exact h
  | ok q => exact h
theorem asS_b {B : Type} {r : PS (SS c)} (h : bS len r) : bS len (asS r : PS (SS c ⊕ CC c B)) := by
  cases r with
  | error e => exact h
  | ok q => exact h
theorem pTwo_b (hT : ∀ i, ¬ T i = 0 → 0 ≤ i ∧ i < len) {B : Type} {pt : Int → Sg → PS B} (hp : ∀ i σ, 0 ≤ i → i ≤ len → bS len (pt i σ)) {key : Int} (hk : ¬ key = 0) (i : Int) (σ : Sg) (h0 : 0 ≤ i) (h1 : i ≤ len) : bS len (pTwo T pt key i σ) := by
  unfold pTwo
  have h2 := hp i σ h0 h1
  cases hq : pt i σ with
  | error e => rw [hq] at h2; exact h2
  | ok q =>
    obtain ⟨x, j, σ1⟩ := q
    rw [hq] at h2
    dsimp only
    by_cases e : T j = key
    · rw [if_pos e]
      have hj := hT j (by omega)
      have h3 := hp (j + 1) σ1 (by omega) (by omega)
      cases hq2 : pt (j + 1) σ1 with
      | error e => rw [hq2] at h3; exact h3
      | ok q => obtain ⟨y, k, σ2⟩ := q; rw [hq2] at h3; exact h3
    · rw [if_neg e]; exact h2
theorem pIf_b (hT : ∀ i, ¬ T i = 0 → 0 ≤ i ∧ i < len) {B : Type} {pt : Int → Sg → PS B} (hp : ∀ i σ, 0 ≤ i → i ≤ len → bS len (pt i σ)) {a b : Int} (ha : ¬ a = 0) (hb : ¬ b = 0) (i : Int) (σ : Sg) (h0 : 0 ≤ i) (h1 : i < len) : bS len (pIf c T pt a b i σ) := by
  unfold pIf
  have h2 := pX_b (c := c) hT (i + 1) (by omega) (by omega)
  cases hq : pX c T (i + 1) with
  | error e => rw [hq] at h2; exact h2
  | ok q =>
    obtain ⟨e1, j⟩ := q
    rw [hq] at h2
    dsimp only
    have h3 := pTwo_b hT hp ha j σ h2.1 h2.2
    cases hq2 : pTwo T pt a j σ with
    | error e => rw [hq2] at h3; exact h3
    | ok q =>
      obtain ⟨⟨x, y⟩, k, σ1⟩ := q
      rw [hq2] at h3
      dsimp only
      by_cases e : T k = b
      · rw [if_pos e]
        have hk := hT k (by omega)
        have h4 := pX_b (c := c) hT (k + 1) (by omega) (by omega)
        cases hq3 : pX c T (k + 1) with
        | error e => rw [hq3] at h4; exact h4
        | ok q => obtain ⟨e2, l⟩ := q; rw [hq3] at h4; exact h4
      · rw [if_neg e]; exact h3
theorem pWhen_b (hT : ∀ i, ¬ T i = 0 → 0 ≤ i ∧ i < len) {B : Type} {pt : Int → Sg → PS B} (hp : ∀ i σ, 0 ≤ i → i ≤ len → bS len (pt i σ)) (i : Int) (σ : Sg) (h0 : 0 ≤ i) (h1 : i < len) : bS len (pWhen c T pt i σ) := by
  unfold pWhen
  have h2 := pX_b (c := c) hT (i + 1) (by omega) (by omega)
  cases hq : pX c T (i + 1) with
  | error e => rw [hq] at h2; exact h2
  | ok q =>
    obtain ⟨e1, j⟩ := q
    rw [hq] at h2
    dsimp only
    have h3 := pTwo_b hT hp (key := 209) (by omega) j σ h2.1 h2.2
    cases hq2 : pTwo T pt 209 j σ with
    | error e => rw [hq2] at h3; exact h3
    | ok q => obtain ⟨⟨x, y⟩, k, σ1⟩ := q; rw [hq2] at h3; exact h3
theorem pWhile_b (hT : ∀ i, ¬ T i = 0 → 0 ≤ i ∧ i < len) {B : Type} {pt : Int → Sg → PS B} (hp : ∀ i σ, 0 ≤ i → i ≤ len → bS len (pt i σ)) (i : Int) (σ : Sg) (h0 : 0 ≤ i) (h1 : i < len) : bS len (pWhile c T pt i σ) := by
  unfold pWhile
  have h2 := pX_b (c := c) hT (i + 1) (by omega) (by omega)
  cases hq : pX c T (i + 1) with
  | error e => rw [hq] at h2; exact h2
  | ok q =>
    obtain ⟨e1, j⟩ := q
    rw [hq] at h2
    dsimp only
    have h3 := hp j σ h2.1 h2.2
    cases hq2 : pt j σ with
    | error e => rw [hq2] at h3; exact h3
    | ok q => obtain ⟨x, k, σ1⟩ := q; rw [hq2] at h3; exact h3
theorem pStep_b (hT : ∀ i, ¬ T i = 0 → 0 ≤ i ∧ i < len) {B : Type} {pt : Int → Sg → PS B} (hp : ∀ i σ, 0 ≤ i → i ≤ len → bS len (pt i σ)) (i : Int) (σ : Sg) (h0 : 0 ≤ i) (h1 : i ≤ len) : bS len (pStep c T pt i σ) := by
  unfold pStep
  by_cases hB : kBeg (T i) = true
  · rw [if_pos hB]
    have hi := hT i (knz (by simp [hB]))
    by_cases e : σ.2.1 = 1 ∧ ¬ σ.2.2 = bB (kOrd (T i))
    · rw [if_pos e]; exact ⟨h0, h1⟩
    · rw [if_neg e]
      have h2 : bS len (pIn c T pt i (σ.1, 1, bB (kOrd (T i)))) := by
        unfold pIn
        split
        · exact asS_b (lf_b (pChg_b hT i h0 h1))
        · split
          · exact asS_b (lf_b (pLet_b hT i h0 hi.2))
          · split
            · exact asS_b (lf_b (pPsh_b hT i h0 hi.2))
            · split
              · exact asS_b (lf_b (pNew_b hT i h0 hi.2))
              · split
                · exact asS_b (lf_b (pCal_b hT i h0 hi.2))
                · split
                  · exact pIf_b hT hp (by omega) (by omega) i _ h0 hi.2
                  · split
                    · exact pIf_b hT hp (by omega) (by omega) i _ h0 hi.2
                    · split
                      · exact pWhen_b hT hp i _ h0 hi.2
                      · exact pWhile_b hT hp i _ h0 hi.2
      cases hq : pIn c T pt i (σ.1, 1, bB (kOrd (T i))) with
      | error e => rw [hq] at h2; exact h2
      | ok q =>
        obtain ⟨s, j, σ2⟩ := q
        rw [hq] at h2
        dsimp only
        by_cases e1 : T j = 59
        · rw [if_pos e1]
          have hj := hT j (by omega)
          split
          · exact ⟨h0, h1⟩
          · split
            · exact ⟨by omega, by omega⟩
            · exact ⟨h0, h1⟩
        · rw [if_neg e1]; exact h2
  · rw [if_neg hB]; exact ⟨h0, h1⟩
theorem pStps_b {S : Type} {ps : Int → Sg → PS S} {stop : Int} (hp : ∀ i σ, 0 ≤ i → i ≤ len → bS len (ps i σ)) : ∀ (m : Nat) (i : Int) (σ : Sg), 0 ≤ i → i ≤ len → bS len (pStps T ps stop m i σ) := by
  intro m
  induction m with
  | zero => intro i σ h0 h1; exact ⟨h0, h1⟩
  | succ m ih =>
    intro i σ h0 h1
    unfold pStps
    by_cases e : T i = stop
    · rw [if_pos e]; exact ⟨h0, h1⟩
    · rw [if_neg e]
      have h2 := hp i σ h0 h1
      cases hq : ps i σ with
      | error e => rw [hq] at h2; exact h2
      | ok q =>
        obtain ⟨s, j, σ1⟩ := q
        rw [hq] at h2
        dsimp only
        have h3 := ih j σ1 h2.1 h2.2
        cases hq2 : pStps T ps stop m j σ1 with
        | error e => rw [hq2] at h3; exact h3
        | ok q => obtain ⟨l, k, σ2⟩ := q; rw [hq2] at h3; exact h3
theorem pPt_b (hT : ∀ i, ¬ T i = 0 → 0 ≤ i ∧ i < len) : ∀ (b : Nat) (i : Int) (σ : Sg), 0 ≤ i → i ≤ len → bS len (pPt c T b i σ) := by
  intro b
  induction b with
  | zero =>
    intro i σ h0 h1
    unfold pPt
    split
    · exact ⟨h0, h1⟩
    · exact ⟨h0, h1⟩
  | succ b ih =>
    intro i σ h0 h1
    unfold pPt
    by_cases e : T i = 123
    · rw [if_pos e]
      have hi := hT i (by omega)
      have h2 := pStps_b (T := T) (stop := 125) (pStep_b (c := c) hT ih) 601 (i + 1) σ (by omega) (by omega)
      cases hq : pStps T (pStep c T (pPt c T b)) 125 601 (i + 1) σ with
      | error e => rw [hq] at h2; exact h2
      | ok q =>
        obtain ⟨l, j, σ1⟩ := q
        rw [hq] at h2
        have h125 := pStps_stop _ _ _ _ _ _ hq
        have := hT j (by omega)
        exact ⟨by omega, by omega⟩
    · rw [if_neg e]; exact ⟨h0, h1⟩
theorem pTop_b (hT : ∀ i, ¬ T i = 0 → 0 ≤ i ∧ i < len) (h : 0 ≤ len) : bS len (pTop c T) := pStps_b (pStep_b hT (pPt_b hT 5)) 601 0 (0, 0, 0) (by omega) h
end
