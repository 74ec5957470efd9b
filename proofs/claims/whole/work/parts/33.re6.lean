theorem nem {p : Prop} : (¬ p ∨ p) = True := propext ⟨fun _ => trivial, fun _ => (Classical.em p).symm⟩
/-! Text.next; Reader: stands, isInItself, step, steps -/
def nxtF (T : Int → Int) (len tk : Int) : Nat → Int → Int
  | 0, _ => len
  | n + 1, k => if T k = tk then k else nxtF T len tk n (k + 1)
def nxt (T : Int → Int) (len tk i : Int) : Int := nxtF T len tk (len - i).toNat i
theorem nxt_lt {T : Int → Int} {len tk : Int} : ∀ (n : Nat) (i j : Int), n = (len - i).toNat → j ≤ len → (nxtF T len tk n i < j ↔ hasTk T tk (j - i).toNat i = true) := by
  intro n
  induction n with
  | zero =>
    intro i j h1 h2
    have : (j - i).toNat = 0 := by omega
    rw [this]
    unfold nxtF hasTk
    simp; omega
  | succ n ih =>
    intro i j h1 h2
    by_cases hj : j ≤ i
    · have : (j - i).toNat = 0 := by omega
      rw [this]
      unfold nxtF hasTk
      have := ih (i + 1) j (by omega) h2
      rw [show (j - (i + 1)).toNat = 0 by omega] at this
      unfold hasTk at this
      split
      · simp; omega
      · exact this
    · have e : (j - i).toNat = (j - (i + 1)).toNat + 1 := by omega
      rw [e]
      unfold nxtF hasTk
      have := ih (i + 1) j (by omega) h2
      by_cases h : T i = tk
      · simp [h]; omega
      · simp [h]; exact this
section
variable {L d a c : Nat} {f t g : Mem} {Q : Option TV → Wd → Prop} {i j k b tk : Int} {σ : Sg}
theorem l_Tx_next (hT : isT a) (hl : t a 1 ≤ 1000) : ∀ (n : Nat) (k : Int), 0 ≤ k → n = (t a 1 - k).toNat → VV L (d + 1) m_Tx_next 2 [some (tA a), some (tI tk), some (tI i), some (tI k)] [] (WW f t g) Q = Q (some (tI (nxtF (tok t a) (t a 1) tk n k))) (WW f t g) := by
  intro n
  induction n with
  | zero =>
    intro k h0 hn
    rw [u_Tx_next_2]
    simp only [u_Tx_next_0, u_Tx_next_1, u_Tx_next_3, u_Tx_next_4, u_Tx_next_7, u_Tx_next_10, u_Tx_next_11, u_Tx_next_12, u_Tx_next_15, u_Tx_next_16, u_Tx_next_19, u_Tx_next_20, u_Tx_next_21, u_Tx_next_24, u_Tx_next_27, u_Tx_next_28, u_Tx_next_31, xT_0, xT_h1, xT_g1, xT_p1, ne_eq, not_false_eq_true, not_true_eq_false, true_and, and_true, true_or, or_true, eq_self, Option.toList_some, Option.toList_none, List.cons_append, List.nil_append, tc_0, tc_I, tc_L, tc_A, Nat.reduceAdd, Nat.reduceLeDiff, Nat.reduceEqDiff, Int.reduceEq, Int.reduceLT, Int.reduceLE, Int.reduceNeg, Int.reduceToNat, Int.cast_ofNat_Int, if_true, if_false, and_self, or_self, ite_self, bI_0, bI_1, bI_01, Bool.false_eq_true, reduceCtorEq, hT, show t a 1 ≤ k by omega, nxtF]
  | succ n ih =>
    intro k h0 hn
    rw [u_Tx_next_2]
    simp only [u_Tx_next_0, u_Tx_next_1, u_Tx_next_3, u_Tx_next_4, u_Tx_next_7, u_Tx_next_10, u_Tx_next_11, u_Tx_next_12, u_Tx_next_15, u_Tx_next_16, u_Tx_next_19, u_Tx_next_20, u_Tx_next_21, u_Tx_next_24, u_Tx_next_27, u_Tx_next_28, u_Tx_next_31, xT_0, xT_h1, xT_g1, xT_p1, ne_eq, not_false_eq_true, not_true_eq_false, true_and, and_true, true_or, or_true, eq_self, Option.toList_some, Option.toList_none, List.cons_append, List.nil_append, tc_0, tc_I, tc_L, tc_A, Nat.reduceAdd, Nat.reduceLeDiff, Nat.reduceEqDiff, Int.reduceEq, Int.reduceLT, Int.reduceLE, Int.reduceNeg, Int.reduceToNat, Int.cast_ofNat_Int, if_true, if_false, and_self, or_self, ite_self, bI_0, bI_1, bI_01, Bool.false_eq_true, reduceCtorEq, hT, show ¬ t a 1 ≤ k by omega, nxtF, s_Tx_token hT hl, w32_id (show (-2147483648 : Int) ≤ k + 1 by omega) (show k + 1 < (2147483648 : Int) by omega), ih (k + 1) (by omega) (by omega)]
    split <;> rfl
theorem s_Tx_next (hT : isT a) (hl : t a 1 ≤ 1000) (hi : 0 ≤ i) : VV L (d + 1) m_Tx_next 0 [some (tA a), some (tI tk), some (tI i), none] [] (WW f t g) Q = Q (some (tI (nxt (tok t a) (t a 1) tk i))) (WW f t g) := by
  simp only [u_Tx_next_0, u_Tx_next_1, u_Tx_next_3, u_Tx_next_4, u_Tx_next_7, u_Tx_next_10, u_Tx_next_11, u_Tx_next_12, u_Tx_next_15, u_Tx_next_16, u_Tx_next_19, u_Tx_next_20, u_Tx_next_21, u_Tx_next_24, u_Tx_next_27, u_Tx_next_28, u_Tx_next_31, xT_0, xT_h1, xT_g1, xT_p1, ne_eq, not_false_eq_true, not_true_eq_false, true_and, and_true, true_or, or_true, eq_self, Option.toList_some, Option.toList_none, List.cons_append, List.nil_append, tc_0, tc_I, tc_L, tc_A, Nat.reduceAdd, Nat.reduceLeDiff, Nat.reduceEqDiff, Int.reduceEq, Int.reduceLT, Int.reduceLE, Int.reduceNeg, Int.reduceToNat, Int.cast_ofNat_Int, if_true, if_false, and_self, or_self, ite_self, bI_0, bI_1, bI_01, Bool.false_eq_true, reduceCtorEq, l_Tx_next hT hl _ i hi rfl]
  rfl
theorem s_Re_stands (hT : isT a) (hl : t a 1 ≤ 1000) (hX : (f 14 1).toNat = a) (hi : 0 ≤ i) (hj : j ≤ t a 1) : VV L (d + 2) m_Re_stands 0 [some (tA 14), some (tI tk), some (tI i)] [] (WW (mset f 14 2 j) t g) Q = Q (some (tI (bB (hasTk (tok t a) tk (j - i).toNat i)))) (WW (mset f 14 2 j) t g) := by
  have h := nxt_lt (T := tok t a) (len := t a 1) (tk := tk) _ i j rfl hj
  simp only [u_Re_stands_0, u_Re_stands_1, u_Re_stands_4, u_Re_stands_5, u_Re_stands_6, u_Re_stands_9, u_Re_stands_10, u_Re_stands_13, u_Re_stands_16, u_Re_stands_17, u_Re_stands_20, u_Re_stands_21, h1_14, gt_14_1, pt_14_1, xT_0, xT_h1, gt_14_2, pt_14_2, ne_eq, not_false_eq_true, not_true_eq_false, true_and, and_true, true_or, or_true, eq_self, Option.toList_some, Option.toList_none, List.cons_append, List.nil_append, tc_0, tc_I, tc_L, tc_A, Nat.reduceAdd, Nat.reduceLeDiff, Nat.reduceEqDiff, Int.reduceEq, Int.reduceLT, Int.reduceLE, Int.reduceNeg, Int.reduceToNat, Int.cast_ofNat_Int, if_true, if_false, and_self, or_self, ite_self, bI_0, bI_1, bI_01, Bool.false_eq_true, reduceCtorEq, rd, and_true, and_false, hX, hT, s_Tx_next hT hl hi]
  unfold nxt
  by_cases h1 : hasTk (tok t a) tk (j - i).toNat i = true
  · have h2 := h.mpr h1
    simp only [h1, show ¬ j ≤ nxtF (tok t a) (t a 1) tk (t a 1 - i).toNat i by omega, ne_eq, not_false_eq_true, not_true_eq_false, true_and, and_true, true_or, or_true, eq_self, Option.toList_some, Option.toList_none, List.cons_append, List.nil_append, tc_0, tc_I, tc_L, tc_A, Nat.reduceAdd, Nat.reduceLeDiff, Nat.reduceEqDiff, Int.reduceEq, Int.reduceLT, Int.reduceLE, Int.reduceNeg, Int.reduceToNat, Int.cast_ofNat_Int, if_true, if_false, and_self, or_self, ite_self, bI_0, bI_1, bI_01, Bool.false_eq_true, reduceCtorEq, u_Re_stands_0, u_Re_stands_1, u_Re_stands_4, u_Re_stands_5, u_Re_stands_6, u_Re_stands_9, u_Re_stands_10, u_Re_stands_13, u_Re_stands_16, u_Re_stands_17, u_Re_stands_20, u_Re_stands_21, h1_14, gt_14_1, pt_14_1, xT_0, xT_h1, gt_14_2, pt_14_2, bB_t]
  · have h2 : j ≤ nxtF (tok t a) (t a 1) tk (t a 1 - i).toNat i := by
      by_cases h3 : nxtF (tok t a) (t a 1) tk (t a 1 - i).toNat i < j
      · exact absurd (h.mp h3) h1
      · omega
    simp only [h1, h2, ne_eq, not_false_eq_true, not_true_eq_false, true_and, and_true, true_or, or_true, eq_self, Option.toList_some, Option.toList_none, List.cons_append, List.nil_append, tc_0, tc_I, tc_L, tc_A, Nat.reduceAdd, Nat.reduceLeDiff, Nat.reduceEqDiff, Int.reduceEq, Int.reduceLT, Int.reduceLE, Int.reduceNeg, Int.reduceToNat, Int.cast_ofNat_Int, if_true, if_false, and_self, or_self, ite_self, bI_0, bI_1, bI_01, Bool.false_eq_true, reduceCtorEq, u_Re_stands_0, u_Re_stands_1, u_Re_stands_4, u_Re_stands_5, u_Re_stands_6, u_Re_stands_9, u_Re_stands_10, u_Re_stands_13, u_Re_stands_16, u_Re_stands_17, u_Re_stands_20, u_Re_stands_21, h1_14, gt_14_1, pt_14_1, xT_0, xT_h1, gt_14_2, pt_14_2, bB_f]
theorem s_Re_isInItself (hT : isT a) (hl : t a 1 ≤ 1000) (hX : (f 14 1).toNat = a) (hi : 0 ≤ i) (hi2 : i ≤ 1000) (hj : j ≤ t a 1) : VV L (d + 3) m_Re_isInItself 0 [some (tA 14), some (tI i), none, none] [] (WW (mset f 14 2 j) t g) Q = Q (some (tI (bB (inIt (tok t a) i j)))) (WW (mset f 14 2 j) t g) := by
  have e1 : w32 (i + 1) = i + 1 := w32_id (by omega) (by omega)
  have e2 : w32 (i + 2) = i + 2 := w32_id (by omega) (by omega)
  have e3 : w32 (i + 3) = i + 3 := w32_id (by omega) (by omega)
  simp only [u_Re_isInItself_0, u_Re_isInItself_1, u_Re_isInItself_4, u_Re_isInItself_5, u_Re_isInItself_8, u_Re_isInItself_9, u_Re_isInItself_10, u_Re_isInItself_13, u_Re_isInItself_16, u_Re_isInItself_17, u_Re_isInItself_20, u_Re_isInItself_23, u_Re_isInItself_24, u_Re_isInItself_27, u_Re_isInItself_30, u_Re_isInItself_31, u_Re_isInItself_34, u_Re_isInItself_37, u_Re_isInItself_38, u_Re_isInItself_39, u_Re_isInItself_42, u_Re_isInItself_43, u_Re_isInItself_44, u_Re_isInItself_45, u_Re_isInItself_48, u_Re_isInItself_49, u_Re_isInItself_50, u_Re_isInItself_51, u_Re_isInItself_54, u_Re_isInItself_55, u_Re_isInItself_56, u_Re_isInItself_59, u_Re_isInItself_60, u_Re_isInItself_61, u_Re_isInItself_62, u_Re_isInItself_65, u_Re_isInItself_66, u_Re_isInItself_67, u_Re_isInItself_70, u_Re_isInItself_73, u_Re_isInItself_74, u_Re_isInItself_77, u_Re_isInItself_80, u_Re_isInItself_81, u_Re_isInItself_82, u_Re_isInItself_83, u_Re_isInItself_84, u_Re_isInItself_85, u_Re_isInItself_88, u_Re_isInItself_91, u_Re_isInItself_92, u_Re_isInItself_95, u_Re_isInItself_96, h1_14, gt_14_1, pt_14_1, xT_0, xT_h1, ne_eq, not_false_eq_true, not_true_eq_false, true_and, and_true, true_or, or_true, eq_self, Option.toList_some, Option.toList_none, List.cons_append, List.nil_append, tc_0, tc_I, tc_L, tc_A, Nat.reduceAdd, Nat.reduceLeDiff, Nat.reduceEqDiff, Int.reduceEq, Int.reduceLT, Int.reduceLE, Int.reduceNeg, Int.reduceToNat, Int.cast_ofNat_Int, if_true, if_false, and_self, or_self, ite_self, bI_0, bI_1, bI_01, Bool.false_eq_true, reduceCtorEq, rd, and_true, and_false, hX, hT, s_Tx_token hT hl, s_Tk_isName, bB_0, ite_not, e1, e2, e3, s_Re_stands hT hl hX (show 0 ≤ i + 3 by omega) hj, s_Re_stands hT hl hX (show 0 ≤ i + 2 by omega) hj]
  unfold inIt
  by_cases h1 : tok t a i = 200 ∨ tok t a i = 201 ∨ tok t a i = 204 ∨ tok t a i = 205
  · rcases h1 with h | h | h | h <;> simp only [h, ne_eq, not_false_eq_true, not_true_eq_false, true_and, and_true, true_or, or_true, eq_self, Option.toList_some, Option.toList_none, List.cons_append, List.nil_append, tc_0, tc_I, tc_L, tc_A, Nat.reduceAdd, Nat.reduceLeDiff, Nat.reduceEqDiff, Int.reduceEq, Int.reduceLT, Int.reduceLE, Int.reduceNeg, Int.reduceToNat, Int.cast_ofNat_Int, if_true, if_false, and_self, or_self, ite_self, bI_0, bI_1, bI_01, Bool.false_eq_true, reduceCtorEq, bB_1, nem]
  · have q1 : ¬ tok t a i = 200 := fun h => h1 (by simp [h])
    have q2 : ¬ tok t a i = 201 := fun h => h1 (by simp [h])
    have q3 : ¬ tok t a i = 204 := fun h => h1 (by simp [h])
    have q4 : ¬ tok t a i = 205 := fun h => h1 (by simp [h])
    simp only [q1, q2, q3, q4, ne_eq, not_false_eq_true, not_true_eq_false, true_and, and_true, true_or, or_true, eq_self, Option.toList_some, Option.toList_none, List.cons_append, List.nil_append, tc_0, tc_I, tc_L, tc_A, Nat.reduceAdd, Nat.reduceLeDiff, Nat.reduceEqDiff, Int.reduceEq, Int.reduceLT, Int.reduceLE, Int.reduceNeg, Int.reduceToNat, Int.cast_ofNat_Int, if_true, if_false, and_self, or_self, ite_self, bI_0, bI_1, bI_01, Bool.false_eq_true, reduceCtorEq, bB_01]
    by_cases h2 : kName (tok t a i) = true
    · by_cases h3 : tok t a (i + 1) = 133
      · simp only [h2, h3, ne_eq, not_false_eq_true, not_true_eq_false, true_and, and_true, true_or, or_true, eq_self, Option.toList_some, Option.toList_none, List.cons_append, List.nil_append, tc_0, tc_I, tc_L, tc_A, Nat.reduceAdd, Nat.reduceLeDiff, Nat.reduceEqDiff, Int.reduceEq, Int.reduceLT, Int.reduceLE, Int.reduceNeg, Int.reduceToNat, Int.cast_ofNat_Int, if_true, if_false, and_self, or_self, ite_self, bI_0, bI_1, bI_01, Bool.false_eq_true, reduceCtorEq, bB_f, decide_false, Bool.and_false, Bool.false_and]
      · simp only [h2, h3, ne_eq, not_false_eq_true, not_true_eq_false, true_and, and_true, true_or, or_true, eq_self, Option.toList_some, Option.toList_none, List.cons_append, List.nil_append, tc_0, tc_I, tc_L, tc_A, Nat.reduceAdd, Nat.reduceLeDiff, Nat.reduceEqDiff, Int.reduceEq, Int.reduceLT, Int.reduceLE, Int.reduceNeg, Int.reduceToNat, Int.cast_ofNat_Int, if_true, if_false, and_self, or_self, ite_self, bI_0, bI_1, bI_01, Bool.false_eq_true, reduceCtorEq, decide_true, Bool.and_true, Bool.true_and]
        cases hasTk (tok t a) (tok t a i) (j - (i + 2)).toNat (i + 2) <;> simp only [bB_t, bB_f, ne_eq, not_false_eq_true, not_true_eq_false, true_and, and_true, true_or, or_true, eq_self, Option.toList_some, Option.toList_none, List.cons_append, List.nil_append, tc_0, tc_I, tc_L, tc_A, Nat.reduceAdd, Nat.reduceLeDiff, Nat.reduceEqDiff, Int.reduceEq, Int.reduceLT, Int.reduceLE, Int.reduceNeg, Int.reduceToNat, Int.cast_ofNat_Int, if_true, if_false, and_self, or_self, ite_self, bI_0, bI_1, bI_01, Bool.false_eq_true, reduceCtorEq]
    · simp only [h2, ne_eq, not_false_eq_true, not_true_eq_false, true_and, and_true, true_or, or_true, eq_self, Option.toList_some, Option.toList_none, List.cons_append, List.nil_append, tc_0, tc_I, tc_L, tc_A, Nat.reduceAdd, Nat.reduceLeDiff, Nat.reduceEqDiff, Int.reduceEq, Int.reduceLT, Int.reduceLE, Int.reduceNeg, Int.reduceToNat, Int.cast_ofNat_Int, if_true, if_false, and_self, or_self, ite_self, bI_0, bI_1, bI_01, Bool.false_eq_true, reduceCtorEq, bB_f, Bool.false_and]
theorem pTwo_ok {T : Int → Int} {B : Type} {pt : Int → Sg → PS B} (h : okPt pt) {key : Int} : okPt (pTwo T pt key) := by
  intro i σ x j σ' hσ he
  unfold pTwo at he
  split at he
  · cases he
  · rename_i x1 j1 σ1 h1
    have q1 := h _ _ _ _ _ hσ h1
    split at he
    · split at he
      · cases he
      · rename_i y k σ2 h2
        cases he
        exact h _ _ _ _ _ q1 h2
    · cases he
theorem pIn_ok {T : Int → Int} {B : Type} {pt : Int → Sg → PS B} (h : okPt pt) : okPt (pIn c T pt) := by
  intro i σ x j σ' hσ he
  have hl : ∀ (r : PR (SS c)), (asS (lf σ r) : PS (SS c ⊕ CC c B)) = .ok (x, j, σ') → okSg σ' := by
    intro r hr
    cases r with
    | error e => cases hr
    | ok z => obtain ⟨y, k⟩ := z; cases hr; exact hσ
  unfold pIn at he
  split at he
  · exact hl _ he
  split at he
  · exact hl _ he
  split at he
  · exact hl _ he
  split at he
  · exact hl _ he
  split at he
  · exact hl _ he
  have hif : ∀ k1 k2, pIf c T pt k1 k2 i σ = .ok (x, j, σ') → okSg σ' := by
    intro k1 k2 he
    unfold pIf at he
    split at he
    · cases he
    · split at he
      · cases he
      · rename_i x1 y1 k σ1 h2
        have q := pTwo_ok h _ _ _ _ _ hσ h2
        split at he
        · split at he
          · cases he
          · cases he; exact q
        · cases he
  split at he
  · exact hif _ _ he
  split at he
  · exact hif _ _ he
  split at he
  · unfold pWhen at he
    split at he
    · cases he
    · split at he
      · cases he
      · rename_i x1 y1 k σ1 h2
        cases he
        exact pTwo_ok h _ _ _ _ _ hσ h2
  · unfold pWhile at he
    split at he
    · cases he
    · split at he
      · cases he
      · rename_i x1 k σ1 h2
        cases he
        exact h _ _ _ _ _ hσ h2
theorem nIns_b {x : Int} : 1 ≤ nIns x ∧ nIns x ≤ 3 := by unfold nIns; split <;> (try split) <;> omega
theorem pStep_ok {T : Int → Int} {B : Type} {pt : Int → Sg → PS B} (h : okPt pt) : okPt (pStep c T pt) := by
  intro i σ x j σ' hσ he
  unfold pStep at he
  split at he
  · split at he
    · cases he
    · split at he
      · cases he
      · rename_i s j2 σ2 h2
        have q := pIn_ok h _ _ _ _ _ (show okSg (σ.1, 1, bB (kOrd (T i))) from ⟨Or.inr rfl, by unfold bB; split <;> simp, hσ.2.2⟩) h2
        split at he
        · split at he
          · cases he
          · split at he
            · rename_i h40
              cases he
              have := nIns_b (x := T i)
              exact ⟨q.1, q.2.1, show 0 ≤ σ2.1 + nIns (T i) by have := q.2.2.1; omega, h40⟩
            · cases he
        · cases he
  · cases he
theorem pStps_ok {T : Int → Int} {S : Type} {ps : Int → Sg → PS S} (h : okPt ps) {stop : Int} : ∀ n, okPt (pStps T ps stop n) := by
  intro n
  induction n with
  | zero => intro i σ x j σ' hσ he; cases he
  | succ n ih =>
    intro i σ x j σ' hσ he
    unfold pStps at he
    split at he
    · cases he; exact hσ
    · split at he
      · cases he
      · rename_i s j1 σ1 h1
        have q := h _ _ _ _ _ hσ h1
        split at he
        · cases he
        · rename_i l k σ2 h2
          cases he
          exact ih _ _ _ _ _ q h2
theorem pPt_ok {T : Int → Int} : ∀ b, okPt (pPt c T b) := by
  intro b
  induction b with
  | zero => intro i σ x j σ' hσ he; unfold pPt at he; split at he <;> cases he
  | succ b ih =>
    intro i σ x j σ' hσ he
    unfold pPt at he
    split at he
    · split at he
      · cases he
      · rename_i l j1 σ1 h1
        cases he
        exact pStps_ok (pStep_ok ih) _ _ _ _ _ _ hσ h1
    · cases he
theorem s_Re_step {B : Type} {pt : Int → Sg → PS B} (hT : isT a) (hl : t a 1 ≤ 1000) (hc : c = 8) (hX : (f 14 1).toNat = a) (hlow : ∀ k, -2000000000 ≤ tok t a k) (hP : PSp L (d + 43) a t g b pt) (hP2 : PSp L (d + 44) a t g b pt) (hσ : okSg σ) (hpt : okPt pt) : VV L (d + 46) m_Re_step 0 [some (tA 14), some (tI b), none, none] [] (WW (mset (sz f σ) 14 2 i) t g) Q = resS f t g Q (pStep c (tok t a) pt i σ) := by
  have hX0 : ∀ σ1, (sz f σ1 14 1).toNat = a := fun σ1 => by rw [sz_1]; exact hX
  unfold pStep
  simp only [u_Re_step_0, u_Re_step_1, u_Re_step_4, u_Re_step_5, u_Re_step_6, u_Re_step_9, u_Re_step_10, u_Re_step_13, u_Re_step_14, u_Re_step_15, u_Re_step_18, u_Re_step_21, u_Re_step_22, u_Re_step_23, u_Re_step_24, u_Re_step_27, u_Re_step_28, u_Re_step_29, u_Re_step_32, u_Re_step_35, u_Re_step_36, u_Re_step_39, u_Re_step_40, u_Re_step_43, u_Re_step_46, u_Re_step_47, u_Re_step_49, u_Re_step_50, u_Re_step_53, h1_14, gt_14_2, pt_14_2, gt_14_1, pt_14_1, xT_0, xT_h1, gt_14_6, pt_14_6, gt_14_7, pt_14_7, gt_14_5, pt_14_5, h1_14, gt_14_1, gt_14_2, gt_14_6, gt_14_7, xT_0, xT_h1, ne_eq, not_false_eq_true, not_true_eq_false, true_and, and_true, true_or, or_true, eq_self, Option.toList_some, Option.toList_none, List.cons_append, List.nil_append, tc_0, tc_I, tc_L, tc_A, Nat.reduceAdd, Nat.reduceLeDiff, Nat.reduceEqDiff, Int.reduceEq, Int.reduceLT, Int.reduceLE, Int.reduceNeg, Int.reduceToNat, Int.cast_ofNat_Int, if_true, if_false, and_self, or_self, ite_self, bI_0, bI_1, bI_01, Bool.false_eq_true, reduceCtorEq, rd, and_true, and_false, hX0, hT, s_Tx_token hT hl, s_Tk_beginsStep, s_Tk_isOrdinary, bB_0, ite_not, s_Re_fails, bg_m, sz_6, sz_7]
  by_cases hB : kBeg (tok t a i) = true
  · have h0 : ¬ tok t a i = 0 := by intro h; rw [h] at hB; cases hB
    have hi := tok_ne h0
    have h54 : VV L (d + 46) m_Re_step 54 [some (tA 14), some (tI b), some (tI i), some (tI (tok t a i))] [] (WW (mset (sz f σ) 14 2 i) t g) Q = resS f t g Q (match pIn c (tok t a) pt i (σ.1, 1, bB (kOrd (tok t a i))) with
      | .error e => .error e
      | .ok (s, j, σ2) => if tok t a j = 59 then (if inIt (tok t a) i (j + 1) = true then .error ((3, i, j + 1), σ2)
          else if σ2.1 + nIns (tok t a i) ≤ 40 then .ok (s, j + 1, (σ2.1 + nIns (tok t a i), σ2.2)) else .error ((4, i, j + 1), (σ2.1 + nIns (tok t a i), σ2.2))) else .error ((1, j, j), σ2)) := by
      simp only [u_Re_step_0, u_Re_step_1, u_Re_step_4, u_Re_step_5, u_Re_step_6, u_Re_step_9, u_Re_step_10, u_Re_step_13, u_Re_step_14, u_Re_step_15, u_Re_step_18, u_Re_step_21, u_Re_step_22, u_Re_step_23, u_Re_step_24, u_Re_step_27, u_Re_step_28, u_Re_step_29, u_Re_step_32, u_Re_step_35, u_Re_step_36, u_Re_step_39, u_Re_step_40, u_Re_step_43, u_Re_step_46, u_Re_step_47, u_Re_step_49, u_Re_step_50, u_Re_step_53, u_Re_step_54, u_Re_step_55, u_Re_step_56, u_Re_step_59, u_Re_step_60, u_Re_step_61, u_Re_step_64, u_Re_step_67, u_Re_step_68, u_Re_step_69, u_Re_step_70, u_Re_step_73, u_Re_step_76, u_Re_step_77, u_Re_step_79, u_Re_step_82, u_Re_step_85, u_Re_step_86, u_Re_step_87, u_Re_step_88, u_Re_step_89, u_Re_step_92, u_Re_step_95, u_Re_step_96, u_Re_step_97, u_Re_step_98, u_Re_step_101, u_Re_step_102, u_Re_step_103, u_Re_step_104, u_Re_step_107, u_Re_step_108, u_Re_step_111, u_Re_step_112, u_Re_step_115, u_Re_step_116, u_Re_step_119, u_Re_step_121, u_Re_step_124, u_Re_step_125, u_Re_step_126, u_Re_step_127, u_Re_step_130, u_Re_step_133, u_Re_step_134, u_Re_step_137, u_Re_step_138, h1_14, gt_14_2, pt_14_2, gt_14_1, pt_14_1, xT_0, xT_h1, gt_14_6, pt_14_6, gt_14_7, pt_14_7, gt_14_5, pt_14_5, ne_eq, not_false_eq_true, not_true_eq_false, true_and, and_true, true_or, or_true, eq_self, Option.toList_some, Option.toList_none, List.cons_append, List.nil_append, tc_0, tc_I, tc_L, tc_A, Nat.reduceAdd, Nat.reduceLeDiff, Nat.reduceEqDiff, Int.reduceEq, Int.reduceLT, Int.reduceLE, Int.reduceNeg, Int.reduceToNat, Int.cast_ofNat_Int, if_true, if_false, and_self, or_self, ite_self, bI_0, bI_1, bI_01, Bool.false_eq_true, reduceCtorEq, s_Tk_isOrdinary, bB_1, nem, bB_0, sz_w6, sz_w7, s_Re_inner hT hl hc hX hlow (show okSg (σ.1, 1, bB (kOrd (tok t a i))) from ⟨Or.inr rfl, by unfold bB; split <;> simp, hσ.2.2⟩) hpt hP hP2 hB]
      split
      · rename_i e he
        obtain ⟨e, σ1⟩ := e
        rw [he]
        simp only [resS_er, u_Re_step_0, u_Re_step_1, u_Re_step_4, u_Re_step_5, u_Re_step_6, u_Re_step_9, u_Re_step_10, u_Re_step_13, u_Re_step_14, u_Re_step_15, u_Re_step_18, u_Re_step_21, u_Re_step_22, u_Re_step_23, u_Re_step_24, u_Re_step_27, u_Re_step_28, u_Re_step_29, u_Re_step_32, u_Re_step_35, u_Re_step_36, u_Re_step_39, u_Re_step_40, u_Re_step_43, u_Re_step_46, u_Re_step_47, u_Re_step_49, u_Re_step_50, u_Re_step_53, u_Re_step_54, u_Re_step_55, u_Re_step_56, u_Re_step_59, u_Re_step_60, u_Re_step_61, u_Re_step_64, u_Re_step_67, u_Re_step_68, u_Re_step_69, u_Re_step_70, u_Re_step_73, u_Re_step_76, u_Re_step_77, u_Re_step_79, u_Re_step_82, u_Re_step_85, u_Re_step_86, u_Re_step_87, u_Re_step_88, u_Re_step_89, u_Re_step_92, u_Re_step_95, u_Re_step_96, u_Re_step_97, u_Re_step_98, u_Re_step_101, u_Re_step_102, u_Re_step_103, u_Re_step_104, u_Re_step_107, u_Re_step_108, u_Re_step_111, u_Re_step_112, u_Re_step_115, u_Re_step_116, u_Re_step_119, u_Re_step_121, u_Re_step_124, u_Re_step_125, u_Re_step_126, u_Re_step_127, u_Re_step_130, u_Re_step_133, u_Re_step_134, u_Re_step_137, u_Re_step_138, h1_14, gt_14_2, pt_14_2, gt_14_1, pt_14_1, xT_0, xT_h1, gt_14_6, pt_14_6, gt_14_7, pt_14_7, gt_14_5, pt_14_5, ne_eq, not_false_eq_true, not_true_eq_false, true_and, and_true, true_or, or_true, eq_self, Option.toList_some, Option.toList_none, List.cons_append, List.nil_append, tc_0, tc_I, tc_L, tc_A, Nat.reduceAdd, Nat.reduceLeDiff, Nat.reduceEqDiff, Int.reduceEq, Int.reduceLT, Int.reduceLE, Int.reduceNeg, Int.reduceToNat, Int.cast_ofNat_Int, if_true, if_false, and_self, or_self, ite_self, bI_0, bI_1, bI_01, Bool.false_eq_true, reduceCtorEq]
      · rename_i s j σ2 he
        rw [he]
        have q := pIn_ok hpt _ _ _ _ _ (show okSg (σ.1, 1, bB (kOrd (tok t a i))) from ⟨Or.inr rfl, by unfold bB; split <;> simp, hσ.2.2⟩) he
        simp only [resS_ok, u_Re_step_0, u_Re_step_1, u_Re_step_4, u_Re_step_5, u_Re_step_6, u_Re_step_9, u_Re_step_10, u_Re_step_13, u_Re_step_14, u_Re_step_15, u_Re_step_18, u_Re_step_21, u_Re_step_22, u_Re_step_23, u_Re_step_24, u_Re_step_27, u_Re_step_28, u_Re_step_29, u_Re_step_32, u_Re_step_35, u_Re_step_36, u_Re_step_39, u_Re_step_40, u_Re_step_43, u_Re_step_46, u_Re_step_47, u_Re_step_49, u_Re_step_50, u_Re_step_53, u_Re_step_54, u_Re_step_55, u_Re_step_56, u_Re_step_59, u_Re_step_60, u_Re_step_61, u_Re_step_64, u_Re_step_67, u_Re_step_68, u_Re_step_69, u_Re_step_70, u_Re_step_73, u_Re_step_76, u_Re_step_77, u_Re_step_79, u_Re_step_82, u_Re_step_85, u_Re_step_86, u_Re_step_87, u_Re_step_88, u_Re_step_89, u_Re_step_92, u_Re_step_95, u_Re_step_96, u_Re_step_97, u_Re_step_98, u_Re_step_101, u_Re_step_102, u_Re_step_103, u_Re_step_104, u_Re_step_107, u_Re_step_108, u_Re_step_111, u_Re_step_112, u_Re_step_115, u_Re_step_116, u_Re_step_119, u_Re_step_121, u_Re_step_124, u_Re_step_125, u_Re_step_126, u_Re_step_127, u_Re_step_130, u_Re_step_133, u_Re_step_134, u_Re_step_137, u_Re_step_138, h1_14, gt_14_2, pt_14_2, gt_14_1, pt_14_1, xT_0, xT_h1, gt_14_6, pt_14_6, gt_14_7, pt_14_7, gt_14_5, pt_14_5, ne_eq, not_false_eq_true, not_true_eq_false, true_and, and_true, true_or, or_true, eq_self, Option.toList_some, Option.toList_none, List.cons_append, List.nil_append, tc_0, tc_I, tc_L, tc_A, Nat.reduceAdd, Nat.reduceLeDiff, Nat.reduceEqDiff, Int.reduceEq, Int.reduceLT, Int.reduceLE, Int.reduceNeg, Int.reduceToNat, Int.cast_ofNat_Int, if_true, if_false, and_self, or_self, ite_self, bI_0, bI_1, bI_01, Bool.false_eq_true, reduceCtorEq, s_Re_passes hT hl (hX0 _)]
        split
        · rename_i h59
          have hj := tok_ne (show ¬ tok t a j = 0 by omega)
          simp only [ne_eq, not_false_eq_true, not_true_eq_false, true_and, and_true, true_or, or_true, eq_self, Option.toList_some, Option.toList_none, List.cons_append, List.nil_append, tc_0, tc_I, tc_L, tc_A, Nat.reduceAdd, Nat.reduceLeDiff, Nat.reduceEqDiff, Int.reduceEq, Int.reduceLT, Int.reduceLE, Int.reduceNeg, Int.reduceToNat, Int.cast_ofNat_Int, if_true, if_false, and_self, or_self, ite_self, bI_0, bI_1, bI_01, Bool.false_eq_true, reduceCtorEq, u_Re_step_0, u_Re_step_1, u_Re_step_4, u_Re_step_5, u_Re_step_6, u_Re_step_9, u_Re_step_10, u_Re_step_13, u_Re_step_14, u_Re_step_15, u_Re_step_18, u_Re_step_21, u_Re_step_22, u_Re_step_23, u_Re_step_24, u_Re_step_27, u_Re_step_28, u_Re_step_29, u_Re_step_32, u_Re_step_35, u_Re_step_36, u_Re_step_39, u_Re_step_40, u_Re_step_43, u_Re_step_46, u_Re_step_47, u_Re_step_49, u_Re_step_50, u_Re_step_53, u_Re_step_54, u_Re_step_55, u_Re_step_56, u_Re_step_59, u_Re_step_60, u_Re_step_61, u_Re_step_64, u_Re_step_67, u_Re_step_68, u_Re_step_69, u_Re_step_70, u_Re_step_73, u_Re_step_76, u_Re_step_77, u_Re_step_79, u_Re_step_82, u_Re_step_85, u_Re_step_86, u_Re_step_87, u_Re_step_88, u_Re_step_89, u_Re_step_92, u_Re_step_95, u_Re_step_96, u_Re_step_97, u_Re_step_98, u_Re_step_101, u_Re_step_102, u_Re_step_103, u_Re_step_104, u_Re_step_107, u_Re_step_108, u_Re_step_111, u_Re_step_112, u_Re_step_115, u_Re_step_116, u_Re_step_119, u_Re_step_121, u_Re_step_124, u_Re_step_125, u_Re_step_126, u_Re_step_127, u_Re_step_130, u_Re_step_133, u_Re_step_134, u_Re_step_137, u_Re_step_138, h1_14, gt_14_2, pt_14_2, gt_14_1, pt_14_1, xT_0, xT_h1, gt_14_6, pt_14_6, gt_14_7, pt_14_7, gt_14_5, pt_14_5, w32_tok hl (show ¬ tok t a j = 0 by omega), s_Re_isInItself hT hl (hX0 _) (show 0 ≤ i by omega) (show i ≤ 1000 by omega) (show j + 1 ≤ t a 1 by omega), bB_0, ite_not]
          split
          · simp only [ne_eq, not_false_eq_true, not_true_eq_false, true_and, and_true, true_or, or_true, eq_self, Option.toList_some, Option.toList_none, List.cons_append, List.nil_append, tc_0, tc_I, tc_L, tc_A, Nat.reduceAdd, Nat.reduceLeDiff, Nat.reduceEqDiff, Int.reduceEq, Int.reduceLT, Int.reduceLE, Int.reduceNeg, Int.reduceToNat, Int.cast_ofNat_Int, if_true, if_false, and_self, or_self, ite_self, bI_0, bI_1, bI_01, Bool.false_eq_true, reduceCtorEq, u_Re_step_0, u_Re_step_1, u_Re_step_4, u_Re_step_5, u_Re_step_6, u_Re_step_9, u_Re_step_10, u_Re_step_13, u_Re_step_14, u_Re_step_15, u_Re_step_18, u_Re_step_21, u_Re_step_22, u_Re_step_23, u_Re_step_24, u_Re_step_27, u_Re_step_28, u_Re_step_29, u_Re_step_32, u_Re_step_35, u_Re_step_36, u_Re_step_39, u_Re_step_40, u_Re_step_43, u_Re_step_46, u_Re_step_47, u_Re_step_49, u_Re_step_50, u_Re_step_53, u_Re_step_54, u_Re_step_55, u_Re_step_56, u_Re_step_59, u_Re_step_60, u_Re_step_61, u_Re_step_64, u_Re_step_67, u_Re_step_68, u_Re_step_69, u_Re_step_70, u_Re_step_73, u_Re_step_76, u_Re_step_77, u_Re_step_79, u_Re_step_82, u_Re_step_85, u_Re_step_86, u_Re_step_87, u_Re_step_88, u_Re_step_89, u_Re_step_92, u_Re_step_95, u_Re_step_96, u_Re_step_97, u_Re_step_98, u_Re_step_101, u_Re_step_102, u_Re_step_103, u_Re_step_104, u_Re_step_107, u_Re_step_108, u_Re_step_111, u_Re_step_112, u_Re_step_115, u_Re_step_116, u_Re_step_119, u_Re_step_121, u_Re_step_124, u_Re_step_125, u_Re_step_126, u_Re_step_127, u_Re_step_130, u_Re_step_133, u_Re_step_134, u_Re_step_137, u_Re_step_138, h1_14, gt_14_2, pt_14_2, gt_14_1, pt_14_1, xT_0, xT_h1, gt_14_6, pt_14_6, gt_14_7, pt_14_7, gt_14_5, pt_14_5, s_Re_fails, bg_m, resS_er]; rfl
          · have hn := nIns_b (x := tok t a i)
            have hw : w32 (σ2.1 + nIns (tok t a i)) = σ2.1 + nIns (tok t a i) := w32_id (by have := q.2.2.1; omega) (by have := q.2.2.2; omega)
            simp only [ne_eq, not_false_eq_true, not_true_eq_false, true_and, and_true, true_or, or_true, eq_self, Option.toList_some, Option.toList_none, List.cons_append, List.nil_append, tc_0, tc_I, tc_L, tc_A, Nat.reduceAdd, Nat.reduceLeDiff, Nat.reduceEqDiff, Int.reduceEq, Int.reduceLT, Int.reduceLE, Int.reduceNeg, Int.reduceToNat, Int.cast_ofNat_Int, if_true, if_false, and_self, or_self, ite_self, bI_0, bI_1, bI_01, Bool.false_eq_true, reduceCtorEq, u_Re_step_0, u_Re_step_1, u_Re_step_4, u_Re_step_5, u_Re_step_6, u_Re_step_9, u_Re_step_10, u_Re_step_13, u_Re_step_14, u_Re_step_15, u_Re_step_18, u_Re_step_21, u_Re_step_22, u_Re_step_23, u_Re_step_24, u_Re_step_27, u_Re_step_28, u_Re_step_29, u_Re_step_32, u_Re_step_35, u_Re_step_36, u_Re_step_39, u_Re_step_40, u_Re_step_43, u_Re_step_46, u_Re_step_47, u_Re_step_49, u_Re_step_50, u_Re_step_53, u_Re_step_54, u_Re_step_55, u_Re_step_56, u_Re_step_59, u_Re_step_60, u_Re_step_61, u_Re_step_64, u_Re_step_67, u_Re_step_68, u_Re_step_69, u_Re_step_70, u_Re_step_73, u_Re_step_76, u_Re_step_77, u_Re_step_79, u_Re_step_82, u_Re_step_85, u_Re_step_86, u_Re_step_87, u_Re_step_88, u_Re_step_89, u_Re_step_92, u_Re_step_95, u_Re_step_96, u_Re_step_97, u_Re_step_98, u_Re_step_101, u_Re_step_102, u_Re_step_103, u_Re_step_104, u_Re_step_107, u_Re_step_108, u_Re_step_111, u_Re_step_112, u_Re_step_115, u_Re_step_116, u_Re_step_119, u_Re_step_121, u_Re_step_124, u_Re_step_125, u_Re_step_126, u_Re_step_127, u_Re_step_130, u_Re_step_133, u_Re_step_134, u_Re_step_137, u_Re_step_138, h1_14, gt_14_2, pt_14_2, gt_14_1, pt_14_1, xT_0, xT_h1, gt_14_6, pt_14_6, gt_14_7, pt_14_7, gt_14_5, pt_14_5, s_Tk_instructionsOf, rd, and_true, and_false, sz_5, hw, sz_w5]
            split
            · simp only [ne_eq, not_false_eq_true, not_true_eq_false, true_and, and_true, true_or, or_true, eq_self, Option.toList_some, Option.toList_none, List.cons_append, List.nil_append, tc_0, tc_I, tc_L, tc_A, Nat.reduceAdd, Nat.reduceLeDiff, Nat.reduceEqDiff, Int.reduceEq, Int.reduceLT, Int.reduceLE, Int.reduceNeg, Int.reduceToNat, Int.cast_ofNat_Int, if_true, if_false, and_self, or_self, ite_self, bI_0, bI_1, bI_01, Bool.false_eq_true, reduceCtorEq, u_Re_step_0, u_Re_step_1, u_Re_step_4, u_Re_step_5, u_Re_step_6, u_Re_step_9, u_Re_step_10, u_Re_step_13, u_Re_step_14, u_Re_step_15, u_Re_step_18, u_Re_step_21, u_Re_step_22, u_Re_step_23, u_Re_step_24, u_Re_step_27, u_Re_step_28, u_Re_step_29, u_Re_step_32, u_Re_step_35, u_Re_step_36, u_Re_step_39, u_Re_step_40, u_Re_step_43, u_Re_step_46, u_Re_step_47, u_Re_step_49, u_Re_step_50, u_Re_step_53, u_Re_step_54, u_Re_step_55, u_Re_step_56, u_Re_step_59, u_Re_step_60, u_Re_step_61, u_Re_step_64, u_Re_step_67, u_Re_step_68, u_Re_step_69, u_Re_step_70, u_Re_step_73, u_Re_step_76, u_Re_step_77, u_Re_step_79, u_Re_step_82, u_Re_step_85, u_Re_step_86, u_Re_step_87, u_Re_step_88, u_Re_step_89, u_Re_step_92, u_Re_step_95, u_Re_step_96, u_Re_step_97, u_Re_step_98, u_Re_step_101, u_Re_step_102, u_Re_step_103, u_Re_step_104, u_Re_step_107, u_Re_step_108, u_Re_step_111, u_Re_step_112, u_Re_step_115, u_Re_step_116, u_Re_step_119, u_Re_step_121, u_Re_step_124, u_Re_step_125, u_Re_step_126, u_Re_step_127, u_Re_step_130, u_Re_step_133, u_Re_step_134, u_Re_step_137, u_Re_step_138, h1_14, gt_14_2, pt_14_2, gt_14_1, pt_14_1, xT_0, xT_h1, gt_14_6, pt_14_6, gt_14_7, pt_14_7, gt_14_5, pt_14_5, resS_ok]
            · simp only [ne_eq, not_false_eq_true, not_true_eq_false, true_and, and_true, true_or, or_true, eq_self, Option.toList_some, Option.toList_none, List.cons_append, List.nil_append, tc_0, tc_I, tc_L, tc_A, Nat.reduceAdd, Nat.reduceLeDiff, Nat.reduceEqDiff, Int.reduceEq, Int.reduceLT, Int.reduceLE, Int.reduceNeg, Int.reduceToNat, Int.cast_ofNat_Int, if_true, if_false, and_self, or_self, ite_self, bI_0, bI_1, bI_01, Bool.false_eq_true, reduceCtorEq, u_Re_step_0, u_Re_step_1, u_Re_step_4, u_Re_step_5, u_Re_step_6, u_Re_step_9, u_Re_step_10, u_Re_step_13, u_Re_step_14, u_Re_step_15, u_Re_step_18, u_Re_step_21, u_Re_step_22, u_Re_step_23, u_Re_step_24, u_Re_step_27, u_Re_step_28, u_Re_step_29, u_Re_step_32, u_Re_step_35, u_Re_step_36, u_Re_step_39, u_Re_step_40, u_Re_step_43, u_Re_step_46, u_Re_step_47, u_Re_step_49, u_Re_step_50, u_Re_step_53, u_Re_step_54, u_Re_step_55, u_Re_step_56, u_Re_step_59, u_Re_step_60, u_Re_step_61, u_Re_step_64, u_Re_step_67, u_Re_step_68, u_Re_step_69, u_Re_step_70, u_Re_step_73, u_Re_step_76, u_Re_step_77, u_Re_step_79, u_Re_step_82, u_Re_step_85, u_Re_step_86, u_Re_step_87, u_Re_step_88, u_Re_step_89, u_Re_step_92, u_Re_step_95, u_Re_step_96, u_Re_step_97, u_Re_step_98, u_Re_step_101, u_Re_step_102, u_Re_step_103, u_Re_step_104, u_Re_step_107, u_Re_step_108, u_Re_step_111, u_Re_step_112, u_Re_step_115, u_Re_step_116, u_Re_step_119, u_Re_step_121, u_Re_step_124, u_Re_step_125, u_Re_step_126, u_Re_step_127, u_Re_step_130, u_Re_step_133, u_Re_step_134, u_Re_step_137, u_Re_step_138, h1_14, gt_14_2, pt_14_2, gt_14_1, pt_14_1, xT_0, xT_h1, gt_14_6, pt_14_6, gt_14_7, pt_14_7, gt_14_5, pt_14_5, s_Re_fails, bg_m, resS_er]; rfl
        · simp only [ne_eq, not_false_eq_true, not_true_eq_false, true_and, and_true, true_or, or_true, eq_self, Option.toList_some, Option.toList_none, List.cons_append, List.nil_append, tc_0, tc_I, tc_L, tc_A, Nat.reduceAdd, Nat.reduceLeDiff, Nat.reduceEqDiff, Int.reduceEq, Int.reduceLT, Int.reduceLE, Int.reduceNeg, Int.reduceToNat, Int.cast_ofNat_Int, if_true, if_false, and_self, or_self, ite_self, bI_0, bI_1, bI_01, Bool.false_eq_true, reduceCtorEq, u_Re_step_0, u_Re_step_1, u_Re_step_4, u_Re_step_5, u_Re_step_6, u_Re_step_9, u_Re_step_10, u_Re_step_13, u_Re_step_14, u_Re_step_15, u_Re_step_18, u_Re_step_21, u_Re_step_22, u_Re_step_23, u_Re_step_24, u_Re_step_27, u_Re_step_28, u_Re_step_29, u_Re_step_32, u_Re_step_35, u_Re_step_36, u_Re_step_39, u_Re_step_40, u_Re_step_43, u_Re_step_46, u_Re_step_47, u_Re_step_49, u_Re_step_50, u_Re_step_53, u_Re_step_54, u_Re_step_55, u_Re_step_56, u_Re_step_59, u_Re_step_60, u_Re_step_61, u_Re_step_64, u_Re_step_67, u_Re_step_68, u_Re_step_69, u_Re_step_70, u_Re_step_73, u_Re_step_76, u_Re_step_77, u_Re_step_79, u_Re_step_82, u_Re_step_85, u_Re_step_86, u_Re_step_87, u_Re_step_88, u_Re_step_89, u_Re_step_92, u_Re_step_95, u_Re_step_96, u_Re_step_97, u_Re_step_98, u_Re_step_101, u_Re_step_102, u_Re_step_103, u_Re_step_104, u_Re_step_107, u_Re_step_108, u_Re_step_111, u_Re_step_112, u_Re_step_115, u_Re_step_116, u_Re_step_119, u_Re_step_121, u_Re_step_124, u_Re_step_125, u_Re_step_126, u_Re_step_127, u_Re_step_130, u_Re_step_133, u_Re_step_134, u_Re_step_137, u_Re_step_138, h1_14, gt_14_2, pt_14_2, gt_14_1, pt_14_1, xT_0, xT_h1, gt_14_6, pt_14_6, gt_14_7, pt_14_7, gt_14_5, pt_14_5, resS_er]
    simp only [hB, ne_eq, not_false_eq_true, not_true_eq_false, true_and, and_true, true_or, or_true, eq_self, Option.toList_some, Option.toList_none, List.cons_append, List.nil_append, tc_0, tc_I, tc_L, tc_A, Nat.reduceAdd, Nat.reduceLeDiff, Nat.reduceEqDiff, Int.reduceEq, Int.reduceLT, Int.reduceLE, Int.reduceNeg, Int.reduceToNat, Int.cast_ofNat_Int, if_true, if_false, and_self, or_self, ite_self, bI_0, bI_1, bI_01, Bool.false_eq_true, reduceCtorEq, h54]
    by_cases h1 : σ.2.1 = 0
    · simp only [h1, ne_eq, not_false_eq_true, not_true_eq_false, true_and, and_true, true_or, or_true, eq_self, Option.toList_some, Option.toList_none, List.cons_append, List.nil_append, tc_0, tc_I, tc_L, tc_A, Nat.reduceAdd, Nat.reduceLeDiff, Nat.reduceEqDiff, Int.reduceEq, Int.reduceLT, Int.reduceLE, Int.reduceNeg, Int.reduceToNat, Int.cast_ofNat_Int, if_true, if_false, and_self, or_self, ite_self, bI_0, bI_1, bI_01, Bool.false_eq_true, reduceCtorEq, false_and]; rfl
    · have h1' : σ.2.1 = 1 := by rcases hσ.1 with h | h; exact absurd h h1; exact h
      by_cases h2 : σ.2.2 = bB (kOrd (tok t a i))
      · simp only [h1', h2, ne_eq, not_false_eq_true, not_true_eq_false, true_and, and_true, true_or, or_true, eq_self, Option.toList_some, Option.toList_none, List.cons_append, List.nil_append, tc_0, tc_I, tc_L, tc_A, Nat.reduceAdd, Nat.reduceLeDiff, Nat.reduceEqDiff, Int.reduceEq, Int.reduceLT, Int.reduceLE, Int.reduceNeg, Int.reduceToNat, Int.cast_ofNat_Int, if_true, if_false, and_self, or_self, ite_self, bI_0, bI_1, bI_01, Bool.false_eq_true, reduceCtorEq]; rfl
      · simp only [h1', h2, ne_eq, not_false_eq_true, not_true_eq_false, true_and, and_true, true_or, or_true, eq_self, Option.toList_some, Option.toList_none, List.cons_append, List.nil_append, tc_0, tc_I, tc_L, tc_A, Nat.reduceAdd, Nat.reduceLeDiff, Nat.reduceEqDiff, Int.reduceEq, Int.reduceLT, Int.reduceLE, Int.reduceNeg, Int.reduceToNat, Int.cast_ofNat_Int, if_true, if_false, and_self, or_self, ite_self, bI_0, bI_1, bI_01, Bool.false_eq_true, reduceCtorEq, resS_er]; rfl
  · simp only [hB, ne_eq, not_false_eq_true, not_true_eq_false, true_and, and_true, true_or, or_true, eq_self, Option.toList_some, Option.toList_none, List.cons_append, List.nil_append, tc_0, tc_I, tc_L, tc_A, Nat.reduceAdd, Nat.reduceLeDiff, Nat.reduceEqDiff, Int.reduceEq, Int.reduceLT, Int.reduceLE, Int.reduceNeg, Int.reduceToNat, Int.cast_ofNat_Int, if_true, if_false, and_self, or_self, ite_self, bI_0, bI_1, bI_01, Bool.false_eq_true, reduceCtorEq, resS_er]; rfl
end
