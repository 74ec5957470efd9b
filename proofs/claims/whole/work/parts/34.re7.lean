/-! Reader: steps, parts: the recursion; reads -/
theorem pStps_stop {T : Int → Int} {S : Type} {ps : Int → Sg → PS S} {stop : Int} : ∀ n i σ l j σ', pStps T ps stop n i σ = .ok (l, j, σ') → T j = stop := by
  intro n
  induction n with
  | zero => intro i σ x j σ' he; cases he
  | succ n ih =>
    intro i σ x j σ' he
    unfold pStps at he
    split at he
    · cases he; assumption
    · split at he
      · cases he
      · split at he
        · cases he
        · rename_i h2
          cases he
          exact ih _ _ _ _ _ h2
section
variable {L a c : Nat} {t g : Mem}
theorem l_Re_steps {S : Type} {D : Nat} {b stop : Int} {ps : Int → Sg → PS S} (hT : isT a) (hl : t a 1 ≤ 1000) (hb : (b = 0 ∧ stop = 0) ∨ (1 ≤ b ∧ stop = 125)) (hps : okPt ps) (hS : ∀ (i : Int) (σ : Sg) (f : Mem) (Q : Option TV → Wd → Prop), okSg σ → (f 14 1).toNat = a → VV L (D + 1) m_Re_step 0 [some (tA 14), some (tI b), none, none] [] (WW (mset (sz f σ) 14 2 i) t g) Q = resS f t g Q (ps i σ)) : ∀ (m : Nat) (n i : Int) (σ : Sg) (l3 : Option TV) (f : Mem) (Q : Option TV → Wd → Prop), m ≤ 601 → n = 601 - m → okSg σ → (f 14 1).toNat = a → VV L (D + 2) m_Re_steps 2 [some (tA 14), some (tI b), some (tI n), l3] [] (WW (mset (sz f σ) 14 2 i) t g) Q = resS f t g Q (pStps (tok t a) ps stop m i σ) := by
  intro m
  induction m with
  | zero =>
    intro n i σ l3 f Q hm hn hσ hX
    rw [u_Re_steps_2]
    simp only [u_Re_steps_0, u_Re_steps_1, u_Re_steps_3, u_Re_steps_6, u_Re_steps_9, u_Re_steps_10, u_Re_steps_13, u_Re_steps_14, u_Re_steps_17, u_Re_steps_20, u_Re_steps_21, u_Re_steps_22, u_Re_steps_25, u_Re_steps_26, u_Re_steps_29, u_Re_steps_32, u_Re_steps_33, u_Re_steps_35, u_Re_steps_38, u_Re_steps_39, u_Re_steps_40, u_Re_steps_41, u_Re_steps_42, u_Re_steps_45, u_Re_steps_48, u_Re_steps_49, u_Re_steps_50, u_Re_steps_53, u_Re_steps_56, u_Re_steps_57, u_Re_steps_58, u_Re_steps_59, u_Re_steps_62, u_Re_steps_65, h1_14, gt_14_1, pt_14_1, gt_14_2, pt_14_2, xT_0, xT_h1, ne_eq, not_false_eq_true, not_true_eq_false, true_and, and_true, true_or, or_true, eq_self, Option.toList_some, Option.toList_none, List.cons_append, List.nil_append, tc_0, tc_I, tc_L, tc_A, Nat.reduceAdd, Nat.reduceLeDiff, Nat.reduceEqDiff, Int.reduceEq, Int.reduceLT, Int.reduceLE, Int.reduceNeg, Int.reduceToNat, Int.cast_ofNat_Int, if_true, if_false, and_self, or_self, ite_self, bI_0, bI_1, bI_01, Bool.false_eq_true, reduceCtorEq, show 600 < n by omega, rd, and_true, and_false, s_Re_fails, bg_m, pStps, resS_er]
    rfl
  | succ m ih =>
    intro n i σ l3 f Q hm hn hσ hX
    have hX0 : ∀ σ1, (sz f σ1 14 1).toNat = a := fun σ1 => by rw [sz_1]; exact hX
    have hw : w32 (n + 1) = n + 1 := w32_id (by omega) (by omega)
    rw [u_Re_steps_2]
    unfold pStps
    have hgo : ∀ x, VV L (D + 2) m_Re_steps 40 [some (tA 14), some (tI b), some (tI n), some (tI x)] [] (WW (mset (sz f σ) 14 2 i) t g) Q = resS f t g Q (match ps i σ with
      | .error e => .error e
      | .ok (s, j, σ1) => match pStps (tok t a) ps stop m j σ1 with
        | .error e => .error e
        | .ok (l, k, σ2) => .ok (s :: l, k, σ2)) := by
      intro x
      simp only [u_Re_steps_0, u_Re_steps_1, u_Re_steps_3, u_Re_steps_6, u_Re_steps_9, u_Re_steps_10, u_Re_steps_13, u_Re_steps_14, u_Re_steps_17, u_Re_steps_20, u_Re_steps_21, u_Re_steps_22, u_Re_steps_25, u_Re_steps_26, u_Re_steps_29, u_Re_steps_32, u_Re_steps_33, u_Re_steps_35, u_Re_steps_38, u_Re_steps_39, u_Re_steps_40, u_Re_steps_41, u_Re_steps_42, u_Re_steps_45, u_Re_steps_48, u_Re_steps_49, u_Re_steps_50, u_Re_steps_53, u_Re_steps_56, u_Re_steps_57, u_Re_steps_58, u_Re_steps_59, u_Re_steps_62, u_Re_steps_65, h1_14, gt_14_1, pt_14_1, gt_14_2, pt_14_2, xT_0, xT_h1, ne_eq, not_false_eq_true, not_true_eq_false, true_and, and_true, true_or, or_true, eq_self, Option.toList_some, Option.toList_none, List.cons_append, List.nil_append, tc_0, tc_I, tc_L, tc_A, Nat.reduceAdd, Nat.reduceLeDiff, Nat.reduceEqDiff, Int.reduceEq, Int.reduceLT, Int.reduceLE, Int.reduceNeg, Int.reduceToNat, Int.cast_ofNat_Int, if_true, if_false, and_self, or_self, ite_self, bI_0, bI_1, bI_01, Bool.false_eq_true, reduceCtorEq, hS _ _ _ _ hσ hX]
      split
      · rename_i e he
        obtain ⟨e, σ1⟩ := e
        rw [he]
        simp only [resS_er, u_Re_steps_0, u_Re_steps_1, u_Re_steps_3, u_Re_steps_6, u_Re_steps_9, u_Re_steps_10, u_Re_steps_13, u_Re_steps_14, u_Re_steps_17, u_Re_steps_20, u_Re_steps_21, u_Re_steps_22, u_Re_steps_25, u_Re_steps_26, u_Re_steps_29, u_Re_steps_32, u_Re_steps_33, u_Re_steps_35, u_Re_steps_38, u_Re_steps_39, u_Re_steps_40, u_Re_steps_41, u_Re_steps_42, u_Re_steps_45, u_Re_steps_48, u_Re_steps_49, u_Re_steps_50, u_Re_steps_53, u_Re_steps_56, u_Re_steps_57, u_Re_steps_58, u_Re_steps_59, u_Re_steps_62, u_Re_steps_65, h1_14, gt_14_1, pt_14_1, gt_14_2, pt_14_2, xT_0, xT_h1, ne_eq, not_false_eq_true, not_true_eq_false, true_and, and_true, true_or, or_true, eq_self, Option.toList_some, Option.toList_none, List.cons_append, List.nil_append, tc_0, tc_I, tc_L, tc_A, Nat.reduceAdd, Nat.reduceLeDiff, Nat.reduceEqDiff, Int.reduceEq, Int.reduceLT, Int.reduceLE, Int.reduceNeg, Int.reduceToNat, Int.cast_ofNat_Int, if_true, if_false, and_self, or_self, ite_self, bI_0, bI_1, bI_01, Bool.false_eq_true, reduceCtorEq]
      · rename_i s j σ1 he
        rw [he]
        have q := hps _ _ _ _ _ hσ he
        simp only [resS_ok, u_Re_steps_0, u_Re_steps_1, u_Re_steps_3, u_Re_steps_6, u_Re_steps_9, u_Re_steps_10, u_Re_steps_13, u_Re_steps_14, u_Re_steps_17, u_Re_steps_20, u_Re_steps_21, u_Re_steps_22, u_Re_steps_25, u_Re_steps_26, u_Re_steps_29, u_Re_steps_32, u_Re_steps_33, u_Re_steps_35, u_Re_steps_38, u_Re_steps_39, u_Re_steps_40, u_Re_steps_41, u_Re_steps_42, u_Re_steps_45, u_Re_steps_48, u_Re_steps_49, u_Re_steps_50, u_Re_steps_53, u_Re_steps_56, u_Re_steps_57, u_Re_steps_58, u_Re_steps_59, u_Re_steps_62, u_Re_steps_65, h1_14, gt_14_1, pt_14_1, gt_14_2, pt_14_2, xT_0, xT_h1, ne_eq, not_false_eq_true, not_true_eq_false, true_and, and_true, true_or, or_true, eq_self, Option.toList_some, Option.toList_none, List.cons_append, List.nil_append, tc_0, tc_I, tc_L, tc_A, Nat.reduceAdd, Nat.reduceLeDiff, Nat.reduceEqDiff, Int.reduceEq, Int.reduceLT, Int.reduceLE, Int.reduceNeg, Int.reduceToNat, Int.cast_ofNat_Int, if_true, if_false, and_self, or_self, ite_self, bI_0, bI_1, bI_01, Bool.false_eq_true, reduceCtorEq, hw]
        rw [ih (n + 1) j σ1 _ f Q (by omega) (by omega) q hX]
        split
        · rename_i e he
          obtain ⟨e, σ2⟩ := e
          rw [he]
        · rename_i l k σ2 he
          rw [he]
          rfl
    simp only [u_Re_steps_0, u_Re_steps_1, u_Re_steps_2, u_Re_steps_3, u_Re_steps_6, u_Re_steps_9, u_Re_steps_10, u_Re_steps_13, u_Re_steps_14, u_Re_steps_17, u_Re_steps_20, u_Re_steps_21, u_Re_steps_22, u_Re_steps_25, u_Re_steps_26, u_Re_steps_29, u_Re_steps_32, u_Re_steps_33, u_Re_steps_35, u_Re_steps_38, u_Re_steps_39, ne_eq, not_false_eq_true, not_true_eq_false, true_and, and_true, true_or, or_true, eq_self, Option.toList_some, Option.toList_none, List.cons_append, List.nil_append, tc_0, tc_I, tc_L, tc_A, Nat.reduceAdd, Nat.reduceLeDiff, Nat.reduceEqDiff, Int.reduceEq, Int.reduceLT, Int.reduceLE, Int.reduceNeg, Int.reduceToNat, Int.cast_ofNat_Int, if_true, if_false, and_self, or_self, ite_self, bI_0, bI_1, bI_01, Bool.false_eq_true, reduceCtorEq, show ¬ 600 < n by omega, h1_14, gt_14_1, gt_14_2, xT_0, xT_h1, rd, and_true, and_false, hX0, hT, s_Tx_token hT hl, hgo]
    rcases hb with ⟨rfl, rfl⟩ | ⟨hb, rfl⟩
    · simp only [ne_eq, not_false_eq_true, not_true_eq_false, true_and, and_true, true_or, or_true, eq_self, Option.toList_some, Option.toList_none, List.cons_append, List.nil_append, tc_0, tc_I, tc_L, tc_A, Nat.reduceAdd, Nat.reduceLeDiff, Nat.reduceEqDiff, Int.reduceEq, Int.reduceLT, Int.reduceLE, Int.reduceNeg, Int.reduceToNat, Int.cast_ofNat_Int, if_true, if_false, and_self, or_self, ite_self, bI_0, bI_1, bI_01, Bool.false_eq_true, reduceCtorEq]
      by_cases h : tok t a i = 0
      · simp only [h, ne_eq, not_false_eq_true, not_true_eq_false, true_and, and_true, true_or, or_true, eq_self, Option.toList_some, Option.toList_none, List.cons_append, List.nil_append, tc_0, tc_I, tc_L, tc_A, Nat.reduceAdd, Nat.reduceLeDiff, Nat.reduceEqDiff, Int.reduceEq, Int.reduceLT, Int.reduceLE, Int.reduceNeg, Int.reduceToNat, Int.cast_ofNat_Int, if_true, if_false, and_self, or_self, ite_self, bI_0, bI_1, bI_01, Bool.false_eq_true, reduceCtorEq, resS_ok]
      · simp only [h, ne_eq, not_false_eq_true, not_true_eq_false, true_and, and_true, true_or, or_true, eq_self, Option.toList_some, Option.toList_none, List.cons_append, List.nil_append, tc_0, tc_I, tc_L, tc_A, Nat.reduceAdd, Nat.reduceLeDiff, Nat.reduceEqDiff, Int.reduceEq, Int.reduceLT, Int.reduceLE, Int.reduceNeg, Int.reduceToNat, Int.cast_ofNat_Int, if_true, if_false, and_self, or_self, ite_self, bI_0, bI_1, bI_01, Bool.false_eq_true, reduceCtorEq]; rfl
    · simp only [ne_eq, not_false_eq_true, not_true_eq_false, true_and, and_true, true_or, or_true, eq_self, Option.toList_some, Option.toList_none, List.cons_append, List.nil_append, tc_0, tc_I, tc_L, tc_A, Nat.reduceAdd, Nat.reduceLeDiff, Nat.reduceEqDiff, Int.reduceEq, Int.reduceLT, Int.reduceLE, Int.reduceNeg, Int.reduceToNat, Int.cast_ofNat_Int, if_true, if_false, and_self, or_self, ite_self, bI_0, bI_1, bI_01, Bool.false_eq_true, reduceCtorEq, show ¬ b = 0 by omega]
      by_cases h : tok t a i = 125
      · simp only [h, ne_eq, not_false_eq_true, not_true_eq_false, true_and, and_true, true_or, or_true, eq_self, Option.toList_some, Option.toList_none, List.cons_append, List.nil_append, tc_0, tc_I, tc_L, tc_A, Nat.reduceAdd, Nat.reduceLeDiff, Nat.reduceEqDiff, Int.reduceEq, Int.reduceLT, Int.reduceLE, Int.reduceNeg, Int.reduceToNat, Int.cast_ofNat_Int, if_true, if_false, and_self, or_self, ite_self, bI_0, bI_1, bI_01, Bool.false_eq_true, reduceCtorEq, resS_ok]
      · simp only [h, ne_eq, not_false_eq_true, not_true_eq_false, true_and, and_true, true_or, or_true, eq_self, Option.toList_some, Option.toList_none, List.cons_append, List.nil_append, tc_0, tc_I, tc_L, tc_A, Nat.reduceAdd, Nat.reduceLeDiff, Nat.reduceEqDiff, Int.reduceEq, Int.reduceLT, Int.reduceLE, Int.reduceNeg, Int.reduceToNat, Int.cast_ofNat_Int, if_true, if_false, and_self, or_self, ite_self, bI_0, bI_1, bI_01, Bool.false_eq_true, reduceCtorEq]; rfl
theorem s_Re_part (hT : isT a) (hl : t a 1 ≤ 1000) (hc : c = 8) (hlow : ∀ k, -2000000000 ≤ tok t a k) : ∀ (n : Nat), n ≤ 5 → ∀ (D : Nat) (b : Int), 5 * n + 48 ≤ D → b = 5 - n → ∀ (i : Int) (σ : Sg) (f : Mem) (Q : Option TV → Wd → Prop), okSg σ → (f 14 1).toNat = a → VV L D m_Re_part 0 [some (tA 14), some (tI b)] [] (WW (mset (sz f σ) 14 2 i) t g) Q = resS f t g Q (pPt c (tok t a) n i σ) := by
  intro n
  induction n with
  | zero =>
    intro hn D b hD hb i σ f Q hσ hX
    have hb5 : b = 5 := by omega
    subst hb5
    obtain ⟨d, rfl⟩ : ∃ d, D = d + 4 := ⟨D - 4, by omega⟩
    have hX0 : ∀ σ1, (sz f σ1 14 1).toNat = a := fun σ1 => by rw [sz_1]; exact hX
    simp only [u_Re_part_0, u_Re_part_1, u_Re_part_3, u_Re_part_4, u_Re_part_5, u_Re_part_8, u_Re_part_11, u_Re_part_12, u_Re_part_13, u_Re_part_14, u_Re_part_15, u_Re_part_18, u_Re_part_21, u_Re_part_22, u_Re_part_24, u_Re_part_27, u_Re_part_30, u_Re_part_31, u_Re_part_34, u_Re_part_35, h1_14, ne_eq, not_false_eq_true, not_true_eq_false, true_and, and_true, true_or, or_true, eq_self, Option.toList_some, Option.toList_none, List.cons_append, List.nil_append, tc_0, tc_I, tc_L, tc_A, Nat.reduceAdd, Nat.reduceLeDiff, Nat.reduceEqDiff, Int.reduceEq, Int.reduceLT, Int.reduceLE, Int.reduceNeg, Int.reduceToNat, Int.cast_ofNat_Int, if_true, if_false, and_self, or_self, ite_self, bI_0, bI_1, bI_01, Bool.false_eq_true, reduceCtorEq, s_Re_opens hT hl (hX0 _)]
    unfold pPt
    by_cases h : tok t a i = 123
    · simp only [h, ne_eq, not_false_eq_true, not_true_eq_false, true_and, and_true, true_or, or_true, eq_self, Option.toList_some, Option.toList_none, List.cons_append, List.nil_append, tc_0, tc_I, tc_L, tc_A, Nat.reduceAdd, Nat.reduceLeDiff, Nat.reduceEqDiff, Int.reduceEq, Int.reduceLT, Int.reduceLE, Int.reduceNeg, Int.reduceToNat, Int.cast_ofNat_Int, if_true, if_false, and_self, or_self, ite_self, bI_0, bI_1, bI_01, Bool.false_eq_true, reduceCtorEq, u_Re_part_0, u_Re_part_1, u_Re_part_3, u_Re_part_4, u_Re_part_5, u_Re_part_8, u_Re_part_11, u_Re_part_12, u_Re_part_13, u_Re_part_14, u_Re_part_15, u_Re_part_18, u_Re_part_21, u_Re_part_22, u_Re_part_24, u_Re_part_27, u_Re_part_30, u_Re_part_31, u_Re_part_34, u_Re_part_35, h1_14, resS_er]
    · simp only [h, ne_eq, not_false_eq_true, not_true_eq_false, true_and, and_true, true_or, or_true, eq_self, Option.toList_some, Option.toList_none, List.cons_append, List.nil_append, tc_0, tc_I, tc_L, tc_A, Nat.reduceAdd, Nat.reduceLeDiff, Nat.reduceEqDiff, Int.reduceEq, Int.reduceLT, Int.reduceLE, Int.reduceNeg, Int.reduceToNat, Int.cast_ofNat_Int, if_true, if_false, and_self, or_self, ite_self, bI_0, bI_1, bI_01, Bool.false_eq_true, reduceCtorEq, u_Re_part_0, u_Re_part_1, u_Re_part_3, u_Re_part_4, u_Re_part_5, u_Re_part_8, u_Re_part_11, u_Re_part_12, u_Re_part_13, u_Re_part_14, u_Re_part_15, u_Re_part_18, u_Re_part_21, u_Re_part_22, u_Re_part_24, u_Re_part_27, u_Re_part_30, u_Re_part_31, u_Re_part_34, u_Re_part_35, h1_14, resS_er]
  | succ n ih =>
    intro hn D b hD hb i σ f Q hσ hX
    obtain ⟨d, rfl⟩ : ∃ d, D = d + 48 := ⟨D - 48, by omega⟩
    have hX0 : ∀ σ1, (sz f σ1 14 1).toNat = a := fun σ1 => by rw [sz_1]; exact hX
    have hw : w32 (b + 1) = b + 1 := w32_id (by omega) (by omega)
    have hst : ∀ (i : Int) (σ : Sg) (f : Mem) (Q : Option TV → Wd → Prop), okSg σ → (f 14 1).toNat = a → VV L (d + 46) m_Re_step 0 [some (tA 14), some (tI (b + 1)), none, none] [] (WW (mset (sz f σ) 14 2 i) t g) Q = resS f t g Q (pStep c (tok t a) (pPt c (tok t a) n) i σ) := by
      intro i σ f Q hσ hX
      exact s_Re_step hT hl hc hX hlow (fun i σ f Q hσ hX => ih (by omega) (d + 43) (b + 1) (by omega) (by omega) i σ f Q hσ hX) (fun i σ f Q hσ hX => ih (by omega) (d + 44) (b + 1) (by omega) (by omega) i σ f Q hσ hX) hσ (pPt_ok n)
    simp only [u_Re_part_0, u_Re_part_1, u_Re_part_3, u_Re_part_4, u_Re_part_5, u_Re_part_8, u_Re_part_11, u_Re_part_12, u_Re_part_13, u_Re_part_14, u_Re_part_15, u_Re_part_18, u_Re_part_21, u_Re_part_22, u_Re_part_24, u_Re_part_27, u_Re_part_30, u_Re_part_31, u_Re_part_34, u_Re_part_35, h1_14, ne_eq, not_false_eq_true, not_true_eq_false, true_and, and_true, true_or, or_true, eq_self, Option.toList_some, Option.toList_none, List.cons_append, List.nil_append, tc_0, tc_I, tc_L, tc_A, Nat.reduceAdd, Nat.reduceLeDiff, Nat.reduceEqDiff, Int.reduceEq, Int.reduceLT, Int.reduceLE, Int.reduceNeg, Int.reduceToNat, Int.cast_ofNat_Int, if_true, if_false, and_self, or_self, ite_self, bI_0, bI_1, bI_01, Bool.false_eq_true, reduceCtorEq, s_Re_opens hT hl (hX0 _)]
    unfold pPt
    by_cases h : tok t a i = 123
    · simp only [h, ne_eq, not_false_eq_true, not_true_eq_false, true_and, and_true, true_or, or_true, eq_self, Option.toList_some, Option.toList_none, List.cons_append, List.nil_append, tc_0, tc_I, tc_L, tc_A, Nat.reduceAdd, Nat.reduceLeDiff, Nat.reduceEqDiff, Int.reduceEq, Int.reduceLT, Int.reduceLE, Int.reduceNeg, Int.reduceToNat, Int.cast_ofNat_Int, if_true, if_false, and_self, or_self, ite_self, bI_0, bI_1, bI_01, Bool.false_eq_true, reduceCtorEq, u_Re_part_0, u_Re_part_1, u_Re_part_3, u_Re_part_4, u_Re_part_5, u_Re_part_8, u_Re_part_11, u_Re_part_12, u_Re_part_13, u_Re_part_14, u_Re_part_15, u_Re_part_18, u_Re_part_21, u_Re_part_22, u_Re_part_24, u_Re_part_27, u_Re_part_30, u_Re_part_31, u_Re_part_34, u_Re_part_35, h1_14, show ¬ 5 ≤ b by omega, w32_tok hl (show ¬ tok t a i = 0 by omega), hw, u_Re_steps_0, u_Re_steps_1, u_Re_steps_3, u_Re_steps_6, u_Re_steps_9, u_Re_steps_10, u_Re_steps_13, u_Re_steps_14, u_Re_steps_17, u_Re_steps_20, u_Re_steps_21, u_Re_steps_22, u_Re_steps_25, u_Re_steps_26, u_Re_steps_29, u_Re_steps_32, u_Re_steps_33, u_Re_steps_35, u_Re_steps_38, u_Re_steps_39, u_Re_steps_40, u_Re_steps_41, u_Re_steps_42, u_Re_steps_45, u_Re_steps_48, u_Re_steps_49, u_Re_steps_50, u_Re_steps_53, u_Re_steps_56, u_Re_steps_57, u_Re_steps_58, u_Re_steps_59, u_Re_steps_62, u_Re_steps_65, h1_14, gt_14_1, pt_14_1, gt_14_2, pt_14_2, xT_0, xT_h1]
      rw [l_Re_steps (stop := 125) hT hl (Or.inr ⟨by omega, rfl⟩) (pStep_ok (pPt_ok n)) hst 601 0 (i + 1) σ _ f _ (by omega) (by omega) hσ hX]
      cases he : pStps (tok t a) (pStep c (tok t a) (pPt c (tok t a) n)) 125 601 (i + 1) σ with
      | error e => obtain ⟨e, σ1⟩ := e; simp only [resS_er, u_Re_part_0, u_Re_part_1, u_Re_part_3, u_Re_part_4, u_Re_part_5, u_Re_part_8, u_Re_part_11, u_Re_part_12, u_Re_part_13, u_Re_part_14, u_Re_part_15, u_Re_part_18, u_Re_part_21, u_Re_part_22, u_Re_part_24, u_Re_part_27, u_Re_part_30, u_Re_part_31, u_Re_part_34, u_Re_part_35, h1_14, ne_eq, not_false_eq_true, not_true_eq_false, true_and, and_true, true_or, or_true, eq_self, Option.toList_some, Option.toList_none, List.cons_append, List.nil_append, tc_0, tc_I, tc_L, tc_A, Nat.reduceAdd, Nat.reduceLeDiff, Nat.reduceEqDiff, Int.reduceEq, Int.reduceLT, Int.reduceLE, Int.reduceNeg, Int.reduceToNat, Int.cast_ofNat_Int, if_true, if_false, and_self, or_self, ite_self, bI_0, bI_1, bI_01, Bool.false_eq_true, reduceCtorEq]
      | ok z =>
        obtain ⟨l, j, σ1⟩ := z
        have h125 : tok t a j = 125 := pStps_stop _ _ _ _ _ _ he
        simp only [resS_ok, u_Re_part_0, u_Re_part_1, u_Re_part_3, u_Re_part_4, u_Re_part_5, u_Re_part_8, u_Re_part_11, u_Re_part_12, u_Re_part_13, u_Re_part_14, u_Re_part_15, u_Re_part_18, u_Re_part_21, u_Re_part_22, u_Re_part_24, u_Re_part_27, u_Re_part_30, u_Re_part_31, u_Re_part_34, u_Re_part_35, h1_14, ne_eq, not_false_eq_true, not_true_eq_false, true_and, and_true, true_or, or_true, eq_self, Option.toList_some, Option.toList_none, List.cons_append, List.nil_append, tc_0, tc_I, tc_L, tc_A, Nat.reduceAdd, Nat.reduceLeDiff, Nat.reduceEqDiff, Int.reduceEq, Int.reduceLT, Int.reduceLE, Int.reduceNeg, Int.reduceToNat, Int.cast_ofNat_Int, if_true, if_false, and_self, or_self, ite_self, bI_0, bI_1, bI_01, Bool.false_eq_true, reduceCtorEq, s_Re_passes hT hl (hX0 _), h125, w32_tok hl (show ¬ tok t a j = 0 by omega)]
        rfl
    · simp only [h, ne_eq, not_false_eq_true, not_true_eq_false, true_and, and_true, true_or, or_true, eq_self, Option.toList_some, Option.toList_none, List.cons_append, List.nil_append, tc_0, tc_I, tc_L, tc_A, Nat.reduceAdd, Nat.reduceLeDiff, Nat.reduceEqDiff, Int.reduceEq, Int.reduceLT, Int.reduceLE, Int.reduceNeg, Int.reduceToNat, Int.cast_ofNat_Int, if_true, if_false, and_self, or_self, ite_self, bI_0, bI_1, bI_01, Bool.false_eq_true, reduceCtorEq, u_Re_part_0, u_Re_part_1, u_Re_part_3, u_Re_part_4, u_Re_part_5, u_Re_part_8, u_Re_part_11, u_Re_part_12, u_Re_part_13, u_Re_part_14, u_Re_part_15, u_Re_part_18, u_Re_part_21, u_Re_part_22, u_Re_part_24, u_Re_part_27, u_Re_part_30, u_Re_part_31, u_Re_part_34, u_Re_part_35, h1_14, resS_er]
end
