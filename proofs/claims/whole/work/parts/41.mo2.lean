/-! The reference's lexer: bytes, pairs, keys -/
def tw (c e : Int) : Int := if e = 61 then (if c = 43 then 0 else if c = 45 then 1 else if c = 94 then 2 else -1) else if c = 60 ∧ e = 62 then 3 else if c = 60 ∧ e = 60 then 4 else if c = 62 ∧ e = 62 then 5 else -1
def cpN (y : Int → Int) (fr n k : Int) : Nat → Int → Int
  | 0, i => i
  | m + 1, i => if i < n ∧ KM (k + i) = y (fr + i) then cpN y fr n k m (i + 1) else i
theorem cpN_p {y : Int → Int} {fr n k : Int} : ∀ (m : Nat) (i : Int), i ≤ n → n - i ≤ m → i ≤ cpN y fr n k m i ∧ cpN y fr n k m i ≤ n ∧ (∀ j, i ≤ j → j < cpN y fr n k m i → KM (k + j) = y (fr + j)) ∧ (cpN y fr n k m i = n ∨ ¬ KM (k + cpN y fr n k m i) = y (fr + cpN y fr n k m i)) := by
  intro m
  induction m with
  | zero => intro i h1 h2; refine ⟨Int.le_refl _, h1, fun j a b => ?_, Or.inl ?_⟩ <;> (unfold cpN at *; omega)
  | succ m ih =>
    intro i h1 h2
    unfold cpN
    by_cases h : i < n ∧ KM (k + i) = y (fr + i)
    · rw [if_pos h]
      obtain ⟨a, b, c, e⟩ := ih (i + 1) (by omega) (by omega)
      refine ⟨by omega, b, fun j h3 h4 => ?_, e⟩
      by_cases hj : j = i
      · subst hj; exact h.2
      · exact c j (by omega) h4
    · rw [if_neg h]
      refine ⟨Int.le_refl _, h1, fun j a b => by omega, ?_⟩
      by_cases hin : i < n
      · exact Or.inr (fun hh => h ⟨hin, hh⟩)
      · exact Or.inl (by omega)
theorem cpW {y km : Int → Int} {fr n z : Int} {s l : Nat} (h0 : 0 ≤ n) (hl : km (s + l) = 32) (hk : ∀ i : Nat, i < l → ¬ km (s + i) = 32) (hlet : ∀ i : Int, 0 ≤ i → i < n → ¬ y (fr + i) = 32) (p1 : 0 ≤ z) (p2 : z ≤ n) (p3 : ∀ j, 0 ≤ j → j < z → km (s + j) = y (fr + j)) (p4 : z = n ∨ ¬ km (s + z) = y (fr + z)) : z ≤ l ∧ ((z = n ∧ km (s + z) = 32) ↔ (n = l ∧ ∀ i : Nat, i < l → km (s + i) = y (fr + i))) := by
  have p5 : z ≤ l := by
    by_cases hh : z ≤ l
    · exact hh
    · have h := p3 l (by omega) (by omega)
      rw [hl] at h
      exact absurd h.symm (hlet l (by omega) (by omega))
  refine ⟨p5, ?_, ?_⟩
  · intro ⟨a, b⟩
    have hnl : n = l := by
      by_cases hlt : n < l
      · have h := hk n.toNat (by omega)
        rw [show ((n.toNat : Nat) : Int) = n by omega, ← a] at h
        exact absurd b h
      · omega
    exact ⟨hnl, fun i hi => p3 i (by omega) (by omega)⟩
  · intro ⟨a, b⟩
    have hin : z = n := by
      rcases p4 with p4 | p4
      · exact p4
      · by_cases hh : z = n
        · exact hh
        · exfalso
          have h := b z.toNat (by omega)
          rw [show ((z.toNat : Nat) : Int) = z by omega] at h
          exact p4 h
    refine ⟨hin, ?_⟩
    rw [hin, a]; exact hl
section
variable {L d : Nat} {w : Wd} {f t g : Mem} {Q : Option TV → Wd → Prop} {i v lo hi c e n fr : Int}
theorem s_M_in : VV L d m_M_in 0 [some (tI v), some (tI lo), some (tI hi)] [] w Q = Q (some (tI (bB (decide (lo ≤ v ∧ v ≤ hi))))) w := by
  simp only [u_M_in_0, u_M_in_1, u_M_in_2, u_M_in_5, u_M_in_6, u_M_in_7, u_M_in_10, u_M_in_11, u_M_in_14, u_M_in_15, h1_156, ne_eq, not_false_eq_true, not_true_eq_false, true_and, and_true, true_or, or_true, eq_self, Option.toList_some, Option.toList_none, List.cons_append, List.nil_append, tc_0, tc_I, tc_L, tc_A, Nat.reduceAdd, Nat.reduceLeDiff, Nat.reduceEqDiff, Int.reduceEq, Int.reduceLT, Int.reduceLE, Int.reduceNeg, Int.reduceToNat, Int.cast_ofNat_Int, if_true, if_false, and_self, or_self, ite_self, bI_0, bI_1, bI_01, Bool.false_eq_true, reduceCtorEq]
  simp only [bB, decide_eq_true_eq]
  (repeat' split) <;> first | rfl | omega
theorem s_M_isLetter : VV L (d + 1) m_M_isLetter 0 [some (tI c)] [] w Q = Q (some (tI (bB (kName c)))) w := by
  simp only [u_M_isLetter_0, u_M_isLetter_1, u_M_isLetter_3, u_M_isLetter_5, u_M_isLetter_8, h1_156, ne_eq, not_false_eq_true, not_true_eq_false, true_and, and_true, true_or, or_true, eq_self, Option.toList_some, Option.toList_none, List.cons_append, List.nil_append, tc_0, tc_I, tc_L, tc_A, Nat.reduceAdd, Nat.reduceLeDiff, Nat.reduceEqDiff, Int.reduceEq, Int.reduceLT, Int.reduceLE, Int.reduceNeg, Int.reduceToNat, Int.cast_ofNat_Int, if_true, if_false, and_self, or_self, ite_self, bI_0, bI_1, bI_01, Bool.false_eq_true, reduceCtorEq, s_M_in, bB_1, bB_0, nem]
  rfl
theorem s_M_isDigit : VV L (d + 1) m_M_isDigit 0 [some (tI c)] [] w Q = Q (some (tI (bB (kDig c)))) w := by
  simp only [u_M_isDigit_0, u_M_isDigit_1, u_M_isDigit_3, u_M_isDigit_5, u_M_isDigit_8, h1_156, ne_eq, not_false_eq_true, not_true_eq_false, true_and, and_true, true_or, or_true, eq_self, Option.toList_some, Option.toList_none, List.cons_append, List.nil_append, tc_0, tc_I, tc_L, tc_A, Nat.reduceAdd, Nat.reduceLeDiff, Nat.reduceEqDiff, Int.reduceEq, Int.reduceLT, Int.reduceLE, Int.reduceNeg, Int.reduceToNat, Int.cast_ofNat_Int, if_true, if_false, and_self, or_self, ite_self, bI_0, bI_1, bI_01, Bool.false_eq_true, reduceCtorEq, s_M_in, bB_1, bB_0, nem]
  rfl
theorem s_M_here (hn : g 156 1 ≤ 600) (h0 : 0 ≤ i) : VV L d m_M_here 0 [some (tA 156), some (tI i)] [] (WW f t g) Q = Q (some (tI (ym g i))) (WW f t g) := by
  unfold ym
  by_cases h : i < g 156 1
  · simp only [u_M_here_0, u_M_here_1, u_M_here_2, u_M_here_5, u_M_here_8, u_M_here_9, u_M_here_12, u_M_here_13, u_M_here_14, u_M_here_17, u_M_here_18, h1_156, gt_156_1, pt_156_1, gt_156_0, h1_157, h2_157, gt_157, pt_157, ne_eq, not_false_eq_true, not_true_eq_false, true_and, and_true, true_or, or_true, eq_self, Option.toList_some, Option.toList_none, List.cons_append, List.nil_append, tc_0, tc_I, tc_L, tc_A, Nat.reduceAdd, Nat.reduceLeDiff, Nat.reduceEqDiff, Int.reduceEq, Int.reduceLT, Int.reduceLE, Int.reduceNeg, Int.reduceToNat, Int.cast_ofNat_Int, if_true, if_false, and_self, or_self, ite_self, bI_0, bI_1, bI_01, Bool.false_eq_true, reduceCtorEq, show ¬ g 156 1 ≤ i by omega, h0, h, show i < 600 by omega]
  · simp only [u_M_here_0, u_M_here_1, u_M_here_2, u_M_here_5, u_M_here_8, u_M_here_9, u_M_here_12, u_M_here_13, u_M_here_14, u_M_here_17, u_M_here_18, h1_156, gt_156_1, pt_156_1, gt_156_0, h1_157, h2_157, gt_157, pt_157, ne_eq, not_false_eq_true, not_true_eq_false, true_and, and_true, true_or, or_true, eq_self, Option.toList_some, Option.toList_none, List.cons_append, List.nil_append, tc_0, tc_I, tc_L, tc_A, Nat.reduceAdd, Nat.reduceLeDiff, Nat.reduceEqDiff, Int.reduceEq, Int.reduceLT, Int.reduceLE, Int.reduceNeg, Int.reduceToNat, Int.cast_ofNat_Int, if_true, if_false, and_self, or_self, ite_self, bI_0, bI_1, bI_01, Bool.false_eq_true, reduceCtorEq, show g 156 1 ≤ i by omega, h, and_false]
theorem s_M_twoOf : VV L d m_M_twoOf 0 [some (tI c), some (tI e)] [] w Q = Q (some (tI (tw c e))) w := by
  simp only [u_M_twoOf_0, u_M_twoOf_1, u_M_twoOf_3, u_M_twoOf_6, u_M_twoOf_7, u_M_twoOf_9, u_M_twoOf_12, u_M_twoOf_13, u_M_twoOf_16, u_M_twoOf_17, u_M_twoOf_19, u_M_twoOf_22, u_M_twoOf_23, u_M_twoOf_26, u_M_twoOf_27, u_M_twoOf_29, u_M_twoOf_32, u_M_twoOf_33, u_M_twoOf_36, u_M_twoOf_37, u_M_twoOf_38, u_M_twoOf_39, u_M_twoOf_41, u_M_twoOf_44, u_M_twoOf_45, u_M_twoOf_47, u_M_twoOf_50, u_M_twoOf_51, u_M_twoOf_54, u_M_twoOf_55, u_M_twoOf_57, u_M_twoOf_60, u_M_twoOf_61, u_M_twoOf_63, u_M_twoOf_66, u_M_twoOf_67, u_M_twoOf_70, u_M_twoOf_71, u_M_twoOf_73, u_M_twoOf_76, u_M_twoOf_77, u_M_twoOf_79, u_M_twoOf_82, u_M_twoOf_83, u_M_twoOf_86, u_M_twoOf_87, h1_156, ne_eq, not_false_eq_true, not_true_eq_false, true_and, and_true, true_or, or_true, eq_self, Option.toList_some, Option.toList_none, List.cons_append, List.nil_append, tc_0, tc_I, tc_L, tc_A, Nat.reduceAdd, Nat.reduceLeDiff, Nat.reduceEqDiff, Int.reduceEq, Int.reduceLT, Int.reduceLE, Int.reduceNeg, Int.reduceToNat, Int.cast_ofNat_Int, if_true, if_false, and_self, or_self, ite_self, bI_0, bI_1, bI_01, Bool.false_eq_true, reduceCtorEq]
  unfold tw
  (repeat' split) <;> first | rfl | omega
theorem tw_pr2 : tw c e = if pr2 c e = 1 then -1 else if pr2 c e = 130 then 4 else if pr2 c e = 131 then 5 else if pr2 c e = 132 then 2 else if pr2 c e = 133 then 3 else pr2 c e - 128 := by
  unfold tw pr2
  by_cases h1 : e = 61
  · subst h1
    by_cases h2 : c = 43
    · subst h2; rfl
    · by_cases h3 : c = 45
      · subst h3; rfl
      · by_cases h4 : c = 94
        · subst h4; rfl
        · simp [h2, h3, h4]
  · by_cases h2 : c = 60
    · subst h2
      by_cases h3 : e = 60
      · subst h3; rfl
      · by_cases h4 : e = 62
        · subst h4; rfl
        · simp [h1, h3, h4]
    · by_cases h3 : c = 62
      · subst h3
        by_cases h4 : e = 62
        · subst h4; rfl
        · simp [h1, h4]
      · simp [h1, h2, h3]
theorem l_keyAt_in {q : Nat} (hq : q < 22) (hn : g 156 1 ≤ 600) (hfr : 0 ≤ fr) (hfn : fr + n ≤ g 156 1) (hlet : ∀ i : Int, 0 ≤ i → i < n → ¬ ym g (fr + i) = 32) : ∀ (m : Nat) (i : Int), n - i ≤ m → 0 ≤ i → i ≤ n → i ≤ ksL q → VV L d m_M_keyAt 18 [some (tA 156), some (tI fr), some (tI n), some (tI (q : Int)), some (tI (ksS q : Int)), some (tI i)] [] (WW f t g) Q = VV L d m_M_keyAt 52 [some (tA 156), some (tI fr), some (tI n), some (tI (q : Int)), some (tI (ksS q : Int)), some (tI (cpN (ym g) fr n (ksS q) m i))] [] (WW f t g) Q := by
  obtain ⟨h1, h2, h3, h4, h5, h6, h7⟩ := kfact q hq
  intro m
  induction m with
  | zero =>
    intro i a b c e
    rw [u_M_keyAt_18]
    simp only [u_M_keyAt_20, u_M_keyAt_21, u_M_keyAt_24, u_M_keyAt_26, u_M_keyAt_28, u_M_keyAt_30, u_M_keyAt_31, u_M_keyAt_34, u_M_keyAt_35, u_M_keyAt_38, u_M_keyAt_39, u_M_keyAt_41, u_M_keyAt_42, u_M_keyAt_43, u_M_keyAt_46, u_M_keyAt_49, ne_eq, not_false_eq_true, not_true_eq_false, true_and, and_true, true_or, or_true, eq_self, Option.toList_some, Option.toList_none, List.cons_append, List.nil_append, tc_0, tc_I, tc_L, tc_A, Nat.reduceAdd, Nat.reduceLeDiff, Nat.reduceEqDiff, Int.reduceEq, Int.reduceLT, Int.reduceLE, Int.reduceNeg, Int.reduceToNat, Int.cast_ofNat_Int, if_true, if_false, and_self, or_self, ite_self, bI_0, bI_1, bI_01, Bool.false_eq_true, reduceCtorEq, show n ≤ i by omega, cpN]
  | succ m ih =>
    intro i a b c e
    rw [u_M_keyAt_18]
    by_cases hin : n ≤ i
    · simp only [u_M_keyAt_20, u_M_keyAt_21, u_M_keyAt_24, u_M_keyAt_26, u_M_keyAt_28, u_M_keyAt_30, u_M_keyAt_31, u_M_keyAt_34, u_M_keyAt_35, u_M_keyAt_38, u_M_keyAt_39, u_M_keyAt_41, u_M_keyAt_42, u_M_keyAt_43, u_M_keyAt_46, u_M_keyAt_49, ne_eq, not_false_eq_true, not_true_eq_false, true_and, and_true, true_or, or_true, eq_self, Option.toList_some, Option.toList_none, List.cons_append, List.nil_append, tc_0, tc_I, tc_L, tc_A, Nat.reduceAdd, Nat.reduceLeDiff, Nat.reduceEqDiff, Int.reduceEq, Int.reduceLT, Int.reduceLE, Int.reduceNeg, Int.reduceToNat, Int.cast_ofNat_Int, if_true, if_false, and_self, or_self, ite_self, bI_0, bI_1, bI_01, Bool.false_eq_true, reduceCtorEq, hin, cpN, show ¬ i < n by omega, false_and]
    · have w1 : w32 ((ksS q : Int) + i) = ksS q + i := w32_id (by omega) (by omega)
      have w2 : w32 (fr + i) = fr + i := w32_id (by omega) (by omega)
      have w3 : w32 (i + 1) = i + 1 := w32_id (by omega) (by omega)
      have hk : (strs.getD (905 - 901) []).getD ((ksS q : Int) + i).toNat 0 = KM (ksS q + i) := rfl
      have hy : g 157 (fr + i).toNat = ym g (fr + i) := by unfold ym; rw [if_pos (by omega)]
      simp only [u_M_keyAt_20, u_M_keyAt_21, u_M_keyAt_24, u_M_keyAt_26, u_M_keyAt_28, u_M_keyAt_30, u_M_keyAt_31, u_M_keyAt_34, u_M_keyAt_35, u_M_keyAt_38, u_M_keyAt_39, u_M_keyAt_41, u_M_keyAt_42, u_M_keyAt_43, u_M_keyAt_46, u_M_keyAt_49, ne_eq, not_false_eq_true, not_true_eq_false, true_and, and_true, true_or, or_true, eq_self, Option.toList_some, Option.toList_none, List.cons_append, List.nil_append, tc_0, tc_I, tc_L, tc_A, Nat.reduceAdd, Nat.reduceLeDiff, Nat.reduceEqDiff, Int.reduceEq, Int.reduceLT, Int.reduceLE, Int.reduceNeg, Int.reduceToNat, Int.cast_ofNat_Int, if_true, if_false, and_self, or_self, ite_self, bI_0, bI_1, bI_01, Bool.false_eq_true, reduceCtorEq, h1_905, sl_905, h1_156, gt_156_0, h1_157, h2_157, gt_157, hin, w1, w2, w3, hk, hy, show 0 ≤ (ksS q : Int) + i by omega, show (ksS q : Int) + i < 106 by omega, show 0 ≤ fr + i by omega, show fr + i < 600 by omega, cpN, show i < n by omega]
      by_cases he : KM (ksS q + i) = ym g (fr + i)
      · have hne : ¬ i = ksL q := by
          intro hh
          rw [hh, show ((ksS q : Int) + (ksL q : Int)) = ((ksS q + ksL q : Nat) : Int) by omega, h4] at he
          exact hlet (ksL q) (by omega) (by omega) he.symm
        simp only [he, ne_eq, not_false_eq_true, not_true_eq_false, true_and, and_true, true_or, or_true, eq_self, Option.toList_some, Option.toList_none, List.cons_append, List.nil_append, tc_0, tc_I, tc_L, tc_A, Nat.reduceAdd, Nat.reduceLeDiff, Nat.reduceEqDiff, Int.reduceEq, Int.reduceLT, Int.reduceLE, Int.reduceNeg, Int.reduceToNat, Int.cast_ofNat_Int, if_true, if_false, and_self, or_self, ite_self, bI_0, bI_1, bI_01, Bool.false_eq_true, reduceCtorEq, ih (i + 1) (by omega) (by omega) (by omega) (by omega)]
      · simp only [he, ne_eq, not_false_eq_true, not_true_eq_false, true_and, and_true, true_or, or_true, eq_self, Option.toList_some, Option.toList_none, List.cons_append, List.nil_append, tc_0, tc_I, tc_L, tc_A, Nat.reduceAdd, Nat.reduceLeDiff, Nat.reduceEqDiff, Int.reduceEq, Int.reduceLT, Int.reduceLE, Int.reduceNeg, Int.reduceToNat, Int.cast_ofNat_Int, if_true, if_false, and_self, or_self, ite_self, bI_0, bI_1, bI_01, Bool.false_eq_true, reduceCtorEq]
theorem l_keyAt_skip {q : Nat} {l5 : Option TV} (hq : q < 22) : ∀ (m : Nat) (j : Nat), j + m = ksL q → VV L d m_M_keyAt 75 [some (tA 156), some (tI fr), some (tI n), some (tI (q : Int)), some (tI ((ksS q + j : Nat) : Int)), l5] [] (WW f t g) Q = VV L d m_M_keyAt 93 [some (tA 156), some (tI fr), some (tI n), some (tI (q : Int)), some (tI ((ksS q + ksL q : Nat) : Int)), l5] [] (WW f t g) Q := by
  obtain ⟨h1, h2, h3, h4, h5, h6, h7⟩ := kfact q hq
  have hk : ∀ x : Int, (strs.getD (905 - 901) []).getD x.toNat 0 = KM x := fun x => rfl
  intro m
  induction m with
  | zero =>
    intro j hj
    rw [u_M_keyAt_75]
    rw [show j = ksL q by omega]
    simp only [u_M_keyAt_77, u_M_keyAt_79, u_M_keyAt_82, u_M_keyAt_84, u_M_keyAt_87, u_M_keyAt_90, ne_eq, not_false_eq_true, not_true_eq_false, true_and, and_true, true_or, or_true, eq_self, Option.toList_some, Option.toList_none, List.cons_append, List.nil_append, tc_0, tc_I, tc_L, tc_A, Nat.reduceAdd, Nat.reduceLeDiff, Nat.reduceEqDiff, Int.reduceEq, Int.reduceLT, Int.reduceLE, Int.reduceNeg, Int.reduceToNat, Int.cast_ofNat_Int, if_true, if_false, and_self, or_self, ite_self, bI_0, bI_1, bI_01, Bool.false_eq_true, reduceCtorEq, h1_905, sl_905, hk, h4, show (0 : Int) ≤ ((ksS q + ksL q : Nat) : Int) by omega, show ((ksS q + ksL q : Nat) : Int) < 106 by omega]
  | succ m ih =>
    intro j hj
    rw [u_M_keyAt_75]
    have w1 : w32 (((ksS q + j : Nat) : Int) + 1) = ((ksS q + (j + 1) : Nat) : Int) := by rw [w32_id (by omega) (by omega)]; omega
    simp only [u_M_keyAt_77, u_M_keyAt_79, u_M_keyAt_82, u_M_keyAt_84, u_M_keyAt_87, u_M_keyAt_90, ne_eq, not_false_eq_true, not_true_eq_false, true_and, and_true, true_or, or_true, eq_self, Option.toList_some, Option.toList_none, List.cons_append, List.nil_append, tc_0, tc_I, tc_L, tc_A, Nat.reduceAdd, Nat.reduceLeDiff, Nat.reduceEqDiff, Int.reduceEq, Int.reduceLT, Int.reduceLE, Int.reduceNeg, Int.reduceToNat, Int.cast_ofNat_Int, if_true, if_false, and_self, or_self, ite_self, bI_0, bI_1, bI_01, Bool.false_eq_true, reduceCtorEq, h1_905, sl_905, hk, (h5 j (by omega) (by omega)).1, show (0 : Int) ≤ ((ksS q + j : Nat) : Int) by omega, show ((ksS q + j : Nat) : Int) < 106 by omega, w1, ih (j + 1) (by omega)]
theorem kf_n : ∀ q, q < 22 → ksL q ≤ 6 ∧ 2 ≤ ksL q ∧ ksS q + ksL q ≤ 105 ∧ ksS q + ksL q + 1 = ksS (q + 1) := fun q h => ⟨(kfact q h).1, (kfact q h).2.1, (kfact q h).2.2.1, (kfact q h).2.2.2.2.2.2⟩
theorem kf_l : ∀ q, q < 22 → KM (((ksS q : Nat) : Int) + ((ksL q : Nat) : Int)) = 32 := fun q h => (kfact q h).2.2.2.1
theorem kf_k : ∀ q, q < 22 → ∀ i : Nat, i < ksL q → ¬ KM (((ksS q : Nat) : Int) + (i : Int)) = 32 := fun q h i hi => ((kfact q h).2.2.2.2.1 i (Nat.lt_of_lt_of_le hi (Nat.le_trans (kfact q h).1 (by decide))) hi).1
theorem isW_eq {y : Int → Int} {fr n : Int} {q : Nat} : isW y fr n q ↔ (n = ksL q ∧ ∀ i : Nat, i < ksL q → KM (((ksS q : Nat) : Int) + (i : Int)) = y (fr + i)) := Iff.rfl
theorem keyR_s {y : Int → Int} {fr en : Int} {m q : Nat} : keyR y fr en (m + 1) ((6 * q : Nat) : Int) = if isK y fr en ((6 * q : Nat) : Int) = true then 200 + (q : Int) else keyR y fr en m ((6 * (q + 1) : Nat) : Int) := by
  have hq6 : ((6 * q : Nat) : Int) + 6 = ((6 * (q + 1) : Nat) : Int) := by omega
  have hd : (((6 * q : Nat) : Int)).tdiv 6 = q := by rw [Int.tdiv_eq_ediv_of_nonneg (by omega)]; omega
  rw [keyR, hq6, hd]
def kres (y : Int → Int) (fr n : Int) (m q : Nat) : Int := if n ≤ 6 ∧ ¬ keyR y fr (fr + n) m ((6 * q : Nat) : Int) = 1 then keyR y fr (fr + n) m ((6 * q : Nat) : Int) - 200 else -1
theorem kres_s {y : Int → Int} {fr n : Int} {m q : Nat} (hq : q < 22) (hn0 : 0 ≤ n) (hlet : ∀ i : Int, 0 ≤ i → i < n → ¬ y (fr + i) = 32) : (isW y fr n q → kres y fr n (m + 1) q = q) ∧ (¬ isW y fr n q → kres y fr n (m + 1) q = kres y fr n m (q + 1)) := by
  have hL := kf_n q hq
  constructor
  · intro hW
    have h6 : n ≤ 6 := by have := hW.1; omega
    have hK := (isW_isK hq hn0 h6 hlet).mpr hW
    unfold kres
    rw [keyR_s, if_pos hK, if_pos ⟨h6, by omega⟩]; omega
  · intro hW
    unfold kres
    by_cases h6 : n ≤ 6
    · have hK : ¬ isK y fr (fr + n) ((6 * q : Nat) : Int) = true := fun h => hW ((isW_isK hq hn0 h6 hlet).mp h)
      rw [keyR_s, if_neg hK]
    · rw [if_neg (fun h => h6 h.1), if_neg (fun h => h6 h.1)]
theorem l_keyAt (hn : g 156 1 ≤ 600) (hfr : 0 ≤ fr) (hn0 : 0 ≤ n) (hfn : fr + n ≤ g 156 1) (hlet : ∀ i : Int, 0 ≤ i → i < n → ¬ ym g (fr + i) = 32) : ∀ (m : Nat) (q : Nat) (l5 : Option TV), q + m = 22 → VV L d m_M_keyAt 5 [some (tA 156), some (tI fr), some (tI n), some (tI (q : Int)), some (tI (ksS q : Int)), l5] [] (WW f t g) Q = Q (some (tI (kres (ym g) fr n m q))) (WW f t g) := by
  intro m
  induction m with
  | zero =>
    intro q l5 hq
    rw [show q = 22 by omega, u_M_keyAt_5]
    simp only [u_M_keyAt_7, u_M_keyAt_9, u_M_keyAt_12, u_M_keyAt_15, u_M_keyAt_16, u_M_keyAt_102, u_M_keyAt_103, ne_eq, not_false_eq_true, not_true_eq_false, true_and, and_true, true_or, or_true, eq_self, Option.toList_some, Option.toList_none, List.cons_append, List.nil_append, tc_0, tc_I, tc_L, tc_A, Nat.reduceAdd, Nat.reduceLeDiff, Nat.reduceEqDiff, Int.reduceEq, Int.reduceLT, Int.reduceLE, Int.reduceNeg, Int.reduceToNat, Int.cast_ofNat_Int, if_true, if_false, and_self, or_self, ite_self, bI_0, bI_1, bI_01, Bool.false_eq_true, reduceCtorEq, h1_905, sl_905, ks_22, show ¬ ((106 : Nat) : Int) < 106 by omega, show (106 : Int) ≤ ((106 : Nat) : Int) by omega, keyR, kres, and_false]
  | succ m ih =>
    intro q l5 hq
    obtain ⟨k1, k2, k3, k7⟩ := kf_n q (by omega)
    have hq22 : q < 22 := by omega
    have hih : q + 1 + m = 22 := by omega
    have b1 : ¬ (106 : Int) ≤ (ksS q : Int) := by omega
    have b3' : ∀ z : Int, z ≤ ksL q → (ksS q : Int) + z < 106 := fun z hz => by omega
    have b2' : ∀ z : Int, 0 ≤ z → 0 ≤ (ksS q : Int) + z := fun z hz => by omega
    obtain ⟨p1, p2, p3, p4⟩ := cpN_p (y := ym g) (fr := fr) (n := n) (k := (ksS q : Int)) n.toNat 0 (by omega) (by omega)
    obtain ⟨p5, hw⟩ := cpW (y := ym g) (km := KM) (s := ksS q) (l := ksL q) hn0 (kf_l q (by omega)) (kf_k q (by omega)) hlet p1 p2 p3 p4
    rw [← isW_eq] at hw
    clear p3 p4
    have hin := l_keyAt_in (L := L) (d := d) (f := f) (t := t) (Q := Q) (show q < 22 by omega) hn hfr hfn hlet n.toNat 0 (by omega) (by omega) (by omega) (by omega)
    generalize cpN (ym g) fr n (ksS q) n.toNat 0 = z at p1 p2 p5 hw hin
    have b2 := b2' z p1
    have b3 := b3' z p5
    have w1 : w32 ((ksS q : Int) + z) = ksS q + z := w32_id (by clear hw hin; omega) (by clear hw hin; omega)
    have w2 : w32 (((ksS q + ksL q : Nat) : Int) + 1) = (ksS (q + 1) : Int) := by rw [w32_id (by clear hw hin; omega) (by clear hw hin; omega)]; clear hw hin; omega
    have w3 : w32 ((q : Int) + 1) = ((q + 1 : Nat) : Int) := by rw [w32_id (by clear hw hin; omega) (by clear hw hin; omega)]; clear hw hin; omega
    have hks := kres_s (y := ym g) (fr := fr) (n := n) (m := m) hq22 hn0 hlet
    have hk : (strs.getD (905 - 901) []).getD ((ksS q : Int) + z).toNat 0 = KM (ksS q + z) := rfl
    generalize hkz : KM (ksS q + z) = kz at hw hk
    have hnext : ∀ l5, VV L d m_M_keyAt 75 [some (tA 156), some (tI fr), some (tI n), some (tI (q : Int)), some (tI (ksS q : Int)), l5] [] (WW f t g) Q = Q (some (tI (kres (ym g) fr n m (q + 1)))) (WW f t g) := by
      intro l5
      have := l_keyAt_skip (L := L) (d := d) (f := f) (t := t) (g := g) (Q := Q) (fr := fr) (n := n) (l5 := l5) hq22 (ksL q) 0 (Nat.zero_add _)
      rw [show ((ksS q + 0 : Nat) : Int) = (ksS q : Int) from rfl] at this
      rw [this]
      simp only [u_M_keyAt_93, u_M_keyAt_96, u_M_keyAt_99, ne_eq, not_false_eq_true, not_true_eq_false, true_and, and_true, true_or, or_true, eq_self, Option.toList_some, Option.toList_none, List.cons_append, List.nil_append, tc_0, tc_I, tc_L, tc_A, Nat.reduceAdd, Nat.reduceLeDiff, Nat.reduceEqDiff, Int.reduceEq, Int.reduceLT, Int.reduceLE, Int.reduceNeg, Int.reduceToNat, Int.cast_ofNat_Int, if_true, if_false, and_self, or_self, ite_self, bI_0, bI_1, bI_01, Bool.false_eq_true, reduceCtorEq, w2, w3, ih (q + 1) l5 hih]
    rw [u_M_keyAt_5]
    simp only [u_M_keyAt_7, u_M_keyAt_9, u_M_keyAt_12, u_M_keyAt_15, u_M_keyAt_16, ne_eq, not_false_eq_true, not_true_eq_false, true_and, and_true, true_or, or_true, eq_self, Option.toList_some, Option.toList_none, List.cons_append, List.nil_append, tc_0, tc_I, tc_L, tc_A, Nat.reduceAdd, Nat.reduceLeDiff, Nat.reduceEqDiff, Int.reduceEq, Int.reduceLT, Int.reduceLE, Int.reduceNeg, Int.reduceToNat, Int.cast_ofNat_Int, if_true, if_false, and_self, or_self, ite_self, bI_0, bI_1, bI_01, Bool.false_eq_true, reduceCtorEq, h1_905, sl_905, b1]
    rw [hin]
    simp only [u_M_keyAt_52, u_M_keyAt_54, u_M_keyAt_55, u_M_keyAt_58, u_M_keyAt_60, u_M_keyAt_62, u_M_keyAt_64, u_M_keyAt_65, u_M_keyAt_68, u_M_keyAt_70, u_M_keyAt_73, u_M_keyAt_74, ne_eq, not_false_eq_true, not_true_eq_false, true_and, and_true, true_or, or_true, eq_self, Option.toList_some, Option.toList_none, List.cons_append, List.nil_append, tc_0, tc_I, tc_L, tc_A, Nat.reduceAdd, Nat.reduceLeDiff, Nat.reduceEqDiff, Int.reduceEq, Int.reduceLT, Int.reduceLE, Int.reduceNeg, Int.reduceToNat, Int.cast_ofNat_Int, if_true, if_false, and_self, or_self, ite_self, bI_0, bI_1, bI_01, Bool.false_eq_true, reduceCtorEq, h1_905, sl_905, w1, hk, b2, b3, hnext]
    by_cases hW : isW (ym g) fr n q
    · have hc := hw.mpr hW
      simp only [hc.1, hc.2, ne_eq, not_false_eq_true, not_true_eq_false, true_and, and_true, true_or, or_true, eq_self, Option.toList_some, Option.toList_none, List.cons_append, List.nil_append, tc_0, tc_I, tc_L, tc_A, Nat.reduceAdd, Nat.reduceLeDiff, Nat.reduceEqDiff, Int.reduceEq, Int.reduceLT, Int.reduceLE, Int.reduceNeg, Int.reduceToNat, Int.cast_ofNat_Int, if_true, if_false, and_self, or_self, ite_self, bI_0, bI_1, bI_01, Bool.false_eq_true, reduceCtorEq, hks.1 hW]
    · have hnc := fun h => hW (hw.mp h)
      rw [hks.2 hW]
      by_cases hc1 : z = n
      · have hc2 : ¬ kz = 32 := fun h => hnc ⟨hc1, h⟩
        simp only [hc2, ne_eq, not_false_eq_true, not_true_eq_false, true_and, and_true, true_or, or_true, eq_self, Option.toList_some, Option.toList_none, List.cons_append, List.nil_append, tc_0, tc_I, tc_L, tc_A, Nat.reduceAdd, Nat.reduceLeDiff, Nat.reduceEqDiff, Int.reduceEq, Int.reduceLT, Int.reduceLE, Int.reduceNeg, Int.reduceToNat, Int.cast_ofNat_Int, if_true, if_false, and_self, or_self, ite_self, bI_0, bI_1, bI_01, Bool.false_eq_true, reduceCtorEq, ite_self]
      · simp only [hc1, ne_eq, not_false_eq_true, not_true_eq_false, true_and, and_true, true_or, or_true, eq_self, Option.toList_some, Option.toList_none, List.cons_append, List.nil_append, tc_0, tc_I, tc_L, tc_A, Nat.reduceAdd, Nat.reduceLeDiff, Nat.reduceEqDiff, Int.reduceEq, Int.reduceLT, Int.reduceLE, Int.reduceNeg, Int.reduceToNat, Int.cast_ofNat_Int, if_true, if_false, and_self, or_self, ite_self, bI_0, bI_1, bI_01, Bool.false_eq_true, reduceCtorEq]
theorem s_M_keyAt (hn : g 156 1 ≤ 600) (hfr : 0 ≤ fr) (hn0 : 0 ≤ n) (hfn : fr + n ≤ g 156 1) (hlet : ∀ i : Int, 0 ≤ i → i < n → ¬ ym g (fr + i) = 32) : VV L d m_M_keyAt 0 [some (tA 156), some (tI fr), some (tI n), none, none, none] [] (WW f t g) Q = Q (some (tI (if keyC (ym g) fr (fr + n) = 1 then -1 else keyC (ym g) fr (fr + n) - 200))) (WW f t g) := by
  have := l_keyAt (L := L) (d := d) (f := f) (t := t) (Q := Q) hn hfr hn0 hfn hlet 22 0 none rfl
  rw [ks_0] at this
  simp only [u_M_keyAt_0, u_M_keyAt_1, u_M_keyAt_2, u_M_keyAt_3, u_M_keyAt_7, u_M_keyAt_9, u_M_keyAt_12, u_M_keyAt_15, u_M_keyAt_16, u_M_keyAt_20, u_M_keyAt_21, u_M_keyAt_24, u_M_keyAt_26, u_M_keyAt_28, u_M_keyAt_30, u_M_keyAt_31, u_M_keyAt_34, u_M_keyAt_35, u_M_keyAt_38, u_M_keyAt_39, u_M_keyAt_41, u_M_keyAt_42, u_M_keyAt_43, u_M_keyAt_46, u_M_keyAt_49, u_M_keyAt_52, u_M_keyAt_54, u_M_keyAt_55, u_M_keyAt_58, u_M_keyAt_60, u_M_keyAt_62, u_M_keyAt_64, u_M_keyAt_65, u_M_keyAt_68, u_M_keyAt_70, u_M_keyAt_73, u_M_keyAt_74, u_M_keyAt_77, u_M_keyAt_79, u_M_keyAt_82, u_M_keyAt_84, u_M_keyAt_87, u_M_keyAt_90, u_M_keyAt_93, u_M_keyAt_96, u_M_keyAt_99, u_M_keyAt_102, u_M_keyAt_103, h1_156, gt_156_0, h1_157, h2_157, gt_157, pt_157, ne_eq, not_false_eq_true, not_true_eq_false, true_and, and_true, true_or, or_true, eq_self, Option.toList_some, Option.toList_none, List.cons_append, List.nil_append, tc_0, tc_I, tc_L, tc_A, Nat.reduceAdd, Nat.reduceLeDiff, Nat.reduceEqDiff, Int.reduceEq, Int.reduceLT, Int.reduceLE, Int.reduceNeg, Int.reduceToNat, Int.cast_ofNat_Int, if_true, if_false, and_self, or_self, ite_self, bI_0, bI_1, bI_01, Bool.false_eq_true, reduceCtorEq]
  refine this.trans ?_
  congr 3
  unfold keyC
  unfold kres
  show (if n ≤ 6 ∧ ¬ keyR (ym g) fr (fr + n) 22 0 = 1 then keyR (ym g) fr (fr + n) 22 0 - 200 else -1) = _
  by_cases h6 : n ≤ 6
  · rw [if_neg (show ¬ 6 < fr + n - fr by omega)]
    by_cases h : keyR (ym g) fr (fr + n) 22 0 = 1
    · rw [if_neg (fun hh => hh.2 h), if_pos h]
    · rw [if_pos ⟨h6, h⟩, if_neg h]
  · rw [if_pos (show 6 < fr + n - fr by omega), if_neg (fun hh => h6 hh.1)]; rfl
end
