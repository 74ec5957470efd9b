/-! Reader: the lexer, numbers and keys -/
def bnd : Nat → Int
  | 0 => 1000000000
  | 1 => 100000000
  | 2 => 10000000
  | 3 => 1000000
  | 4 => 100000
  | 5 => 10000
  | 6 => 1000
  | 7 => 100
  | 8 => 10
  | 9 => 1
  | _ => 0
theorem bnd_s : ∀ m, m < 9 → bnd m = bnd (m + 1) * 10 := by decide
theorem bnd_9 : ∀ m, m < 10 → 1 ≤ bnd m ∧ bnd m ≤ 1000000000 := by decide
theorem numF_b {y : Int → Int} : ∀ (m : Nat) (i acc : Int), m ≤ 9 → 0 ≤ acc → acc < bnd m → (∀ j, i ≤ j → j < i + m → 48 ≤ y j ∧ y j ≤ 57) → 0 ≤ numF y m i acc ∧ numF y m i acc < 1000000000 := by
  intro m
  induction m with
  | zero => intro i acc h1 h2 h3 h4; unfold numF; have h3x : acc < 1000000000 := h3; omega
  | succ m ih =>
    intro i acc h1 h2 h3 h4
    unfold numF
    have h5 := h4 i (by omega) (by omega)
    have h6 := bnd_s m (by omega)
    exact ih (i + 1) _ (by omega) (by omega) (by omega) (fun j h7 h8 => h4 j (by omega) (by omega))
section
variable {L d : Nat} {w : Wd} {f t g : Mem} {Q : Option TV → Wd → Prop} {c n fr en k : Int}
theorem l_Re_num (hn : n ≤ 600) (hen : en ≤ n) : ∀ (m : Nat) (i acc : Int), 0 ≤ i → i + m = en → m ≤ 9 → 0 ≤ acc → acc < bnd m → (∀ j, i ≤ j → j < en → 48 ≤ yb f n j ∧ yb f n j ≤ 57) → VV L d m_Re_numberToken 5 [some (tA 2), some (tI fr), some (tI en), some (tI acc), some (tI i)] [] (WW f t g) Q = Q (some (tI (-1 - numF (yb f n) m i acc))) (WW f t g) := by
  intro m
  induction m with
  | zero =>
    intro i acc h0 h1 h2 h3 h4 h5
    have h4x : acc < 1000000000 := h4
    rw [u_Re_numberToken_5]
    simp only [u_Re_numberToken_0, u_Re_numberToken_1, u_Re_numberToken_2, u_Re_numberToken_3, u_Re_numberToken_7, u_Re_numberToken_8, u_Re_numberToken_11, u_Re_numberToken_12, u_Re_numberToken_14, u_Re_numberToken_15, u_Re_numberToken_16, u_Re_numberToken_18, u_Re_numberToken_19, u_Re_numberToken_20, u_Re_numberToken_22, u_Re_numberToken_23, u_Re_numberToken_24, u_Re_numberToken_27, u_Re_numberToken_30, u_Re_numberToken_31, u_Re_numberToken_32, u_Re_numberToken_33, h1_14, ne_eq, not_false_eq_true, not_true_eq_false, true_and, and_true, true_or, or_true, eq_self, Option.toList_some, Option.toList_none, List.cons_append, List.nil_append, tc_0, tc_I, tc_L, tc_A, Nat.reduceAdd, Nat.reduceLeDiff, Nat.reduceEqDiff, Int.reduceEq, Int.reduceLT, Int.reduceLE, Int.reduceNeg, Int.reduceToNat, Int.cast_ofNat_Int, if_true, if_false, and_self, or_self, ite_self, bI_0, bI_1, bI_01, Bool.false_eq_true, reduceCtorEq, show en ≤ i by omega, numF, w32_id (show (-2147483648 : Int) ≤ -1 - acc by omega) (show -1 - acc < (2147483648 : Int) by omega)]
  | succ m ih =>
    intro i acc h0 h1 h2 h3 h4 h5
    have hy : f 2 i.toNat = yb f n i := by unfold yb; rw [if_pos (by omega)]
    have h6 := h5 i (by omega) (by omega)
    have h7 := bnd_s m (by omega)
    have h8 := bnd_9 (m + 1) (by omega)
    have h9 := bnd_9 m (by omega)
    rw [u_Re_numberToken_5]
    simp only [u_Re_numberToken_0, u_Re_numberToken_1, u_Re_numberToken_2, u_Re_numberToken_3, u_Re_numberToken_7, u_Re_numberToken_8, u_Re_numberToken_11, u_Re_numberToken_12, u_Re_numberToken_14, u_Re_numberToken_15, u_Re_numberToken_16, u_Re_numberToken_18, u_Re_numberToken_19, u_Re_numberToken_20, u_Re_numberToken_22, u_Re_numberToken_23, u_Re_numberToken_24, u_Re_numberToken_27, u_Re_numberToken_30, u_Re_numberToken_31, u_Re_numberToken_32, u_Re_numberToken_33, h1_14, ne_eq, not_false_eq_true, not_true_eq_false, true_and, and_true, true_or, or_true, eq_self, Option.toList_some, Option.toList_none, List.cons_append, List.nil_append, tc_0, tc_I, tc_L, tc_A, Nat.reduceAdd, Nat.reduceLeDiff, Nat.reduceEqDiff, Int.reduceEq, Int.reduceLT, Int.reduceLE, Int.reduceNeg, Int.reduceToNat, Int.cast_ofNat_Int, if_true, if_false, and_self, or_self, ite_self, bI_0, bI_1, bI_01, Bool.false_eq_true, reduceCtorEq, h1_2, h2_2, gt_2, pt_2, show ¬ en ≤ i by omega, h0, show i < 600 by omega, hy, numF, w32_id (show (-2147483648 : Int) ≤ acc * 10 by omega) (show acc * 10 < (2147483648 : Int) by omega), w32_id (show (-2147483648 : Int) ≤ acc * 10 + yb f n i by omega) (show acc * 10 + yb f n i < (2147483648 : Int) by omega), w32_id (show (-2147483648 : Int) ≤ acc * 10 + yb f n i - 48 by omega) (show acc * 10 + yb f n i - 48 < (2147483648 : Int) by omega), w32_id (show (-2147483648 : Int) ≤ i + 1 by omega) (show i + 1 < (2147483648 : Int) by omega)]
    exact ih (i + 1) _ (by omega) (by omega) (by omega) (by omega) (by omega) (fun j h h' => h5 j (by omega) h')
theorem l_Re_isKey {i : Int} {l5 : Option TV} (hn : n ≤ 600) (hfr : 0 ≤ fr) (hf2 : fr ≤ 600) (hen : en ≤ n) (hk0 : 0 ≤ k) (hk : k ≤ 126) (hi : 0 ≤ i) (hi2 : i < 6) : VV L d m_Re_isKey 3 [some (tI k), some (tA 2), some (tI fr), some (tI en), some (tI i), l5] [] (WW f t g) Q = if KY (k + i) = wdc (yb f n) fr en i then VV L d m_Re_isKey 3 [some (tI k), some (tA 2), some (tI fr), some (tI en), some (tI (i + 1)), some (tI (wdc (yb f n) fr en i))] [] (WW f t g) Q else Q (some (tI 0)) (WW f t g) := by
  rw [u_Re_isKey_3]
  have hk' : KY (k + i) = (strs.getD (902 - 901) []).getD (k + i).toNat 0 := rfl
  · have e1 : w32 (fr + i) = fr + i := w32_id (by omega) (by omega)
    have e2 : w32 (k + i) = k + i := w32_id (by omega) (by omega)
    have e3 : w32 (i + 1) = i + 1 := w32_id (by omega) (by omega)
    by_cases h3 : en ≤ fr + i
    · have hw : wdc (yb f n) fr en i = 32 := by unfold wdc; rw [if_neg (by omega)]
      simp only [u_Re_isKey_0, u_Re_isKey_1, u_Re_isKey_5, u_Re_isKey_7, u_Re_isKey_10, u_Re_isKey_11, u_Re_isKey_13, u_Re_isKey_14, u_Re_isKey_15, u_Re_isKey_18, u_Re_isKey_19, u_Re_isKey_20, u_Re_isKey_22, u_Re_isKey_23, u_Re_isKey_24, u_Re_isKey_27, u_Re_isKey_29, u_Re_isKey_31, u_Re_isKey_33, u_Re_isKey_34, u_Re_isKey_36, u_Re_isKey_37, u_Re_isKey_40, u_Re_isKey_42, u_Re_isKey_45, u_Re_isKey_46, u_Re_isKey_47, u_Re_isKey_50, u_Re_isKey_53, u_Re_isKey_54, h1_14, ne_eq, not_false_eq_true, not_true_eq_false, true_and, and_true, true_or, or_true, eq_self, Option.toList_some, Option.toList_none, List.cons_append, List.nil_append, tc_0, tc_I, tc_L, tc_A, Nat.reduceAdd, Nat.reduceLeDiff, Nat.reduceEqDiff, Int.reduceEq, Int.reduceLT, Int.reduceLE, Int.reduceNeg, Int.reduceToNat, Int.cast_ofNat_Int, if_true, if_false, and_self, or_self, ite_self, bI_0, bI_1, bI_01, Bool.false_eq_true, reduceCtorEq, show ¬ 6 ≤ i by omega, e1, e2, e3, h3, h1_902, sl_902, ← hk', hw, show 0 ≤ k + i by omega, show k + i < 132 by omega]
    · have hw : wdc (yb f n) fr en i = yb f n (fr + i) := by unfold wdc; rw [if_pos (by omega)]
      have hy : f 2 (fr + i).toNat = yb f n (fr + i) := by unfold yb; rw [if_pos (by omega)]
      simp only [u_Re_isKey_0, u_Re_isKey_1, u_Re_isKey_5, u_Re_isKey_7, u_Re_isKey_10, u_Re_isKey_11, u_Re_isKey_13, u_Re_isKey_14, u_Re_isKey_15, u_Re_isKey_18, u_Re_isKey_19, u_Re_isKey_20, u_Re_isKey_22, u_Re_isKey_23, u_Re_isKey_24, u_Re_isKey_27, u_Re_isKey_29, u_Re_isKey_31, u_Re_isKey_33, u_Re_isKey_34, u_Re_isKey_36, u_Re_isKey_37, u_Re_isKey_40, u_Re_isKey_42, u_Re_isKey_45, u_Re_isKey_46, u_Re_isKey_47, u_Re_isKey_50, u_Re_isKey_53, u_Re_isKey_54, h1_14, ne_eq, not_false_eq_true, not_true_eq_false, true_and, and_true, true_or, or_true, eq_self, Option.toList_some, Option.toList_none, List.cons_append, List.nil_append, tc_0, tc_I, tc_L, tc_A, Nat.reduceAdd, Nat.reduceLeDiff, Nat.reduceEqDiff, Int.reduceEq, Int.reduceLT, Int.reduceLE, Int.reduceNeg, Int.reduceToNat, Int.cast_ofNat_Int, if_true, if_false, and_self, or_self, ite_self, bI_0, bI_1, bI_01, Bool.false_eq_true, reduceCtorEq, h1_2, h2_2, gt_2, pt_2, show ¬ 6 ≤ i by omega, e1, e2, e3, h3, h1_902, sl_902, ← hk', hw, hy, show 0 ≤ k + i by omega, show k + i < 132 by omega, show 0 ≤ fr + i by omega, show fr + i < 600 by omega]
theorem s_Re_isKey (hn : n ≤ 600) (hfr : 0 ≤ fr) (hf2 : fr ≤ 600) (hen : en ≤ n) (hk0 : 0 ≤ k) (hk : k ≤ 126) : VV L d m_Re_isKey 0 [some (tI k), some (tA 2), some (tI fr), some (tI en), none, none] [] (WW f t g) Q = Q (some (tI (bB (isK (yb f n) fr en k)))) (WW f t g) := by
  simp only [u_Re_isKey_0, u_Re_isKey_1, u_Re_isKey_5, u_Re_isKey_7, u_Re_isKey_10, u_Re_isKey_11, u_Re_isKey_13, u_Re_isKey_14, u_Re_isKey_15, u_Re_isKey_18, u_Re_isKey_19, u_Re_isKey_20, u_Re_isKey_22, u_Re_isKey_23, u_Re_isKey_24, u_Re_isKey_27, u_Re_isKey_29, u_Re_isKey_31, u_Re_isKey_33, u_Re_isKey_34, u_Re_isKey_36, u_Re_isKey_37, u_Re_isKey_40, u_Re_isKey_42, u_Re_isKey_45, u_Re_isKey_46, u_Re_isKey_47, u_Re_isKey_50, u_Re_isKey_53, u_Re_isKey_54, h1_14, ne_eq, not_false_eq_true, not_true_eq_false, true_and, and_true, true_or, or_true, eq_self, Option.toList_some, Option.toList_none, List.cons_append, List.nil_append, tc_0, tc_I, tc_L, tc_A, Nat.reduceAdd, Nat.reduceLeDiff, Nat.reduceEqDiff, Int.reduceEq, Int.reduceLT, Int.reduceLE, Int.reduceNeg, Int.reduceToNat, Int.cast_ofNat_Int, if_true, if_false, and_self, or_self, ite_self, bI_0, bI_1, bI_01, Bool.false_eq_true, reduceCtorEq]
  rw [l_Re_isKey hn hfr hf2 hen hk0 hk (by omega) (by omega), l_Re_isKey hn hfr hf2 hen hk0 hk (by omega) (by omega), l_Re_isKey hn hfr hf2 hen hk0 hk (by omega) (by omega), l_Re_isKey hn hfr hf2 hen hk0 hk (by omega) (by omega), l_Re_isKey hn hfr hf2 hen hk0 hk (by omega) (by omega), l_Re_isKey hn hfr hf2 hen hk0 hk (by omega) (by omega)]
  rw [u_Re_isKey_3]
  simp only [u_Re_isKey_0, u_Re_isKey_1, u_Re_isKey_5, u_Re_isKey_7, u_Re_isKey_10, u_Re_isKey_11, u_Re_isKey_13, u_Re_isKey_14, u_Re_isKey_15, u_Re_isKey_18, u_Re_isKey_19, u_Re_isKey_20, u_Re_isKey_22, u_Re_isKey_23, u_Re_isKey_24, u_Re_isKey_27, u_Re_isKey_29, u_Re_isKey_31, u_Re_isKey_33, u_Re_isKey_34, u_Re_isKey_36, u_Re_isKey_37, u_Re_isKey_40, u_Re_isKey_42, u_Re_isKey_45, u_Re_isKey_46, u_Re_isKey_47, u_Re_isKey_50, u_Re_isKey_53, u_Re_isKey_54, h1_14, ne_eq, not_false_eq_true, not_true_eq_false, true_and, and_true, true_or, or_true, eq_self, Option.toList_some, Option.toList_none, List.cons_append, List.nil_append, tc_0, tc_I, tc_L, tc_A, Nat.reduceAdd, Nat.reduceLeDiff, Nat.reduceEqDiff, Int.reduceEq, Int.reduceLT, Int.reduceLE, Int.reduceNeg, Int.reduceToNat, Int.cast_ofNat_Int, if_true, if_false, and_self, or_self, ite_self, bI_0, bI_1, bI_01, Bool.false_eq_true, reduceCtorEq, Int.reduceAdd]
  unfold isK bB
  simp only [decide_eq_true_eq]
  (repeat' split) <;> first | rfl | simp_all
theorem l_Re_keyOf (hn : n ≤ 600) (hfr : 0 ≤ fr) (hf2 : fr ≤ 600) (hen : en ≤ n) : ∀ (m : Nat) (k : Int), 0 ≤ k → k + 6 * m = 132 → k % 6 = 0 → VV L (d + 1) m_Re_keyOf 12 [some (tA 2), some (tI fr), some (tI en), some (tI k)] [] (WW f t g) Q = Q (some (tI (keyR (yb f n) fr en m k))) (WW f t g) := by
  intro m
  induction m with
  | zero =>
    intro k h0 h1 h2
    have : k = 132 := by omega
    subst this
    rw [u_Re_keyOf_12]
    simp only [u_Re_keyOf_0, u_Re_keyOf_1, u_Re_keyOf_2, u_Re_keyOf_3, u_Re_keyOf_5, u_Re_keyOf_8, u_Re_keyOf_9, u_Re_keyOf_10, u_Re_keyOf_11, u_Re_keyOf_13, u_Re_keyOf_15, u_Re_keyOf_16, u_Re_keyOf_18, u_Re_keyOf_21, u_Re_keyOf_24, u_Re_keyOf_25, u_Re_keyOf_26, u_Re_keyOf_27, u_Re_keyOf_28, u_Re_keyOf_31, u_Re_keyOf_34, u_Re_keyOf_37, u_Re_keyOf_38, u_Re_keyOf_40, u_Re_keyOf_41, u_Re_keyOf_42, u_Re_keyOf_43, u_Re_keyOf_46, u_Re_keyOf_49, u_Re_keyOf_50, h1_14, ne_eq, not_false_eq_true, not_true_eq_false, true_and, and_true, true_or, or_true, eq_self, Option.toList_some, Option.toList_none, List.cons_append, List.nil_append, tc_0, tc_I, tc_L, tc_A, Nat.reduceAdd, Nat.reduceLeDiff, Nat.reduceEqDiff, Int.reduceEq, Int.reduceLT, Int.reduceLE, Int.reduceNeg, Int.reduceToNat, Int.cast_ofNat_Int, if_true, if_false, and_self, or_self, ite_self, bI_0, bI_1, bI_01, Bool.false_eq_true, reduceCtorEq, h1_902, sl_902, keyR, Int.reduceAdd, wn_138]
  | succ m ih =>
    intro k h0 h1 h2
    have e1 : w32 (k + 6) = k + 6 := w32_id (by omega) (by omega)
    have ht := Int.tdiv_eq_ediv_of_nonneg (b := 6) h0
    have e2 : w32 (k.tdiv 6) = k.tdiv 6 := w32_id (by omega) (by omega)
    have e3 : w32 (200 + k.tdiv 6) = 200 + k.tdiv 6 := w32_id (by omega) (by omega)
    rw [u_Re_keyOf_12]
    simp only [u_Re_keyOf_0, u_Re_keyOf_1, u_Re_keyOf_2, u_Re_keyOf_3, u_Re_keyOf_5, u_Re_keyOf_8, u_Re_keyOf_9, u_Re_keyOf_10, u_Re_keyOf_11, u_Re_keyOf_13, u_Re_keyOf_15, u_Re_keyOf_16, u_Re_keyOf_18, u_Re_keyOf_21, u_Re_keyOf_24, u_Re_keyOf_25, u_Re_keyOf_26, u_Re_keyOf_27, u_Re_keyOf_28, u_Re_keyOf_31, u_Re_keyOf_34, u_Re_keyOf_37, u_Re_keyOf_38, u_Re_keyOf_40, u_Re_keyOf_41, u_Re_keyOf_42, u_Re_keyOf_43, u_Re_keyOf_46, u_Re_keyOf_49, u_Re_keyOf_50, h1_14, ne_eq, not_false_eq_true, not_true_eq_false, true_and, and_true, true_or, or_true, eq_self, Option.toList_some, Option.toList_none, List.cons_append, List.nil_append, tc_0, tc_I, tc_L, tc_A, Nat.reduceAdd, Nat.reduceLeDiff, Nat.reduceEqDiff, Int.reduceEq, Int.reduceLT, Int.reduceLE, Int.reduceNeg, Int.reduceToNat, Int.cast_ofNat_Int, if_true, if_false, and_self, or_self, ite_self, bI_0, bI_1, bI_01, Bool.false_eq_true, reduceCtorEq, h1_902, sl_902, keyR, e1, show ¬ 132 < k + 6 by omega, s_Re_isKey hn hfr hf2 hen h0 (show k ≤ 126 by omega), bB_0, ite_not, e2, e3, ih (k + 6) (by omega) (by omega) (by omega)]
    split <;> rfl
theorem s_Re_keyOf (hn : n ≤ 600) (hfr : 0 ≤ fr) (hen : en ≤ n) (hfe : fr ≤ en) : VV L (d + 1) m_Re_keyOf 0 [some (tA 2), some (tI fr), some (tI en), none] [] (WW f t g) Q = Q (some (tI (keyC (yb f n) fr en))) (WW f t g) := by
  simp only [u_Re_keyOf_0, u_Re_keyOf_1, u_Re_keyOf_2, u_Re_keyOf_3, u_Re_keyOf_5, u_Re_keyOf_8, u_Re_keyOf_9, u_Re_keyOf_10, u_Re_keyOf_11, u_Re_keyOf_13, u_Re_keyOf_15, u_Re_keyOf_16, u_Re_keyOf_18, u_Re_keyOf_21, u_Re_keyOf_24, u_Re_keyOf_25, u_Re_keyOf_26, u_Re_keyOf_27, u_Re_keyOf_28, u_Re_keyOf_31, u_Re_keyOf_34, u_Re_keyOf_37, u_Re_keyOf_38, u_Re_keyOf_40, u_Re_keyOf_41, u_Re_keyOf_42, u_Re_keyOf_43, u_Re_keyOf_46, u_Re_keyOf_49, u_Re_keyOf_50, h1_14, ne_eq, not_false_eq_true, not_true_eq_false, true_and, and_true, true_or, or_true, eq_self, Option.toList_some, Option.toList_none, List.cons_append, List.nil_append, tc_0, tc_I, tc_L, tc_A, Nat.reduceAdd, Nat.reduceLeDiff, Nat.reduceEqDiff, Int.reduceEq, Int.reduceLT, Int.reduceLE, Int.reduceNeg, Int.reduceToNat, Int.cast_ofNat_Int, if_true, if_false, and_self, or_self, ite_self, bI_0, bI_1, bI_01, Bool.false_eq_true, reduceCtorEq, w32_id (show (-2147483648 : Int) ≤ en - fr by omega) (show en - fr < (2147483648 : Int) by omega), l_Re_keyOf hn hfr (by omega) hen 22 0 (by omega) (by omega) (by omega)]
  unfold keyC
  by_cases h : en - fr ≤ 6
  · rw [if_pos h, if_neg (by omega)]
  · rw [if_neg h, if_pos (by omega)]
theorem te_b (hn : n ≤ 600) (hf : 0 ≤ fr) (hf2 : fr < n) : fr < te (yb f n) fr ∧ te (yb f n) fr ≤ n := by
  have hz : ∀ j, n ≤ j → yb f n j = 0 := by intro j hj; unfold yb; rw [if_neg (by omega)]
  have key : ∀ (p : Int → Bool) (m : Nat), p 0 = false → spF p (yb f n) m (fr + 1) ≤ n := by
    intro p m hp
    by_cases h : spF p (yb f n) m (fr + 1) ≤ n
    · exact h
    · have h1 := spF_all (p := p) (y := yb f n) m (fr + 1) n (by omega) (by omega)
      rw [hz n (by omega), hp] at h1
      cases h1
  unfold te
  split
  · have := spF_ge (p := kName) (y := yb f n) 601 (fr + 1); have := key kName 601 rfl; omega
  · split
    · have := spF_ge (p := kDig) (y := yb f n) 8 (fr + 1); have := key kDig 8 rfl; omega
    · split
      · omega
      · rename_i h
        by_cases h2 : fr + 1 < n
        · omega
        · exfalso; apply h; rw [hz (fr + 1) (by omega)]; unfold pr2; simp
theorem s_Re_tokenOf (hn : n ≤ 600) (hf : 0 ≤ fr) (hf2 : fr < n) : VV L (d + 2) m_Re_tokenOf 0 [some (tA 2), some (tI fr), some (tI (te (yb f n) fr))] [] (WW f t g) Q = Q (some (tI (tv (yb f n) fr))) (WW f t g) := by
  have hy : f 2 fr.toNat = yb f n fr := by unfold yb; rw [if_pos (by omega)]
  have hb := te_b (f := f) hn hf hf2
  simp only [u_Re_tokenOf_0, u_Re_tokenOf_1, u_Re_tokenOf_2, u_Re_tokenOf_3, u_Re_tokenOf_6, u_Re_tokenOf_9, u_Re_tokenOf_10, u_Re_tokenOf_11, u_Re_tokenOf_12, u_Re_tokenOf_15, u_Re_tokenOf_16, u_Re_tokenOf_17, u_Re_tokenOf_18, u_Re_tokenOf_19, u_Re_tokenOf_20, u_Re_tokenOf_23, u_Re_tokenOf_24, u_Re_tokenOf_25, u_Re_tokenOf_26, u_Re_tokenOf_27, u_Re_tokenOf_28, u_Re_tokenOf_29, u_Re_tokenOf_30, u_Re_tokenOf_33, u_Re_tokenOf_36, u_Re_tokenOf_37, u_Re_tokenOf_38, u_Re_tokenOf_39, u_Re_tokenOf_42, u_Re_tokenOf_45, u_Re_tokenOf_46, u_Re_tokenOf_47, u_Re_tokenOf_48, u_Re_tokenOf_49, u_Re_tokenOf_50, u_Re_tokenOf_51, u_Re_tokenOf_52, u_Re_tokenOf_53, u_Re_tokenOf_56, h1_14, ne_eq, not_false_eq_true, not_true_eq_false, true_and, and_true, true_or, or_true, eq_self, Option.toList_some, Option.toList_none, List.cons_append, List.nil_append, tc_0, tc_I, tc_L, tc_A, Nat.reduceAdd, Nat.reduceLeDiff, Nat.reduceEqDiff, Int.reduceEq, Int.reduceLT, Int.reduceLE, Int.reduceNeg, Int.reduceToNat, Int.cast_ofNat_Int, if_true, if_false, and_self, or_self, ite_self, bI_0, bI_1, bI_01, Bool.false_eq_true, reduceCtorEq, h1_2, h2_2, gt_2, pt_2, hf, show fr < 600 by omega, s_Re_isSmall, s_Re_isDigit, bB_0, ite_not, hy, w32_id (show (-2147483648 : Int) ≤ fr + 1 by omega) (show fr + 1 < (2147483648 : Int) by omega), s_Re_keyOf hn hf hb.2 (show fr ≤ te (yb f n) fr by omega)]
  unfold tv
  by_cases h1 : kDig (yb f n fr) = true
  · have h1' : te (yb f n) fr = spF kDig (yb f n) 8 (fr + 1) := by
      unfold te
      rw [if_neg (by unfold kDig at h1; unfold kName; simp at h1 ⊢; omega), if_pos h1]
    have hg := spF_ge (p := kDig) (y := yb f n) 8 (fr + 1)
    simp only [ne_eq, not_false_eq_true, not_true_eq_false, true_and, and_true, true_or, or_true, eq_self, Option.toList_some, Option.toList_none, List.cons_append, List.nil_append, tc_0, tc_I, tc_L, tc_A, Nat.reduceAdd, Nat.reduceLeDiff, Nat.reduceEqDiff, Int.reduceEq, Int.reduceLT, Int.reduceLE, Int.reduceNeg, Int.reduceToNat, Int.cast_ofNat_Int, if_true, if_false, and_self, or_self, ite_self, bI_0, bI_1, bI_01, Bool.false_eq_true, reduceCtorEq, h1, if_true, u_Re_numberToken_0, u_Re_numberToken_1, u_Re_numberToken_2, u_Re_numberToken_3, u_Re_numberToken_7, u_Re_numberToken_8, u_Re_numberToken_11, u_Re_numberToken_12, u_Re_numberToken_14, u_Re_numberToken_15, u_Re_numberToken_16, u_Re_numberToken_18, u_Re_numberToken_19, u_Re_numberToken_20, u_Re_numberToken_22, u_Re_numberToken_23, u_Re_numberToken_24, u_Re_numberToken_27, u_Re_numberToken_30, u_Re_numberToken_31, u_Re_numberToken_32, u_Re_numberToken_33, h1_14]
    rw [l_Re_num hn hb.2 (te (yb f n) fr - fr).toNat fr 0 hf (by omega) (by omega) (by omega) (by have := bnd_9 (te (yb f n) fr - fr).toNat (by omega); omega) ?_]
    · simp only [u_Re_tokenOf_0, u_Re_tokenOf_1, u_Re_tokenOf_2, u_Re_tokenOf_3, u_Re_tokenOf_6, u_Re_tokenOf_9, u_Re_tokenOf_10, u_Re_tokenOf_11, u_Re_tokenOf_12, u_Re_tokenOf_15, u_Re_tokenOf_16, u_Re_tokenOf_17, u_Re_tokenOf_18, u_Re_tokenOf_19, u_Re_tokenOf_20, u_Re_tokenOf_23, u_Re_tokenOf_24, u_Re_tokenOf_25, u_Re_tokenOf_26, u_Re_tokenOf_27, u_Re_tokenOf_28, u_Re_tokenOf_29, u_Re_tokenOf_30, u_Re_tokenOf_33, u_Re_tokenOf_36, u_Re_tokenOf_37, u_Re_tokenOf_38, u_Re_tokenOf_39, u_Re_tokenOf_42, u_Re_tokenOf_45, u_Re_tokenOf_46, u_Re_tokenOf_47, u_Re_tokenOf_48, u_Re_tokenOf_49, u_Re_tokenOf_50, u_Re_tokenOf_51, u_Re_tokenOf_52, u_Re_tokenOf_53, u_Re_tokenOf_56, h1_14, ne_eq, not_false_eq_true, not_true_eq_false, true_and, and_true, true_or, or_true, eq_self, Option.toList_some, Option.toList_none, List.cons_append, List.nil_append, tc_0, tc_I, tc_L, tc_A, Nat.reduceAdd, Nat.reduceLeDiff, Nat.reduceEqDiff, Int.reduceEq, Int.reduceLT, Int.reduceLE, Int.reduceNeg, Int.reduceToNat, Int.cast_ofNat_Int, if_true, if_false, and_self, or_self, ite_self, bI_0, bI_1, bI_01, Bool.false_eq_true, reduceCtorEq]
    intro j hj1 hj2
    have : kDig (yb f n j) = true := by
      by_cases e : j = fr
      · subst e; exact h1
      · exact spF_all (p := kDig) (y := yb f n) 8 (fr + 1) j (by omega) (by omega)
    unfold kDig at this; simp at this; omega
  · simp only [ne_eq, not_false_eq_true, not_true_eq_false, true_and, and_true, true_or, or_true, eq_self, Option.toList_some, Option.toList_none, List.cons_append, List.nil_append, tc_0, tc_I, tc_L, tc_A, Nat.reduceAdd, Nat.reduceLeDiff, Nat.reduceEqDiff, Int.reduceEq, Int.reduceLT, Int.reduceLE, Int.reduceNeg, Int.reduceToNat, Int.cast_ofNat_Int, if_true, if_false, and_self, or_self, ite_self, bI_0, bI_1, bI_01, Bool.false_eq_true, reduceCtorEq, h1, if_false]
    by_cases h2 : te (yb f n) fr = fr + 1
    · simp only [ne_eq, not_false_eq_true, not_true_eq_false, true_and, and_true, true_or, or_true, eq_self, Option.toList_some, Option.toList_none, List.cons_append, List.nil_append, tc_0, tc_I, tc_L, tc_A, Nat.reduceAdd, Nat.reduceLeDiff, Nat.reduceEqDiff, Int.reduceEq, Int.reduceLT, Int.reduceLE, Int.reduceNeg, Int.reduceToNat, Int.cast_ofNat_Int, if_true, if_false, and_self, or_self, ite_self, bI_0, bI_1, bI_01, Bool.false_eq_true, reduceCtorEq, h2, if_true]
    · simp only [ne_eq, not_false_eq_true, not_true_eq_false, true_and, and_true, true_or, or_true, eq_self, Option.toList_some, Option.toList_none, List.cons_append, List.nil_append, tc_0, tc_I, tc_L, tc_A, Nat.reduceAdd, Nat.reduceLeDiff, Nat.reduceEqDiff, Int.reduceEq, Int.reduceLT, Int.reduceLE, Int.reduceNeg, Int.reduceToNat, Int.cast_ofNat_Int, if_true, if_false, and_self, or_self, ite_self, bI_0, bI_1, bI_01, Bool.false_eq_true, reduceCtorEq, h2, if_false]
      by_cases h3 : kName (yb f n fr) = true
      · simp only [h3, if_true, u_Re_tokenOf_0, u_Re_tokenOf_1, u_Re_tokenOf_2, u_Re_tokenOf_3, u_Re_tokenOf_6, u_Re_tokenOf_9, u_Re_tokenOf_10, u_Re_tokenOf_11, u_Re_tokenOf_12, u_Re_tokenOf_15, u_Re_tokenOf_16, u_Re_tokenOf_17, u_Re_tokenOf_18, u_Re_tokenOf_19, u_Re_tokenOf_20, u_Re_tokenOf_23, u_Re_tokenOf_24, u_Re_tokenOf_25, u_Re_tokenOf_26, u_Re_tokenOf_27, u_Re_tokenOf_28, u_Re_tokenOf_29, u_Re_tokenOf_30, u_Re_tokenOf_33, u_Re_tokenOf_36, u_Re_tokenOf_37, u_Re_tokenOf_38, u_Re_tokenOf_39, u_Re_tokenOf_42, u_Re_tokenOf_45, u_Re_tokenOf_46, u_Re_tokenOf_47, u_Re_tokenOf_48, u_Re_tokenOf_49, u_Re_tokenOf_50, u_Re_tokenOf_51, u_Re_tokenOf_52, u_Re_tokenOf_53, u_Re_tokenOf_56, h1_14, ne_eq, not_false_eq_true, not_true_eq_false, true_and, and_true, true_or, or_true, eq_self, Option.toList_some, Option.toList_none, List.cons_append, List.nil_append, tc_0, tc_I, tc_L, tc_A, Nat.reduceAdd, Nat.reduceLeDiff, Nat.reduceEqDiff, Int.reduceEq, Int.reduceLT, Int.reduceLE, Int.reduceNeg, Int.reduceToNat, Int.cast_ofNat_Int, if_true, if_false, and_self, or_self, ite_self, bI_0, bI_1, bI_01, Bool.false_eq_true, reduceCtorEq]
      · have h4 : fr + 1 < n := by
          by_cases h4 : fr + 1 < n
          · exact h4
          · omega
        have e : f 2 (fr + 1).toNat = yb f n (fr + 1) := by unfold yb; rw [if_pos (by omega)]
        simp only [h3, if_false, u_Re_tokenOf_0, u_Re_tokenOf_1, u_Re_tokenOf_2, u_Re_tokenOf_3, u_Re_tokenOf_6, u_Re_tokenOf_9, u_Re_tokenOf_10, u_Re_tokenOf_11, u_Re_tokenOf_12, u_Re_tokenOf_15, u_Re_tokenOf_16, u_Re_tokenOf_17, u_Re_tokenOf_18, u_Re_tokenOf_19, u_Re_tokenOf_20, u_Re_tokenOf_23, u_Re_tokenOf_24, u_Re_tokenOf_25, u_Re_tokenOf_26, u_Re_tokenOf_27, u_Re_tokenOf_28, u_Re_tokenOf_29, u_Re_tokenOf_30, u_Re_tokenOf_33, u_Re_tokenOf_36, u_Re_tokenOf_37, u_Re_tokenOf_38, u_Re_tokenOf_39, u_Re_tokenOf_42, u_Re_tokenOf_45, u_Re_tokenOf_46, u_Re_tokenOf_47, u_Re_tokenOf_48, u_Re_tokenOf_49, u_Re_tokenOf_50, u_Re_tokenOf_51, u_Re_tokenOf_52, u_Re_tokenOf_53, u_Re_tokenOf_56, h1_14, ne_eq, not_false_eq_true, not_true_eq_false, true_and, and_true, true_or, or_true, eq_self, Option.toList_some, Option.toList_none, List.cons_append, List.nil_append, tc_0, tc_I, tc_L, tc_A, Nat.reduceAdd, Nat.reduceLeDiff, Nat.reduceEqDiff, Int.reduceEq, Int.reduceLT, Int.reduceLE, Int.reduceNeg, Int.reduceToNat, Int.cast_ofNat_Int, if_true, if_false, and_self, or_self, ite_self, bI_0, bI_1, bI_01, Bool.false_eq_true, reduceCtorEq, s_Re_pairOf, show 0 ≤ fr + 1 by omega, show fr + 1 < 600 by omega, e]
end
