/-! Calls: wipe -/
def cnN (f : Mem) : Nat → Nat
  | 0 => 0
  | k + 1 => cnN f k + (if f 20 k = 0 then 0 else 1)
def cnR (f : Mem) : Nat → Nat
  | 0 => 0
  | k + 1 => cnR f k + (if f 29 k = -1 then 0 else 1)
section
variable {L d : Nat} {X : Nat → Tre} {TH : Nat} {f f' t t' g g' : Mem} {Q : Option TV → Wd → Prop} {v : Int}
theorem cnN_le : ∀ k, cnN f k ≤ k := by
  intro k
  induction k with
  | zero => exact Nat.le_refl _
  | succ k ih => unfold cnN; split <;> omega
theorem cnR_le : ∀ k, cnR f k ≤ k := by
  intro k
  induction k with
  | zero => exact Nat.le_refl _
  | succ k ih => unfold cnR; split <;> omega
theorem l_namesThere : ∀ (m k : Nat), k + m = 26 → VV L d m_St_namesThere 4 [some (tA 19), some (tI (cnN f k)), some (tI k)] [] (WW f t g) Q = Q (some (tI (cnN f 26))) (WW f t g) := by
  intro m
  induction m with
  | zero =>
    intro k hk
    obtain rfl : k = 26 := by omega
    rw [u_St_namesThere_4]
    simp only [u_St_namesThere_5, u_St_namesThere_7, u_St_namesThere_10, u_St_namesThere_11, u_St_namesThere_14, u_St_namesThere_15, u_St_namesThere_16, u_St_namesThere_19, u_St_namesThere_22, u_St_namesThere_25, u_St_namesThere_28, u_St_namesThere_29, ne_eq, not_false_eq_true, not_true_eq_false, true_and, and_true, true_or, or_true, eq_self, Option.toList_some, Option.toList_none, List.cons_append, List.nil_append, tc_0, tc_I, tc_L, tc_A, Nat.reduceAdd, Nat.reduceLeDiff, Nat.reduceEqDiff, Int.reduceEq, Int.reduceLT, Int.reduceLE, Int.reduceNeg, Int.reduceToNat, Int.cast_ofNat_Int, if_true, if_false, and_self, or_self, ite_self, bI_0, bI_1, bI_01, Bool.false_eq_true, reduceCtorEq, show (26 : Int) ≤ ((26 : Nat) : Int) by omega]
  | succ m ih =>
    intro k hk
    have hle := cnN_le (f := f) k
    have wk : w32 ((k : Int) + 1) = ((k + 1 : Nat) : Int) := by rw [w32_id (by omega) (by omega)]; omega
    have wc : w32 ((cnN f k : Int) + 1) = ((cnN f k + 1 : Nat) : Int) := by rw [w32_id (by omega) (by omega)]; omega
    rw [← ih (k + 1) (by omega), u_St_namesThere_4]
    by_cases h : f 20 k = 0
    · have e : cnN f (k + 1) = cnN f k := by rw [cnN, if_pos h]; rfl
      simp only [u_St_namesThere_5, u_St_namesThere_7, u_St_namesThere_10, u_St_namesThere_11, u_St_namesThere_14, u_St_namesThere_15, u_St_namesThere_16, u_St_namesThere_19, u_St_namesThere_22, u_St_namesThere_25, u_St_namesThere_28, u_St_namesThere_29, h1_19, gt_19_0, h1_20, h2_20, gt_20, pt_20, ne_eq, not_false_eq_true, not_true_eq_false, true_and, and_true, true_or, or_true, eq_self, Option.toList_some, Option.toList_none, List.cons_append, List.nil_append, tc_0, tc_I, tc_L, tc_A, Nat.reduceAdd, Nat.reduceLeDiff, Nat.reduceEqDiff, Int.reduceEq, Int.reduceLT, Int.reduceLE, Int.reduceNeg, Int.reduceToNat, Int.cast_ofNat_Int, if_true, if_false, and_self, or_self, ite_self, bI_0, bI_1, bI_01, Bool.false_eq_true, reduceCtorEq, show ¬ (26 : Int) ≤ k by omega, show 0 ≤ (k : Int) by omega, show (k : Int) < 26 by omega, Int.toNat_natCast, h, wk, e]
    · have e : cnN f (k + 1) = cnN f k + 1 := by rw [cnN, if_neg h]
      simp only [u_St_namesThere_5, u_St_namesThere_7, u_St_namesThere_10, u_St_namesThere_11, u_St_namesThere_14, u_St_namesThere_15, u_St_namesThere_16, u_St_namesThere_19, u_St_namesThere_22, u_St_namesThere_25, u_St_namesThere_28, u_St_namesThere_29, h1_19, gt_19_0, h1_20, h2_20, gt_20, pt_20, ne_eq, not_false_eq_true, not_true_eq_false, true_and, and_true, true_or, or_true, eq_self, Option.toList_some, Option.toList_none, List.cons_append, List.nil_append, tc_0, tc_I, tc_L, tc_A, Nat.reduceAdd, Nat.reduceLeDiff, Nat.reduceEqDiff, Int.reduceEq, Int.reduceLT, Int.reduceLE, Int.reduceNeg, Int.reduceToNat, Int.cast_ofNat_Int, if_true, if_false, and_self, or_self, ite_self, bI_0, bI_1, bI_01, Bool.false_eq_true, reduceCtorEq, show ¬ (26 : Int) ≤ k by omega, show 0 ≤ (k : Int) by omega, show (k : Int) < 26 by omega, Int.toNat_natCast, h, wk, wc, e]
theorem l_rowsThere : ∀ (m k : Nat), k + m = 6 → VV L d m_Sf_rowsThere 4 [some (tA 28), some (tI (cnR f k)), some (tI k)] [] (WW f t g) Q = Q (some (tI (cnR f 6))) (WW f t g) := by
  intro m
  induction m with
  | zero =>
    intro k hk
    obtain rfl : k = 6 := by omega
    rw [u_Sf_rowsThere_4]
    simp only [u_Sf_rowsThere_5, u_Sf_rowsThere_7, u_Sf_rowsThere_10, u_Sf_rowsThere_11, u_Sf_rowsThere_14, u_Sf_rowsThere_15, u_Sf_rowsThere_16, u_Sf_rowsThere_17, u_Sf_rowsThere_20, u_Sf_rowsThere_23, u_Sf_rowsThere_26, u_Sf_rowsThere_29, u_Sf_rowsThere_30, ne_eq, not_false_eq_true, not_true_eq_false, true_and, and_true, true_or, or_true, eq_self, Option.toList_some, Option.toList_none, List.cons_append, List.nil_append, tc_0, tc_I, tc_L, tc_A, Nat.reduceAdd, Nat.reduceLeDiff, Nat.reduceEqDiff, Int.reduceEq, Int.reduceLT, Int.reduceLE, Int.reduceNeg, Int.reduceToNat, Int.cast_ofNat_Int, if_true, if_false, and_self, or_self, ite_self, bI_0, bI_1, bI_01, Bool.false_eq_true, reduceCtorEq, show (6 : Int) ≤ ((6 : Nat) : Int) by omega]
  | succ m ih =>
    intro k hk
    have hle := cnR_le (f := f) k
    have wk : w32 ((k : Int) + 1) = ((k + 1 : Nat) : Int) := by rw [w32_id (by omega) (by omega)]; omega
    have wc : w32 ((cnR f k : Int) + 1) = ((cnR f k + 1 : Nat) : Int) := by rw [w32_id (by omega) (by omega)]; omega
    rw [← ih (k + 1) (by omega), u_Sf_rowsThere_4]
    by_cases h : f 29 k = -1
    · have e : cnR f (k + 1) = cnR f k := by rw [cnR, if_pos h]; rfl
      simp only [u_Sf_rowsThere_5, u_Sf_rowsThere_7, u_Sf_rowsThere_10, u_Sf_rowsThere_11, u_Sf_rowsThere_14, u_Sf_rowsThere_15, u_Sf_rowsThere_16, u_Sf_rowsThere_17, u_Sf_rowsThere_20, u_Sf_rowsThere_23, u_Sf_rowsThere_26, u_Sf_rowsThere_29, u_Sf_rowsThere_30, h1_28, gt_28_0, h1_29, h2_29, gt_29, pt_29, ne_eq, not_false_eq_true, not_true_eq_false, true_and, and_true, true_or, or_true, eq_self, Option.toList_some, Option.toList_none, List.cons_append, List.nil_append, tc_0, tc_I, tc_L, tc_A, Nat.reduceAdd, Nat.reduceLeDiff, Nat.reduceEqDiff, Int.reduceEq, Int.reduceLT, Int.reduceLE, Int.reduceNeg, Int.reduceToNat, Int.cast_ofNat_Int, if_true, if_false, and_self, or_self, ite_self, bI_0, bI_1, bI_01, Bool.false_eq_true, reduceCtorEq, show ¬ (6 : Int) ≤ k by omega, show 0 ≤ (k : Int) by omega, show (k : Int) < 6 by omega, Int.toNat_natCast, h, wk, e]
    · have e : cnR f (k + 1) = cnR f k + 1 := by rw [cnR, if_neg h]
      simp only [u_Sf_rowsThere_5, u_Sf_rowsThere_7, u_Sf_rowsThere_10, u_Sf_rowsThere_11, u_Sf_rowsThere_14, u_Sf_rowsThere_15, u_Sf_rowsThere_16, u_Sf_rowsThere_17, u_Sf_rowsThere_20, u_Sf_rowsThere_23, u_Sf_rowsThere_26, u_Sf_rowsThere_29, u_Sf_rowsThere_30, h1_28, gt_28_0, h1_29, h2_29, gt_29, pt_29, ne_eq, not_false_eq_true, not_true_eq_false, true_and, and_true, true_or, or_true, eq_self, Option.toList_some, Option.toList_none, List.cons_append, List.nil_append, tc_0, tc_I, tc_L, tc_A, Nat.reduceAdd, Nat.reduceLeDiff, Nat.reduceEqDiff, Int.reduceEq, Int.reduceLT, Int.reduceLE, Int.reduceNeg, Int.reduceToNat, Int.cast_ofNat_Int, if_true, if_false, and_self, or_self, ite_self, bI_0, bI_1, bI_01, Bool.false_eq_true, reduceCtorEq, show ¬ (6 : Int) ≤ k by omega, show 0 ≤ (k : Int) by omega, show (k : Int) < 6 by omega, Int.toNat_natCast, h, wk, wc, e]
theorem l_fill27 : ∀ (m k : Nat), k + m = 4 → VV L d m_JArr_fillI 5 [some (tA 27), some (tI v), some (tI k), some (tI 4)] [] (WW (zfl f 27 k v) t g) Q = Q none (WW (zfl f 27 4 v) t g) := by
  intro m
  induction m with
  | zero =>
    intro k hk
    obtain rfl : k = 4 := by omega
    rw [u_JArr_fillI_5]
    simp only [u_JArr_fillI_6, u_JArr_fillI_7, u_JArr_fillI_10, u_JArr_fillI_11, u_JArr_fillI_12, u_JArr_fillI_13, u_JArr_fillI_14, u_JArr_fillI_17, u_JArr_fillI_20, ne_eq, not_false_eq_true, not_true_eq_false, true_and, and_true, true_or, or_true, eq_self, Option.toList_some, Option.toList_none, List.cons_append, List.nil_append, tc_0, tc_I, tc_L, tc_A, Nat.reduceAdd, Nat.reduceLeDiff, Nat.reduceEqDiff, Int.reduceEq, Int.reduceLT, Int.reduceLE, Int.reduceNeg, Int.reduceToNat, Int.cast_ofNat_Int, if_true, if_false, and_self, or_self, ite_self, bI_0, bI_1, bI_01, Bool.false_eq_true, reduceCtorEq, show (4 : Int) ≤ ((4 : Nat) : Int) by omega]
  | succ m ih =>
    intro k hk
    have wk : w32 ((k : Int) + 1) = ((k + 1 : Nat) : Int) := by rw [w32_id (by omega) (by omega)]; omega
    rw [u_JArr_fillI_5]
    simp only [u_JArr_fillI_6, u_JArr_fillI_7, u_JArr_fillI_10, u_JArr_fillI_11, u_JArr_fillI_12, u_JArr_fillI_13, u_JArr_fillI_14, u_JArr_fillI_17, u_JArr_fillI_20, h1_27, h2_27, gt_27, pt_27, ne_eq, not_false_eq_true, not_true_eq_false, true_and, and_true, true_or, or_true, eq_self, Option.toList_some, Option.toList_none, List.cons_append, List.nil_append, tc_0, tc_I, tc_L, tc_A, Nat.reduceAdd, Nat.reduceLeDiff, Nat.reduceEqDiff, Int.reduceEq, Int.reduceLT, Int.reduceLE, Int.reduceNeg, Int.reduceToNat, Int.cast_ofNat_Int, if_true, if_false, and_self, or_self, ite_self, bI_0, bI_1, bI_01, Bool.false_eq_true, reduceCtorEq, show ¬ (4 : Int) ≤ k by omega, show 0 ≤ (k : Int) by omega, show (k : Int) < 4 by omega, Int.toNat_natCast, wk, zfl_s]
    exact ih (k + 1) (by omega)
theorem l_fill29 : ∀ (m k : Nat), k + m = 6 → VV L d m_JArr_fillI 5 [some (tA 29), some (tI v), some (tI k), some (tI 6)] [] (WW (zfl f 29 k v) t g) Q = Q none (WW (zfl f 29 6 v) t g) := by
  intro m
  induction m with
  | zero =>
    intro k hk
    obtain rfl : k = 6 := by omega
    rw [u_JArr_fillI_5]
    simp only [u_JArr_fillI_6, u_JArr_fillI_7, u_JArr_fillI_10, u_JArr_fillI_11, u_JArr_fillI_12, u_JArr_fillI_13, u_JArr_fillI_14, u_JArr_fillI_17, u_JArr_fillI_20, ne_eq, not_false_eq_true, not_true_eq_false, true_and, and_true, true_or, or_true, eq_self, Option.toList_some, Option.toList_none, List.cons_append, List.nil_append, tc_0, tc_I, tc_L, tc_A, Nat.reduceAdd, Nat.reduceLeDiff, Nat.reduceEqDiff, Int.reduceEq, Int.reduceLT, Int.reduceLE, Int.reduceNeg, Int.reduceToNat, Int.cast_ofNat_Int, if_true, if_false, and_self, or_self, ite_self, bI_0, bI_1, bI_01, Bool.false_eq_true, reduceCtorEq, show (6 : Int) ≤ ((6 : Nat) : Int) by omega]
  | succ m ih =>
    intro k hk
    have wk : w32 ((k : Int) + 1) = ((k + 1 : Nat) : Int) := by rw [w32_id (by omega) (by omega)]; omega
    rw [u_JArr_fillI_5]
    simp only [u_JArr_fillI_6, u_JArr_fillI_7, u_JArr_fillI_10, u_JArr_fillI_11, u_JArr_fillI_12, u_JArr_fillI_13, u_JArr_fillI_14, u_JArr_fillI_17, u_JArr_fillI_20, h1_29, h2_29, gt_29, pt_29, ne_eq, not_false_eq_true, not_true_eq_false, true_and, and_true, true_or, or_true, eq_self, Option.toList_some, Option.toList_none, List.cons_append, List.nil_append, tc_0, tc_I, tc_L, tc_A, Nat.reduceAdd, Nat.reduceLeDiff, Nat.reduceEqDiff, Int.reduceEq, Int.reduceLT, Int.reduceLE, Int.reduceNeg, Int.reduceToNat, Int.cast_ofNat_Int, if_true, if_false, and_self, or_self, ite_self, bI_0, bI_1, bI_01, Bool.false_eq_true, reduceCtorEq, show ¬ (6 : Int) ≤ k by omega, show 0 ≤ (k : Int) by omega, show (k : Int) < 6 by omega, Int.toNat_natCast, wk, zfl_s]
    exact ih (k + 1) (by omega)
theorem s_Sf_clearRows : VV L (d + 1) m_Sf_clearRows 0 [some (tA 28)] [] (WW f t g) Q = Q none (WW (zfl f 29 6 (-1)) t g) := by
  have hf : ∀ Q, VV L d m_JArr_fillI 0 [some (tA 29), some (tI (-1)), none, none] [] (WW f t g) Q = Q none (WW (zfl f 29 6 (-1)) t g) := by
    intro Q
    have := l_fill29 (L := L) (d := d) (f := f) (t := t) (g := g) (Q := Q) (v := -1) 6 0 rfl
    rw [zfl_0] at this
    simp only [u_JArr_fillI_0, u_JArr_fillI_1, u_JArr_fillI_2, u_JArr_fillI_3, u_JArr_fillI_4, h1_29, h2_29, gt_29, pt_29, ne_eq, not_false_eq_true, not_true_eq_false, true_and, and_true, true_or, or_true, eq_self, Option.toList_some, Option.toList_none, List.cons_append, List.nil_append, tc_0, tc_I, tc_L, tc_A, Nat.reduceAdd, Nat.reduceLeDiff, Nat.reduceEqDiff, Int.reduceEq, Int.reduceLT, Int.reduceLE, Int.reduceNeg, Int.reduceToNat, Int.cast_ofNat_Int, if_true, if_false, and_self, or_self, ite_self, bI_0, bI_1, bI_01, Bool.false_eq_true, reduceCtorEq]
    exact this
  simp only [u_Sf_clearRows_0, u_Sf_clearRows_1, u_Sf_clearRows_4, u_Sf_clearRows_5, u_Sf_clearRows_8, h1_28, gt_28_0, ne_eq, not_false_eq_true, not_true_eq_false, true_and, and_true, true_or, or_true, eq_self, Option.toList_some, Option.toList_none, List.cons_append, List.nil_append, tc_0, tc_I, tc_L, tc_A, Nat.reduceAdd, Nat.reduceLeDiff, Nat.reduceEqDiff, Int.reduceEq, Int.reduceLT, Int.reduceLE, Int.reduceNeg, Int.reduceToNat, Int.cast_ofNat_Int, if_true, if_false, and_self, or_self, ite_self, bI_0, bI_1, bI_01, Bool.false_eq_true, reduceCtorEq, hf]
theorem l_clear : ∀ (m k : Nat), k + m = 26 → VV L (d + 1) m_St_clear 2 [some (tA 19), some (tI k)] [] (WW (zfl f 20 k 0) t g) Q = Q none (WW (zfl (zfl f 20 26 0) 27 4 0) t g) := by
  intro m
  induction m with
  | zero =>
    intro k hk
    obtain rfl : k = 26 := by omega
    have hf : ∀ Q, VV L d m_JArr_fillI 0 [some (tA 27), some (tI 0), none, none] [] (WW (zfl f 20 26 0) t g) Q = Q none (WW (zfl (zfl f 20 26 0) 27 4 0) t g) := by
      intro Q
      have := l_fill27 (L := L) (d := d) (f := zfl f 20 26 0) (t := t) (g := g) (Q := Q) (v := 0) 4 0 rfl
      rw [zfl_0] at this
      simp only [u_JArr_fillI_0, u_JArr_fillI_1, u_JArr_fillI_2, u_JArr_fillI_3, u_JArr_fillI_4, h1_27, h2_27, gt_27, pt_27, ne_eq, not_false_eq_true, not_true_eq_false, true_and, and_true, true_or, or_true, eq_self, Option.toList_some, Option.toList_none, List.cons_append, List.nil_append, tc_0, tc_I, tc_L, tc_A, Nat.reduceAdd, Nat.reduceLeDiff, Nat.reduceEqDiff, Int.reduceEq, Int.reduceLT, Int.reduceLE, Int.reduceNeg, Int.reduceToNat, Int.cast_ofNat_Int, if_true, if_false, and_self, or_self, ite_self, bI_0, bI_1, bI_01, Bool.false_eq_true, reduceCtorEq]
      exact this
    rw [u_St_clear_2]
    simp only [u_St_clear_3, u_St_clear_5, u_St_clear_8, u_St_clear_9, u_St_clear_12, u_St_clear_13, u_St_clear_14z h1_20, u_St_clear_15, u_St_clear_18, u_St_clear_21, u_St_clear_22, u_St_clear_25, u_St_clear_26, u_St_clear_29, h1_19, gt_19_3, ne_eq, not_false_eq_true, not_true_eq_false, true_and, and_true, true_or, or_true, eq_self, Option.toList_some, Option.toList_none, List.cons_append, List.nil_append, tc_0, tc_I, tc_L, tc_A, Nat.reduceAdd, Nat.reduceLeDiff, Nat.reduceEqDiff, Int.reduceEq, Int.reduceLT, Int.reduceLE, Int.reduceNeg, Int.reduceToNat, Int.cast_ofNat_Int, if_true, if_false, and_self, or_self, ite_self, bI_0, bI_1, bI_01, Bool.false_eq_true, reduceCtorEq, show (26 : Int) ≤ ((26 : Nat) : Int) by omega, hf]
  | succ m ih =>
    intro k hk
    have wk : w32 ((k : Int) + 1) = ((k + 1 : Nat) : Int) := by rw [w32_id (by omega) (by omega)]; omega
    rw [u_St_clear_2]
    simp only [u_St_clear_3, u_St_clear_5, u_St_clear_8, u_St_clear_9, u_St_clear_12, u_St_clear_13, u_St_clear_14z h1_20, u_St_clear_15, u_St_clear_18, u_St_clear_21, u_St_clear_22, u_St_clear_25, u_St_clear_26, u_St_clear_29, h1_19, gt_19_0, h1_20, h2_20, gt_20, pt_20, ne_eq, not_false_eq_true, not_true_eq_false, true_and, and_true, true_or, or_true, eq_self, Option.toList_some, Option.toList_none, List.cons_append, List.nil_append, tc_0, tc_I, tc_L, tc_A, Nat.reduceAdd, Nat.reduceLeDiff, Nat.reduceEqDiff, Int.reduceEq, Int.reduceLT, Int.reduceLE, Int.reduceNeg, Int.reduceToNat, Int.cast_ofNat_Int, if_true, if_false, and_self, or_self, ite_self, bI_0, bI_1, bI_01, Bool.false_eq_true, reduceCtorEq, show ¬ (26 : Int) ≤ k by omega, show 0 ≤ (k : Int) by omega, show (k : Int) < 26 by omega, Int.toNat_natCast, wk, zfl_s]
    exact ih (k + 1) (by omega)
def wpC (f : Mem) : Mem := mset (zfl (zfl (zfl f 20 26 0) 27 4 0) 29 6 (-1)) 151 11 0
theorem s_T_wipe (L d : Nat) (f t g : Mem) (Q : Option TV → Wd → Prop) : VV L (d + 200) m_T_wipe 0 [some (tA 1), none] [] (WW f t g) Q = Q (some (tI ((cnN f 26 + cnR f 6 : Nat) : Int))) (WW (wpC f) t g) := by
  have h1 : ∀ D Q, VV L D m_St_namesThere 0 [some (tA 19), none, none] [] (WW f t g) Q = Q (some (tI (cnN f 26))) (WW f t g) := fun D Q => by
    have := l_namesThere (L := L) (d := D) (f := f) (t := t) (g := g) (Q := Q) 26 0 rfl
    simp only [u_St_namesThere_0, u_St_namesThere_1, u_St_namesThere_2, u_St_namesThere_3, ne_eq, not_false_eq_true, not_true_eq_false, true_and, and_true, true_or, or_true, eq_self, Option.toList_some, Option.toList_none, List.cons_append, List.nil_append, tc_0, tc_I, tc_L, tc_A, Nat.reduceAdd, Nat.reduceLeDiff, Nat.reduceEqDiff, Int.reduceEq, Int.reduceLT, Int.reduceLE, Int.reduceNeg, Int.reduceToNat, Int.cast_ofNat_Int, if_true, if_false, and_self, or_self, ite_self, bI_0, bI_1, bI_01, Bool.false_eq_true, reduceCtorEq]
    exact this
  have h2 : ∀ D Q, VV L D m_Sf_rowsThere 0 [some (tA 28), none, none] [] (WW f t g) Q = Q (some (tI (cnR f 6))) (WW f t g) := fun D Q => by
    have := l_rowsThere (L := L) (d := D) (f := f) (t := t) (g := g) (Q := Q) 6 0 rfl
    simp only [u_Sf_rowsThere_0, u_Sf_rowsThere_1, u_Sf_rowsThere_2, u_Sf_rowsThere_3, ne_eq, not_false_eq_true, not_true_eq_false, true_and, and_true, true_or, or_true, eq_self, Option.toList_some, Option.toList_none, List.cons_append, List.nil_append, tc_0, tc_I, tc_L, tc_A, Nat.reduceAdd, Nat.reduceLeDiff, Nat.reduceEqDiff, Int.reduceEq, Int.reduceLT, Int.reduceLE, Int.reduceNeg, Int.reduceToNat, Int.cast_ofNat_Int, if_true, if_false, and_self, or_self, ite_self, bI_0, bI_1, bI_01, Bool.false_eq_true, reduceCtorEq]
    exact this
  have h3 : ∀ D Q, VV L (D + 1) m_St_clear 0 [some (tA 19), none] [] (WW f t g) Q = Q none (WW (zfl (zfl f 20 26 0) 27 4 0) t g) := fun D Q => by
    have := l_clear (L := L) (d := D) (f := f) (t := t) (g := g) (Q := Q) 26 0 rfl
    rw [zfl_0] at this
    simp only [u_St_clear_0, u_St_clear_1, ne_eq, not_false_eq_true, not_true_eq_false, true_and, and_true, true_or, or_true, eq_self, Option.toList_some, Option.toList_none, List.cons_append, List.nil_append, tc_0, tc_I, tc_L, tc_A, Nat.reduceAdd, Nat.reduceLeDiff, Nat.reduceEqDiff, Int.reduceEq, Int.reduceLT, Int.reduceLE, Int.reduceNeg, Int.reduceToNat, Int.cast_ofNat_Int, if_true, if_false, and_self, or_self, ite_self, bI_0, bI_1, bI_01, Bool.false_eq_true, reduceCtorEq]
    exact this
  have n1 := cnN_le (f := f) 26
  have n2 := cnR_le (f := f) 6
  have ws : w32 ((cnN f 26 : Int) + (cnR f 6 : Int)) = ((cnN f 26 + cnR f 6 : Nat) : Int) := by rw [w32_id (by omega) (by omega)]; omega
  unfold wpC
  simp only [u_T_wipe_0, u_T_wipe_1, u_T_wipe_4, u_T_wipe_7, u_T_wipe_8, u_T_wipe_11, u_T_wipe_14, u_T_wipe_15, u_T_wipe_16, u_T_wipe_17, u_T_wipe_20, u_T_wipe_23, u_T_wipe_24, u_T_wipe_27, u_T_wipe_30, u_T_wipe_31, u_T_wipe_34, u_T_wipe_37, u_T_wipe_38, h1_1, gt_1_7, gt_1_8, gt_1_9, h1_19, h1_28, h1_151, ne_eq, not_false_eq_true, not_true_eq_false, true_and, and_true, true_or, or_true, eq_self, Option.toList_some, Option.toList_none, List.cons_append, List.nil_append, tc_0, tc_I, tc_L, tc_A, Nat.reduceAdd, Nat.reduceLeDiff, Nat.reduceEqDiff, Int.reduceEq, Int.reduceLT, Int.reduceLE, Int.reduceNeg, Int.reduceToNat, Int.cast_ofNat_Int, if_true, if_false, and_self, or_self, ite_self, bI_0, bI_1, bI_01, Bool.false_eq_true, reduceCtorEq, h1, h2, h3, ws, s_Sf_clearRows, u_Ru_stop_0, u_Ru_stop_1, u_Ru_stop_2, u_Ru_stop_5, h1_151, gt_151_11, pt_151_11]
def wp1 (g : Mem) : Mem := zfl g 174 26 0
def wp2 (g : Mem) : Mem := zfl (wp1 g) 175 6 (-1)
def wp3 (g : Mem) : Mem := zfl (wp2 g) 179 4 0
def wpM (g : Mem) : Mem := mset (mset (wp3 g) 156 35 0) 156 54 0
theorem l_wp3 {n : Int} {F : Mem} : ∀ (m k : Nat), k + m = 4 → VV L d m_M_wipe 74 [some (tA 156), some (tI n), some (tI k)] [] (WW F t (zfl (wp2 g) 179 k 0)) Q = Q (some (tI n)) (WW F t (wpM g)) := by
  intro m
  induction m with
  | zero =>
    intro k hk
    obtain rfl : k = 4 := by omega
    rw [u_M_wipe_74]
    simp only [u_M_wipe_75, u_M_wipe_76, u_M_wipe_79, u_M_wipe_80, u_M_wipe_83, u_M_wipe_84, u_M_wipe_85, u_M_wipe_86, u_M_wipe_89, u_M_wipe_92, u_M_wipe_93, u_M_wipe_94, u_M_wipe_97, u_M_wipe_98, u_M_wipe_99, u_M_wipe_102, u_M_wipe_103, h1_156, pt_156_35, pt_156_54, ne_eq, not_false_eq_true, not_true_eq_false, true_and, and_true, true_or, or_true, eq_self, Option.toList_some, Option.toList_none, List.cons_append, List.nil_append, tc_0, tc_I, tc_L, tc_A, Nat.reduceAdd, Nat.reduceLeDiff, Nat.reduceEqDiff, Int.reduceEq, Int.reduceLT, Int.reduceLE, Int.reduceNeg, Int.reduceToNat, Int.cast_ofNat_Int, if_true, if_false, and_self, or_self, ite_self, bI_0, bI_1, bI_01, Bool.false_eq_true, reduceCtorEq, show (4 : Int) ≤ ((4 : Nat) : Int) by omega]
    rfl
  | succ m ih =>
    intro k hk
    have wk : w32 ((k : Int) + 1) = ((k + 1 : Nat) : Int) := by rw [w32_id (by omega) (by omega)]; omega
    rw [u_M_wipe_74]
    simp only [u_M_wipe_75, u_M_wipe_76, u_M_wipe_79, u_M_wipe_80, u_M_wipe_83, u_M_wipe_84, u_M_wipe_85, u_M_wipe_86, u_M_wipe_89, h1_156, gt_156_42, h1_179, h2_179, gt_179, pt_179, ne_eq, not_false_eq_true, not_true_eq_false, true_and, and_true, true_or, or_true, eq_self, Option.toList_some, Option.toList_none, List.cons_append, List.nil_append, tc_0, tc_I, tc_L, tc_A, Nat.reduceAdd, Nat.reduceLeDiff, Nat.reduceEqDiff, Int.reduceEq, Int.reduceLT, Int.reduceLE, Int.reduceNeg, Int.reduceToNat, Int.cast_ofNat_Int, if_true, if_false, and_self, or_self, ite_self, bI_0, bI_1, bI_01, Bool.false_eq_true, reduceCtorEq, show ¬ (4 : Int) ≤ k by omega, show 0 ≤ (k : Int) by omega, show (k : Int) < 4 by omega, Int.toNat_natCast, wk, zfl_s]
    exact ih (k + 1) (by omega)
theorem l_wp2 (hS : RSt f g TH) {F : Mem} {a : Nat} (ha : a ≤ 26) : ∀ (m k : Nat), k + m = 6 → VV L d m_M_wipe 36 [some (tA 156), some (tI ((a + cnR f k : Nat) : Int)), some (tI k)] [] (WW F t (zfl (wp1 g) 175 k (-1))) Q = Q (some (tI ((a + cnR f 6 : Nat) : Int))) (WW F t (wpM g)) := by
  intro m
  induction m with
  | zero =>
    intro k hk
    obtain rfl : k = 6 := by omega
    rw [u_M_wipe_36]
    simp only [u_M_wipe_37, u_M_wipe_39, u_M_wipe_72, u_M_wipe_73, ne_eq, not_false_eq_true, not_true_eq_false, true_and, and_true, true_or, or_true, eq_self, Option.toList_some, Option.toList_none, List.cons_append, List.nil_append, tc_0, tc_I, tc_L, tc_A, Nat.reduceAdd, Nat.reduceLeDiff, Nat.reduceEqDiff, Int.reduceEq, Int.reduceLT, Int.reduceLE, Int.reduceNeg, Int.reduceToNat, Int.cast_ofNat_Int, if_true, if_false, and_self, or_self, ite_self, bI_0, bI_1, bI_01, Bool.false_eq_true, reduceCtorEq, show (6 : Int) ≤ ((6 : Nat) : Int) by omega]
    have := l_wp3 (L := L) (d := d) (t := t) (g := g) (Q := Q) (n := ((a + cnR f 6 : Nat) : Int)) (F := F) 4 0 rfl
    rw [zfl_0] at this
    exact this
  | succ m ih =>
    intro k hk
    have hle := cnR_le (f := f) k
    have wk : w32 ((k : Int) + 1) = ((k + 1 : Nat) : Int) := by rw [w32_id (by omega) (by omega)]; omega
    have hz : (zfl (wp1 g) 175 k (-1)) 175 k = g 175 k := by unfold zfl; rw [if_neg (by omega)]; unfold wp1; rw [zfl_o (by omega)]
    have hrw := hS.rw k (by omega)
    rw [hC_r (show k < 6 by omega)] at hrw
    rw [← ih (k + 1) (by omega), u_M_wipe_36]
    by_cases h : f 29 k = -1
    · have hg : g 175 k = -1 := by omega
      have e : a + cnR f (k + 1) = a + cnR f k := by rw [cnR, if_pos h]; rfl
      have wc : w32 (((a + cnR f k : Nat) : Int) + 0) = ((a + cnR f k : Nat) : Int) := by rw [w32_id (by omega) (by omega)]; omega
      simp only [u_M_wipe_37, u_M_wipe_39, u_M_wipe_42, u_M_wipe_43, u_M_wipe_44, u_M_wipe_47, u_M_wipe_48, u_M_wipe_49, u_M_wipe_52, u_M_wipe_53, u_M_wipe_56, u_M_wipe_57, u_M_wipe_58, u_M_wipe_59, u_M_wipe_60, u_M_wipe_63, u_M_wipe_64, u_M_wipe_65, u_M_wipe_66, u_M_wipe_69, h1_156, gt_156_37, h1_175, h2_175, gt_175, pt_175, ne_eq, not_false_eq_true, not_true_eq_false, true_and, and_true, true_or, or_true, eq_self, Option.toList_some, Option.toList_none, List.cons_append, List.nil_append, tc_0, tc_I, tc_L, tc_A, Nat.reduceAdd, Nat.reduceLeDiff, Nat.reduceEqDiff, Int.reduceEq, Int.reduceLT, Int.reduceLE, Int.reduceNeg, Int.reduceToNat, Int.cast_ofNat_Int, if_true, if_false, and_self, or_self, ite_self, bI_0, bI_1, bI_01, Bool.false_eq_true, reduceCtorEq, show ¬ (6 : Int) ≤ k by omega, show 0 ≤ (k : Int) by omega, show (k : Int) < 14 by omega, Int.toNat_natCast, hz, hg, wk, wc, e, zfl_s]
    · have hg : ¬ g 175 k < 0 := by omega
      have e : a + cnR f (k + 1) = a + cnR f k + 1 := by rw [cnR, if_neg h]; omega
      have wc : w32 (((a + cnR f k : Nat) : Int) + 1) = ((a + cnR f k + 1 : Nat) : Int) := by rw [w32_id (by omega) (by omega)]; omega
      simp only [u_M_wipe_37, u_M_wipe_39, u_M_wipe_42, u_M_wipe_43, u_M_wipe_44, u_M_wipe_47, u_M_wipe_48, u_M_wipe_49, u_M_wipe_52, u_M_wipe_53, u_M_wipe_56, u_M_wipe_57, u_M_wipe_58, u_M_wipe_59, u_M_wipe_60, u_M_wipe_63, u_M_wipe_64, u_M_wipe_65, u_M_wipe_66, u_M_wipe_69, h1_156, gt_156_37, h1_175, h2_175, gt_175, pt_175, ne_eq, not_false_eq_true, not_true_eq_false, true_and, and_true, true_or, or_true, eq_self, Option.toList_some, Option.toList_none, List.cons_append, List.nil_append, tc_0, tc_I, tc_L, tc_A, Nat.reduceAdd, Nat.reduceLeDiff, Nat.reduceEqDiff, Int.reduceEq, Int.reduceLT, Int.reduceLE, Int.reduceNeg, Int.reduceToNat, Int.cast_ofNat_Int, if_true, if_false, and_self, or_self, ite_self, bI_0, bI_1, bI_01, Bool.false_eq_true, reduceCtorEq, show ¬ (6 : Int) ≤ k by omega, show 0 ≤ (k : Int) by omega, show (k : Int) < 14 by omega, Int.toNat_natCast, hz, hg, wk, wc, e, zfl_s]
theorem l_wp1 (hS : RSt f g TH) {F : Mem} : ∀ (m k : Nat), k + m = 26 → VV L d m_M_wipe 4 [some (tA 156), some (tI (cnN f k)), some (tI k)] [] (WW F t (zfl g 174 k 0)) Q = Q (some (tI ((cnN f 26 + cnR f 6 : Nat) : Int))) (WW F t (wpM g)) := by
  intro m
  induction m with
  | zero =>
    intro k hk
    obtain rfl : k = 26 := by omega
    rw [u_M_wipe_4]
    simp only [u_M_wipe_5, u_M_wipe_7, u_M_wipe_34, u_M_wipe_35, ne_eq, not_false_eq_true, not_true_eq_false, true_and, and_true, true_or, or_true, eq_self, Option.toList_some, Option.toList_none, List.cons_append, List.nil_append, tc_0, tc_I, tc_L, tc_A, Nat.reduceAdd, Nat.reduceLeDiff, Nat.reduceEqDiff, Int.reduceEq, Int.reduceLT, Int.reduceLE, Int.reduceNeg, Int.reduceToNat, Int.cast_ofNat_Int, if_true, if_false, and_self, or_self, ite_self, bI_0, bI_1, bI_01, Bool.false_eq_true, reduceCtorEq, show (26 : Int) ≤ ((26 : Nat) : Int) by omega]
    have := l_wp2 (L := L) (d := d) (t := t) (g := g) (Q := Q) hS (F := F) (cnN_le (f := f) 26) 6 0 rfl
    rw [zfl_0] at this
    exact this
  | succ m ih =>
    intro k hk
    have hle := cnN_le (f := f) k
    have wk : w32 ((k : Int) + 1) = ((k + 1 : Nat) : Int) := by rw [w32_id (by omega) (by omega)]; omega
    have hb := bit_M hS (k := (k : Int)) (by omega)
    have hz : (zfl g 174 k 0) 156 35 = g 156 35 := zfl_o (by omega)
    rw [← ih (k + 1) (by omega), u_M_wipe_4]
    by_cases h : f 20 k = 0
    · have ht : thr f (k : Int) = false := by unfold thr; rw [Int.toNat_natCast, h]; simp
      rw [ht, bB_f] at hb
      have e : cnN f (k + 1) = cnN f k := by rw [cnN, if_pos h]; rfl
      have wc : w32 ((cnN f k : Int) + 0) = (cnN f k : Int) := by rw [w32_id (by omega) (by omega)]; omega
      simp only [u_M_wipe_5, u_M_wipe_7, u_M_wipe_10, u_M_wipe_11, u_M_wipe_12, u_M_wipe_15, u_M_wipe_16, u_M_wipe_17, u_M_wipe_18, u_M_wipe_19, u_M_wipe_20, u_M_wipe_21, u_M_wipe_22, u_M_wipe_25, u_M_wipe_26, u_M_wipe_27, u_M_wipe_28, u_M_wipe_31, h1_156, gt_156_35, gt_156_36, h1_174, h2_174, gt_174, pt_174, ne_eq, not_false_eq_true, not_true_eq_false, true_and, and_true, true_or, or_true, eq_self, Option.toList_some, Option.toList_none, List.cons_append, List.nil_append, tc_0, tc_I, tc_L, tc_A, Nat.reduceAdd, Nat.reduceLeDiff, Nat.reduceEqDiff, Int.reduceEq, Int.reduceLT, Int.reduceLE, Int.reduceNeg, Int.reduceToNat, Int.cast_ofNat_Int, if_true, if_false, and_self, or_self, ite_self, bI_0, bI_1, bI_01, Bool.false_eq_true, reduceCtorEq, show ¬ (26 : Int) ≤ k by omega, show 0 ≤ (k : Int) by omega, show (k : Int) < 26 by omega, Int.toNat_natCast, hz, hb, wk, wc, e, zfl_s]
    · have ht : thr f (k : Int) = true := by unfold thr; rw [Int.toNat_natCast]; simp [h]; omega
      rw [ht, bB_t] at hb
      have e : cnN f (k + 1) = cnN f k + 1 := by rw [cnN, if_neg h]
      have wc : w32 ((cnN f k : Int) + 1) = ((cnN f k + 1 : Nat) : Int) := by rw [w32_id (by omega) (by omega)]; omega
      simp only [u_M_wipe_5, u_M_wipe_7, u_M_wipe_10, u_M_wipe_11, u_M_wipe_12, u_M_wipe_15, u_M_wipe_16, u_M_wipe_17, u_M_wipe_18, u_M_wipe_19, u_M_wipe_20, u_M_wipe_21, u_M_wipe_22, u_M_wipe_25, u_M_wipe_26, u_M_wipe_27, u_M_wipe_28, u_M_wipe_31, h1_156, gt_156_35, gt_156_36, h1_174, h2_174, gt_174, pt_174, ne_eq, not_false_eq_true, not_true_eq_false, true_and, and_true, true_or, or_true, eq_self, Option.toList_some, Option.toList_none, List.cons_append, List.nil_append, tc_0, tc_I, tc_L, tc_A, Nat.reduceAdd, Nat.reduceLeDiff, Nat.reduceEqDiff, Int.reduceEq, Int.reduceLT, Int.reduceLE, Int.reduceNeg, Int.reduceToNat, Int.cast_ofNat_Int, if_true, if_false, and_self, or_self, ite_self, bI_0, bI_1, bI_01, Bool.false_eq_true, reduceCtorEq, show ¬ (26 : Int) ≤ k by omega, show 0 ≤ (k : Int) by omega, show (k : Int) < 26 by omega, Int.toNat_natCast, hz, hb, wk, wc, e, zfl_s]
theorem wpC_o {b j : Nat} (h : ¬ (b = 20 ∨ b = 27 ∨ b = 29 ∨ (b = 151 ∧ j = 11))) : wpC f b j = f b j := by
  unfold wpC; rw [rd, if_neg (by omega), zfl_o (by omega), zfl_o (by omega), zfl_o (by omega)]
theorem wpM_o {b j : Nat} (h : ¬ (b = 174 ∨ b = 175 ∨ b = 179 ∨ (b = 156 ∧ (j = 35 ∨ j = 54)))) : wpM g b j = g b j := by
  unfold wpM wp3 wp2 wp1; rw [rd, if_neg (by omega), rd, if_neg (by omega), zfl_o (by omega), zfl_o (by omega), zfl_o (by omega)]
theorem Rel_wipe (hR : RelX X TH f t g) : RelX X 0 (wpC f) t (wpM g) := by
  have hS := hR.st
  have c20 : ∀ k, k < 26 → wpC f 20 k = 0 := fun k hk => by unfold wpC; rw [rd, if_neg (by omega), zfl_o (by omega), zfl_o (by omega), zfl_v hk]
  have c27 : ∀ k, k < 4 → wpC f 27 k = 0 := fun k hk => by unfold wpC; rw [rd, if_neg (by omega), zfl_o (by omega), zfl_v hk]
  have c29 : ∀ k, k < 6 → wpC f 29 k = -1 := fun k hk => by unfold wpC; rw [rd, if_neg (by omega), zfl_v hk]
  have m179 : ∀ k, k < 4 → wpM g 179 k = 0 := fun k hk => by unfold wpM wp3; rw [rd, if_neg (by omega), rd, if_neg (by omega), zfl_v hk]
  have m175 : ∀ k, wpM g 175 k = if k < 6 then -1 else g 175 k := fun k => by
    unfold wpM wp3 wp2 wp1; rw [rd, if_neg (by omega), rd, if_neg (by omega), zfl_o (by omega)]
    by_cases hk : k < 6
    · rw [zfl_v hk, if_pos hk]
    · rw [if_neg hk]; unfold zfl; rw [if_neg (by omega), if_neg (by omega)]
  have m35 : wpM g 156 35 = 0 := by unfold wpM; rw [rd, if_neg (by omega), rd, if_pos (by simp)]
  have hCw : ∀ k, hC (wpC f) k = if k < 6 then -1 else hC f k := fun k => by
    unfold hC
    by_cases hk : k < 6
    · rw [if_pos hk, if_pos hk, c29 k hk]
    · rw [if_neg hk, if_neg hk, if_neg hk, wpC_o (by omega)]
  have hS' : RSt (wpC f) (wpM g) 0 := by
    refine ⟨m35, by decide, fun k hk => Or.inl ⟨c20 k hk, by simp⟩, fun s hs => ?_, fun s i hs hi => ?_, fun k hk => ?_, fun a b ha hb h1 h2 => ?_, fun n hn => ?_, fun n hn => ?_⟩
    · rw [c27 s hs, m179 s hs]; decide
    · rw [c27 s hs] at hi; omega
    · rw [hCw, m175]
      by_cases h6 : k < 6
      · rw [if_pos h6, if_pos h6]; exact Or.inl ⟨rfl, rfl⟩
      · rw [if_neg h6, if_neg h6]
        have hrw := hS.rw k hk
        rcases hrw with q | ⟨q1, q2, q3, q4, q5, q6, q7, q8⟩
        · exact Or.inl q
        · refine Or.inr ⟨q1, q2, q3, q4, ?_, ?_, ?_, fun i hi => ?_⟩
          · rw [wpC_o (by omega), wpM_o (by omega)]; exact q5
          · rw [wpC_o (by omega), wpM_o (by omega)]; exact q6
          · rw [wpC_o (by omega)]; exact q7
          · rw [wpC_o (by omega)] at hi
            rw [wpC_o (by omega), wpM_o (by omega)]; exact q8 i hi
    · rw [hCw] at h1 h2
      rw [hCw, hCw, m175, m175]
      by_cases a6 : a < 6
      · rw [if_pos a6] at h1; omega
      · by_cases b6 : b < 6
        · rw [if_pos b6] at h2; omega
        · rw [if_neg a6] at h1; rw [if_neg b6] at h2
          rw [if_neg a6, if_neg b6, if_neg a6, if_neg b6]; exact hS.inj a b ha hb h1 h2
    · rw [wpC_o (by omega)]; exact hS.cC n hn
    · rw [wpM_o (by omega)]; exact hS.cM n hn
  have hRC' : RC (wpC f) := by
    have h15 := hC_15 hS
    refine ⟨fun k hk h1 => ?_, fun s i hs hi => ?_, fun k hk h0 i hi => ?_⟩
    · rw [c20 k hk] at h1; omega
    · rw [c27 s hs] at hi; omega
    · rw [hCw] at h0 hi ⊢
      by_cases h6 : k < 6
      · rw [if_pos h6] at h0; omega
      · have hk15 := h15 k hk
        rw [if_neg h6] at h0 hi ⊢
        rw [wpC_o (by omega)] at hi
        rw [wpC_o (by omega), wpC_o (by omega)]; exact hR.rc.i k hk h0 i hi
  exact RelX_mk ⟨Rtape_fr hR.tp (fun b j hh => wpC_o (by omega)) (fun b j hh => wpM_o (by omega)), Rtext_fr hR.tx (fun b j hh => wpC_o (by omega)) (fun b j hh => wpM_o (by omega)), Rout_fr hR.ou (fun b j hh => wpC_o (by omega)) (fun b j hh => wpM_o (by omega)), hS', hRC', Rrun_stop hR.rn (by unfold wpC; rw [rd, if_pos (by simp)]) (by unfold wpM; rw [rd, if_pos (by simp)]) (wpC_o (by omega)) (wpM_o (by omega)), Rflt_fr hR.fl (fun b j hh => wpC_o (by omega)) (fun b j hh => wpM_o (by omega))⟩
theorem B_wipe : Both tI m_T_wipe [some (tA 1), none] m_M_wipe [some (tA 156), none, none] := by
  refine Both_of (fun L d X TH f t g Q hR hQ => ?_)
  rw [s_T_wipe]
  refine hQ _ _ t (fun L d Q hq => ?_)
  have := l_wp1 (L := L) (d := d + 200) (t := t) (Q := Q) hR.st (F := wpC f) 26 0 rfl
  rw [zfl_0] at this
  have hst : VV L (d + 200) m_M_wipe 0 [some (tA 156), none, none] [] (WW (wpC f) t g) Q = Q (some (tI ((cnN f 26 + cnR f 6 : Nat) : Int))) (WW (wpC f) t (wpM g)) := by
    rw [← this]
    simp only [u_M_wipe_0, u_M_wipe_1, u_M_wipe_2, u_M_wipe_3, ne_eq, not_false_eq_true, not_true_eq_false, true_and, and_true, true_or, or_true, eq_self, Option.toList_some, Option.toList_none, List.cons_append, List.nil_append, tc_0, tc_I, tc_L, tc_A, Nat.reduceAdd, Nat.reduceLeDiff, Nat.reduceEqDiff, Int.reduceEq, Int.reduceLT, Int.reduceLE, Int.reduceNeg, Int.reduceToNat, Int.cast_ofNat_Int, if_true, if_false, and_self, or_self, ite_self, bI_0, bI_1, bI_01, Bool.false_eq_true, reduceCtorEq]
    rfl
  rw [hst]
  exact hq _ ⟨X, 0, Rel_wipe hR⟩ (fun j => wpM_o (by omega))
end
