/-! Reader.split -/
theorem spF_stop {p : Int → Bool} {y : Int → Int} : ∀ (m : Nat) (i j : Int), i ≤ j → j < i + m → p (y j) = false → p (y (spF p y m i)) = false := by
  intro m
  induction m with
  | zero => intro i j h1 h2 h3; omega
  | succ m ih =>
    intro i j h1 h2 h3
    unfold spF
    by_cases h : p (y i) = true
    · rw [if_pos h]
      have : ¬ j = i := by intro e; subst e; rw [h] at h3; cases h3
      exact ih (i + 1) j (by omega) (by omega) h3
    · rw [if_neg h]; simpa using h
theorem spF_more {p : Int → Bool} {y : Int → Int} : ∀ (m : Nat) (i : Int), p (y (spF p y m i)) = false → spF p y (m + 1) i = spF p y m i := by
  intro m
  induction m with
  | zero => intro i h; have h' : p (y i) = false := h; show (if p (y i) = true then spF p y 0 (i + 1) else i) = i; rw [if_neg (by simp [h'])]
  | succ m ih =>
    intro i h
    rw [spF]
    by_cases h2 : p (y i) = true
    · rw [if_pos h2]
      have e : spF p y (m + 1) i = spF p y m (i + 1) := by rw [spF, if_pos h2]
      rw [e] at h ⊢
      exact ih (i + 1) h
    · rw [if_neg h2, spF, if_neg h2]
section
variable {f : Mem} {n i : Int}
theorem yb_n (h : n ≤ i) : yb f n i = 0 := by unfold yb; rw [if_neg (by omega)]
theorem sk_ns (hn : n ≤ 600) (h0 : 0 ≤ i) (h1 : i ≤ n) : ¬ yb f n (sk (yb f n) i) = 32 := by
  have := spF_stop (p := fun c => decide (c = 32)) (y := yb f n) 601 i n h1 (by omega) (by rw [yb_n (by omega)]; rfl)
  unfold sk
  simpa using this
theorem sk_le (hn : n ≤ 600) (h0 : 0 ≤ i) (h1 : i ≤ n) : i ≤ sk (yb f n) i ∧ sk (yb f n) i ≤ n := by
  refine ⟨(spF_ge 601 i).1, ?_⟩
  by_cases h : sk (yb f n) i ≤ n
  · exact h
  · have := spF_all (p := fun c => decide (c = 32)) (y := yb f n) 601 i n h1 (by unfold sk at h; omega)
    rw [yb_n (by omega)] at this
    simp at this
theorem sk_32 (hn : n ≤ 600) (h0 : 0 ≤ i) (h1 : i < n) (h : yb f n i = 32) : sk (yb f n) i = sk (yb f n) (i + 1) := by
  have e : sk (yb f n) i = spF (fun c => decide (c = 32)) (yb f n) 600 (i + 1) := by unfold sk; rw [spF, if_pos (by simp [h])]
  rw [e]
  unfold sk
  refine (spF_more 600 (i + 1) ?_).symm
  exact spF_stop (p := fun c => decide (c = 32)) (y := yb f n) 600 (i + 1) n (by omega) (by omega) (by rw [yb_n (by omega)]; rfl)
theorem sk_id (h : ¬ yb f n i = 32) : sk (yb f n) i = i := by unfold sk; rw [spF, if_neg (by simp [h])]
theorem lxT_0 {y : Int → Int} {t : Mem} {a : Nat} : mset t a 1 0 = lxT y t a 0 := by
  funext b j; simp only [mset, lxT]; grind
theorem lxT_s {y : Int → Int} {t : Mem} {a k : Nat} : mset (mset (lxT y t a k) a 1 (lxT y t a k a 1 + 1)) (a + 1) (lxT y t a k a 1).toNat (tv y (sk y (eN y k))) = lxT y t a (k + 1) := by
  have e : lxT y t a k a 1 = k := by simp [lxT]
  rw [e]
  funext b j; simp only [mset, lxT, Int.toNat_natCast]; grind
theorem lxT_a1 {y : Int → Int} {t : Mem} {a k : Nat} : lxT y t a k a 1 = k := by simp [lxT]
theorem lxB_0 {y : Int → Int} {f : Mem} : f = lxB y f 0 := by funext b j; simp [lxB]
theorem lxB_s {y : Int → Int} {f : Mem} {k : Nat} : mset (lxB y f k) 15 k (sk y (eN y k)) = lxB y f (k + 1) := by
  funext b j; simp only [mset, lxB]; grind
theorem lxB_c {y : Int → Int} {f : Mem} {k c j : Nat} (h : c ≠ 15) : lxB y f k c j = f c j := by simp [lxB, h]
theorem lxB_y {y : Int → Int} {f : Mem} {k : Nat} {n : Int} : yb (lxB y f k) n = yb f n := by
  funext j; unfold yb; rw [lxB_c (by omega)]
theorem tok_lx {y : Int → Int} {t : Mem} {a len : Nat} {k : Int} : tok (lxT y t a len) a k = if 0 ≤ k ∧ k < len then tv y (sk y (eN y k.toNat)) else 0 := by
  unfold tok
  rw [lxT_a1]
  by_cases h : 0 ≤ k ∧ k < len
  · rw [if_pos h, if_pos h]
    unfold lxT
    rw [if_neg (by omega), if_pos (by omega)]
  · rw [if_neg h, if_neg h]
end
section
variable {L d a : Nat} {f t g : Mem} {Q : Option TV → Wd → Prop} {n : Int}
theorem l_Re_split (hT : isT a) (hX : (f 14 1).toNat = a) (hn : n ≤ 600) (hQ : ∀ len : Nat, (len : Int) ≤ n → sk (yb f n) (eN (yb f n) len) = n → (∀ k, k < len → 0 ≤ sk (yb f n) (eN (yb f n) k) ∧ sk (yb f n) (eN (yb f n) k) < n) → Q none (WW (lxB (yb f n) f (len + 1)) (lxT (yb f n) t a len) g)) : ∀ (q : Nat) (i cnt : Int) (k : Nat) (l5 : Option TV), n - i ≤ q → 0 ≤ cnt → cnt ≤ i → i ≤ n → (k : Int) ≤ i → sk (yb f n) i = sk (yb f n) (eN (yb f n) k) → (∀ k', k' < k → 0 ≤ sk (yb f n) (eN (yb f n) k') ∧ sk (yb f n) (eN (yb f n) k') < n) → VV L (d + 4) m_Re_split 12 [some (tA 14), some (tA 2), some (tI n), some (tI i), some (tI cnt), l5] [] (WW (lxB (yb f n) f k) (lxT (yb f n) t a k) g) Q := by
  have hend : ∀ (i cnt : Int) (k : Nat) (l5 : Option TV), 0 ≤ cnt → i = n → (k : Int) ≤ i → sk (yb f n) i = sk (yb f n) (eN (yb f n) k) → (∀ k', k' < k → 0 ≤ sk (yb f n) (eN (yb f n) k') ∧ sk (yb f n) (eN (yb f n) k') < n) → VV L (d + 4) m_Re_split 74 [some (tA 14), some (tA 2), some (tI n), some (tI i), some (tI cnt), l5] [] (WW (lxB (yb f n) f k) (lxT (yb f n) t a k) g) Q := by
    intro i cnt k l5 h0 h1 h2 h3 h4
    have e0 : sk (yb f n) n = n := sk_id (by rw [yb_n (by omega)]; omega)
    subst h1
    rw [e0] at h3
    have hX1 : (lxB (yb f i) f k 14 1).toNat = a := by rw [lxB_c (by omega)]; exact hX
    simp only [u_Re_split_0, u_Re_split_1, u_Re_split_4, u_Re_split_7, u_Re_split_8, u_Re_split_9, u_Re_split_10, u_Re_split_14, u_Re_split_17, u_Re_split_20, u_Re_split_21, u_Re_split_22, u_Re_split_25, u_Re_split_26, u_Re_split_27, u_Re_split_28, u_Re_split_30, u_Re_split_31, u_Re_split_32, u_Re_split_33, u_Re_split_35, u_Re_split_38, u_Re_split_39, u_Re_split_40, u_Re_split_41, u_Re_split_44, u_Re_split_46, u_Re_split_47, u_Re_split_48, u_Re_split_51, u_Re_split_52, u_Re_split_55, u_Re_split_56, u_Re_split_57, u_Re_split_59, u_Re_split_62, u_Re_split_65, u_Re_split_67, u_Re_split_68, u_Re_split_71, u_Re_split_74, u_Re_split_75, u_Re_split_76, u_Re_split_79, h1_14, gt_14_1, pt_14_1, xT_0, xT_h1, ne_eq, not_false_eq_true, not_true_eq_false, true_and, and_true, true_or, or_true, eq_self, Option.toList_some, Option.toList_none, List.cons_append, List.nil_append, tc_0, tc_I, tc_L, tc_A, Nat.reduceAdd, Nat.reduceLeDiff, Nat.reduceEqDiff, Int.reduceEq, Int.reduceLT, Int.reduceLE, Int.reduceNeg, Int.reduceToNat, Int.cast_ofNat_Int, if_true, if_false, and_self, or_self, ite_self, bI_0, bI_1, bI_01, Bool.false_eq_true, reduceCtorEq, s_Re_mark hT hX1 (show 0 ≤ lxT (yb f i) t a k a 1 by rw [lxT_a1]; omega), lxT_a1, show (k : Int) < 601 by omega, Int.toNat_natCast]
    have := hQ k h2 h3.symm h4
    rw [← lxB_s, ← h3] at this
    exact this
  intro q
  induction q with
  | zero =>
    intro i cnt k l5 h0 h1 h2 h3 h4 h5 h6
    have he := hend i cnt k l5 h1 (by omega) h4 h5 h6
    rw [u_Re_split_12]
    by_cases hc : 600 ≤ cnt
    · simp only [u_Re_split_14, u_Re_split_17, u_Re_split_20, u_Re_split_21, u_Re_split_22, ne_eq, not_false_eq_true, not_true_eq_false, true_and, and_true, true_or, or_true, eq_self, Option.toList_some, Option.toList_none, List.cons_append, List.nil_append, tc_0, tc_I, tc_L, tc_A, Nat.reduceAdd, Nat.reduceLeDiff, Nat.reduceEqDiff, Int.reduceEq, Int.reduceLT, Int.reduceLE, Int.reduceNeg, Int.reduceToNat, Int.cast_ofNat_Int, if_true, if_false, and_self, or_self, ite_self, bI_0, bI_1, bI_01, Bool.false_eq_true, reduceCtorEq, hc]; exact he
    · simp only [u_Re_split_14, u_Re_split_17, u_Re_split_20, u_Re_split_21, u_Re_split_22, ne_eq, not_false_eq_true, not_true_eq_false, true_and, and_true, true_or, or_true, eq_self, Option.toList_some, Option.toList_none, List.cons_append, List.nil_append, tc_0, tc_I, tc_L, tc_A, Nat.reduceAdd, Nat.reduceLeDiff, Nat.reduceEqDiff, Int.reduceEq, Int.reduceLT, Int.reduceLE, Int.reduceNeg, Int.reduceToNat, Int.cast_ofNat_Int, if_true, if_false, and_self, or_self, ite_self, bI_0, bI_1, bI_01, Bool.false_eq_true, reduceCtorEq, hc, show n ≤ i by omega]; exact he
  | succ q ih =>
    intro i cnt k l5 h0 h1 h2 h3 h4 h5 h6
    by_cases hi : n ≤ i
    · have he := hend i cnt k l5 h1 (by omega) h4 h5 h6
      rw [u_Re_split_12]
      by_cases hc : 600 ≤ cnt
      · simp only [u_Re_split_14, u_Re_split_17, u_Re_split_20, u_Re_split_21, u_Re_split_22, ne_eq, not_false_eq_true, not_true_eq_false, true_and, and_true, true_or, or_true, eq_self, Option.toList_some, Option.toList_none, List.cons_append, List.nil_append, tc_0, tc_I, tc_L, tc_A, Nat.reduceAdd, Nat.reduceLeDiff, Nat.reduceEqDiff, Int.reduceEq, Int.reduceLT, Int.reduceLE, Int.reduceNeg, Int.reduceToNat, Int.cast_ofNat_Int, if_true, if_false, and_self, or_self, ite_self, bI_0, bI_1, bI_01, Bool.false_eq_true, reduceCtorEq, hc]; exact he
      · simp only [u_Re_split_14, u_Re_split_17, u_Re_split_20, u_Re_split_21, u_Re_split_22, ne_eq, not_false_eq_true, not_true_eq_false, true_and, and_true, true_or, or_true, eq_self, Option.toList_some, Option.toList_none, List.cons_append, List.nil_append, tc_0, tc_I, tc_L, tc_A, Nat.reduceAdd, Nat.reduceLeDiff, Nat.reduceEqDiff, Int.reduceEq, Int.reduceLT, Int.reduceLE, Int.reduceNeg, Int.reduceToNat, Int.cast_ofNat_Int, if_true, if_false, and_self, or_self, ite_self, bI_0, bI_1, bI_01, Bool.false_eq_true, reduceCtorEq, hc, hi]; exact he
    · have hy : lxB (yb f n) f k 2 i.toNat = yb f n i := by rw [lxB_c (by omega)]; unfold yb; rw [if_pos (by omega)]
      have w1 : w32 (i + 1) = i + 1 := w32_id (by omega) (by omega)
      have wc : w32 (cnt + 1) = cnt + 1 := w32_id (by omega) (by omega)
      have hX1 : (lxB (yb f n) f k 14 1).toNat = a := by rw [lxB_c (by omega)]; exact hX
      have hX2 : (lxB (yb f n) f (k + 1) 14 1).toNat = a := by rw [lxB_c (by omega)]; exact hX
      rw [u_Re_split_12]
      simp only [u_Re_split_0, u_Re_split_1, u_Re_split_4, u_Re_split_7, u_Re_split_8, u_Re_split_9, u_Re_split_10, u_Re_split_14, u_Re_split_17, u_Re_split_20, u_Re_split_21, u_Re_split_22, u_Re_split_25, u_Re_split_26, u_Re_split_27, u_Re_split_28, u_Re_split_30, u_Re_split_31, u_Re_split_32, u_Re_split_33, u_Re_split_35, u_Re_split_38, u_Re_split_39, u_Re_split_40, u_Re_split_41, u_Re_split_44, u_Re_split_46, u_Re_split_47, u_Re_split_48, u_Re_split_51, u_Re_split_52, u_Re_split_55, u_Re_split_56, u_Re_split_57, u_Re_split_59, u_Re_split_62, u_Re_split_65, u_Re_split_67, u_Re_split_68, u_Re_split_71, u_Re_split_74, u_Re_split_75, u_Re_split_76, u_Re_split_79, h1_14, gt_14_1, pt_14_1, xT_0, xT_h1, ne_eq, not_false_eq_true, not_true_eq_false, true_and, and_true, true_or, or_true, eq_self, Option.toList_some, Option.toList_none, List.cons_append, List.nil_append, tc_0, tc_I, tc_L, tc_A, Nat.reduceAdd, Nat.reduceLeDiff, Nat.reduceEqDiff, Int.reduceEq, Int.reduceLT, Int.reduceLE, Int.reduceNeg, Int.reduceToNat, Int.cast_ofNat_Int, if_true, if_false, and_self, or_self, ite_self, bI_0, bI_1, bI_01, Bool.false_eq_true, reduceCtorEq, h1_2, h2_2, gt_2, pt_2, show ¬ 600 ≤ cnt by omega, hi, w1, show 0 ≤ i by omega, show i < 600 by omega, hy]
      by_cases hs : yb f n i = 32
      · simp only [hs, ne_eq, not_false_eq_true, not_true_eq_false, true_and, and_true, true_or, or_true, eq_self, Option.toList_some, Option.toList_none, List.cons_append, List.nil_append, tc_0, tc_I, tc_L, tc_A, Nat.reduceAdd, Nat.reduceLeDiff, Nat.reduceEqDiff, Int.reduceEq, Int.reduceLT, Int.reduceLE, Int.reduceNeg, Int.reduceToNat, Int.cast_ofNat_Int, if_true, if_false, and_self, or_self, ite_self, bI_0, bI_1, bI_01, Bool.false_eq_true, reduceCtorEq, u_Re_split_0, u_Re_split_1, u_Re_split_4, u_Re_split_7, u_Re_split_8, u_Re_split_9, u_Re_split_10, u_Re_split_14, u_Re_split_17, u_Re_split_20, u_Re_split_21, u_Re_split_22, u_Re_split_25, u_Re_split_26, u_Re_split_27, u_Re_split_28, u_Re_split_30, u_Re_split_31, u_Re_split_32, u_Re_split_33, u_Re_split_35, u_Re_split_38, u_Re_split_39, u_Re_split_40, u_Re_split_41, u_Re_split_44, u_Re_split_46, u_Re_split_47, u_Re_split_48, u_Re_split_51, u_Re_split_52, u_Re_split_55, u_Re_split_56, u_Re_split_57, u_Re_split_59, u_Re_split_62, u_Re_split_65, u_Re_split_67, u_Re_split_68, u_Re_split_71, u_Re_split_74, u_Re_split_75, u_Re_split_76, u_Re_split_79, h1_14, gt_14_1, pt_14_1, xT_0, xT_h1, wc]
        exact ih (i + 1) (cnt + 1) k _ (by omega) (by omega) (by omega) (by omega) (by omega) (by rw [← sk_32 hn (by omega) (by omega) hs]; exact h5) h6
      · have e1 : sk (yb f n) i = i := sk_id hs
        have hb := te_b (f := f) hn (show 0 ≤ i by omega) (show i < n by omega)
        have hte := fun Q => s_Re_tokenEnd (L := L) (d := d + 2) (f := lxB (yb f n) f k) (t := lxT (yb f n) t a k) (g := g) (Q := Q) hn (show 0 ≤ i by omega) (show i < n by omega)
        have hto := fun Q => s_Re_tokenOf (L := L) (d := d + 1) (f := lxB (yb f n) f (k + 1)) (t := lxT (yb f n) t a k) (g := g) (Q := Q) hn (show 0 ≤ i by omega) (show i < n by omega)
        simp only [lxB_y] at hte hto
        have hm : mset (lxB (yb f n) f k) 15 k i = lxB (yb f n) f (k + 1) := by rw [← lxB_s, ← h5, e1]
        have ht : mset (mset (lxT (yb f n) t a k) a 1 (↑k + 1)) (a + 1) k (tv (yb f n) i) = lxT (yb f n) t a (k + 1) := by
          rw [← lxT_s, lxT_a1, Int.toNat_natCast, ← h5, e1]
        simp only [hs, ne_eq, not_false_eq_true, not_true_eq_false, true_and, and_true, true_or, or_true, eq_self, Option.toList_some, Option.toList_none, List.cons_append, List.nil_append, tc_0, tc_I, tc_L, tc_A, Nat.reduceAdd, Nat.reduceLeDiff, Nat.reduceEqDiff, Int.reduceEq, Int.reduceLT, Int.reduceLE, Int.reduceNeg, Int.reduceToNat, Int.cast_ofNat_Int, if_true, if_false, and_self, or_self, ite_self, bI_0, bI_1, bI_01, Bool.false_eq_true, reduceCtorEq, u_Re_split_0, u_Re_split_1, u_Re_split_4, u_Re_split_7, u_Re_split_8, u_Re_split_9, u_Re_split_10, u_Re_split_14, u_Re_split_17, u_Re_split_20, u_Re_split_21, u_Re_split_22, u_Re_split_25, u_Re_split_26, u_Re_split_27, u_Re_split_28, u_Re_split_30, u_Re_split_31, u_Re_split_32, u_Re_split_33, u_Re_split_35, u_Re_split_38, u_Re_split_39, u_Re_split_40, u_Re_split_41, u_Re_split_44, u_Re_split_46, u_Re_split_47, u_Re_split_48, u_Re_split_51, u_Re_split_52, u_Re_split_55, u_Re_split_56, u_Re_split_57, u_Re_split_59, u_Re_split_62, u_Re_split_65, u_Re_split_67, u_Re_split_68, u_Re_split_71, u_Re_split_74, u_Re_split_75, u_Re_split_76, u_Re_split_79, h1_14, gt_14_1, pt_14_1, xT_0, xT_h1, hte, s_Re_mark hT hX1 (show 0 ≤ lxT (yb f n) t a k a 1 by rw [lxT_a1]; omega), lxT_a1, show (k : Int) < 601 by omega, Int.toNat_natCast, hm, hX2, hT, hto, s_Tx_add hT (show 0 ≤ lxT (yb f n) t a k a 1 by rw [lxT_a1]; omega), show (k : Int) < 1000 by omega, ht, wc]
        refine ih (te (yb f n) i) (cnt + 1) (k + 1) _ (by omega) (by omega) (by omega) (by omega) (by omega) ?_ ?_
        · show _ = sk (yb f n) (te (yb f n) (sk (yb f n) (eN (yb f n) k)))
          rw [← h5, e1]
        · intro k' hk'
          by_cases e : k' = k
          · subst e; rw [← h5, e1]; omega
          · exact h6 k' (by omega)
end
