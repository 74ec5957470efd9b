/-! print, of both -/
/-- whether a blank stands ahead of token k -/
def apP (T : Int → Int) (k : Int) : Bool := if T k = 59 ∨ T k = 93 ∨ T k = 41 ∨ T k = 91 then false else if T (k - 1) = 45 then kEnd (T (k - 2)) else decide (¬ (T (k - 1) = 91 ∨ T (k - 1) = 40 ∨ T (k - 1) = 35))
def blk (T : Int → Int) (k : Nat) : List Int := if 0 < k ∧ apP T k = true then [32] else []
def prL (T : Int → Int) : Nat → List Int
  | 0 => []
  | k + 1 => prL T k ++ (blk T k ++ ptk (T k))
theorem blk_len {T : Int → Int} {k : Nat} : (blk T k).length ≤ 1 := by unfold blk; split <;> simp
theorem tks_s {T : Int → Int} : ∀ (k : Nat) (i : Int), tks T i (k + 1) = tks T i k ++ [T (i + k)] := by
  intro k
  induction k with
  | zero => intro i; simp [tks]
  | succ k ih =>
    intro i
    rw [tks, ih (i + 1), tks, List.cons_append, show i + 1 + (k : Int) = i + ((k + 1 : Nat) : Int) by omega]
theorem prL_w {T : Int → Int} {n : Nat} (hok : ∀ k : Int, 0 ≤ k → k < n → okT (T k)) : ∀ k, k ≤ n → (prL T k).length ≤ wtL (tks T 0 k) ∧ ∀ u ∈ prL T k, 32 ≤ u ∧ u ≤ 126 := by
  intro k
  induction k with
  | zero => intro _; exact ⟨Nat.zero_le _, fun u hu => absurd hu (by simp [prL])⟩
  | succ k ih =>
    intro hk
    obtain ⟨i1, i2⟩ := ih (by omega)
    obtain ⟨w1, w2, w3⟩ := ptk_w (hok k (by omega) (by omega))
    have hb := blk_len (T := T) (k := k)
    refine ⟨?_, fun u hu => ?_⟩
    · rw [tks_s, wtL_a, prL, List.length_append, List.length_append, Int.zero_add]
      have : wtL [T (k : Int)] = wtk (T k) := by unfold wtL; simp
      omega
    · rw [prL] at hu
      rcases List.mem_append.mp hu with hu | hu
      · exact i2 u hu
      · rcases List.mem_append.mp hu with hu | hu
        · unfold blk at hu
          split at hu
          · rw [List.mem_singleton.mp hu]; decide
          · exact absurd hu (by simp)
        · exact w3 u hu
section
variable {L d a r len : Nat} {f F t g : Mem} {T : Int → Int} {Q : Option TV → Wd → Prop}
theorem s_Pr_isApart (hT : isT a) (hl : t a 1 ≤ 1000) {k : Nat} (hk : k ≤ 1000) : VV L (d + 2) m_Pr_isApart 0 [some (tA a), some (tI k), none, none] [] (WW f t g) Q = Q (some (tI (bB (apP (tok t a) k)))) (WW f t g) := by
  have a0 := xT_0 hT
  have w1 : w32 ((k : Int) - 1) = (k : Int) - 1 := w32_id (by omega) (by omega)
  have w2 : w32 ((k : Int) - 2) = (k : Int) - 2 := w32_id (by omega) (by omega)
  have st : VV L (d + 2) m_Pr_isApart 0 [some (tA a), some (tI k), none, none] [] (WW f t g) Q = VV L (d + 2) m_Pr_isApart 14 [some (tA a), some (tI k), some (tI (tok t a k)), some (tI (tok t a ((k : Int) - 1)))] [] (WW f t g) Q := by
    simp only [u_Pr_isApart_0, u_Pr_isApart_1, u_Pr_isApart_2, u_Pr_isApart_5, u_Pr_isApart_6, u_Pr_isApart_7, u_Pr_isApart_8, u_Pr_isApart_9, u_Pr_isApart_10, u_Pr_isApart_13, xT_h1, ne_eq, not_false_eq_true, not_true_eq_false, true_and, and_true, true_or, or_true, eq_self, Option.toList_some, Option.toList_none, List.cons_append, List.nil_append, tc_0, tc_I, tc_L, tc_A, Nat.reduceAdd, Nat.reduceLeDiff, Nat.reduceEqDiff, Int.reduceEq, Int.reduceLT, Int.reduceLE, Int.reduceNeg, Int.reduceToNat, Int.cast_ofNat_Int, if_true, if_false, and_self, or_self, ite_self, bI_0, bI_1, bI_01, Bool.false_eq_true, reduceCtorEq, a0, hT, s_Tx_token hT hl, w1]
  rw [st]
  unfold apP
  generalize hx : tok t a k = x
  generalize hy : tok t a ((k : Int) - 1) = y
  by_cases h1 : x = 59 ∨ x = 93 ∨ x = 41 ∨ x = 91
  · rw [if_pos h1, bB_f]
    rcases h1 with rfl | rfl | rfl | rfl <;> simp only [u_Pr_isApart_14, u_Pr_isApart_15, u_Pr_isApart_17, u_Pr_isApart_20, u_Pr_isApart_21, u_Pr_isApart_23, u_Pr_isApart_26, u_Pr_isApart_27, u_Pr_isApart_29, u_Pr_isApart_32, u_Pr_isApart_33, u_Pr_isApart_35, u_Pr_isApart_38, u_Pr_isApart_39, ne_eq, not_false_eq_true, not_true_eq_false, true_and, and_true, true_or, or_true, eq_self, Option.toList_some, Option.toList_none, List.cons_append, List.nil_append, tc_0, tc_I, tc_L, tc_A, Nat.reduceAdd, Nat.reduceLeDiff, Nat.reduceEqDiff, Int.reduceEq, Int.reduceLT, Int.reduceLE, Int.reduceNeg, Int.reduceToNat, Int.cast_ofNat_Int, if_true, if_false, and_self, or_self, ite_self, bI_0, bI_1, bI_01, Bool.false_eq_true, reduceCtorEq]
  · rw [if_neg h1]
    have n1 : ¬ x = 59 := fun h => h1 (Or.inl h)
    have n2 : ¬ x = 93 := fun h => h1 (Or.inr (Or.inl h))
    have n3 : ¬ x = 41 := fun h => h1 (Or.inr (Or.inr (Or.inl h)))
    have n4 : ¬ x = 91 := fun h => h1 (Or.inr (Or.inr (Or.inr h)))
    by_cases h2 : y = 45
    · rw [if_pos h2]
      simp only [u_Pr_isApart_14, u_Pr_isApart_15, u_Pr_isApart_17, u_Pr_isApart_20, u_Pr_isApart_21, u_Pr_isApart_23, u_Pr_isApart_26, u_Pr_isApart_27, u_Pr_isApart_29, u_Pr_isApart_32, u_Pr_isApart_33, u_Pr_isApart_35, u_Pr_isApart_38, u_Pr_isApart_39, u_Pr_isApart_40, u_Pr_isApart_41, u_Pr_isApart_43, u_Pr_isApart_46, u_Pr_isApart_47, u_Pr_isApart_48, u_Pr_isApart_49, u_Pr_isApart_50, u_Pr_isApart_53, u_Pr_isApart_56, xT_h1, ne_eq, not_false_eq_true, not_true_eq_false, true_and, and_true, true_or, or_true, eq_self, Option.toList_some, Option.toList_none, List.cons_append, List.nil_append, tc_0, tc_I, tc_L, tc_A, Nat.reduceAdd, Nat.reduceLeDiff, Nat.reduceEqDiff, Int.reduceEq, Int.reduceLT, Int.reduceLE, Int.reduceNeg, Int.reduceToNat, Int.cast_ofNat_Int, if_true, if_false, and_self, or_self, ite_self, bI_0, bI_1, bI_01, Bool.false_eq_true, reduceCtorEq, n1, n2, n3, n4, h2, a0, hT, s_Tx_token hT hl, w2, s_Tk_endsFactor, bB_01]
    · rw [if_neg h2]
      by_cases h3 : y = 91 ∨ y = 40 ∨ y = 35
      · rw [decide_eq_false (fun h => h h3), bB_f]
        rcases h3 with rfl | rfl | rfl <;> simp only [u_Pr_isApart_14, u_Pr_isApart_15, u_Pr_isApart_17, u_Pr_isApart_20, u_Pr_isApart_21, u_Pr_isApart_23, u_Pr_isApart_26, u_Pr_isApart_27, u_Pr_isApart_29, u_Pr_isApart_32, u_Pr_isApart_33, u_Pr_isApart_35, u_Pr_isApart_38, u_Pr_isApart_39, u_Pr_isApart_40, u_Pr_isApart_41, u_Pr_isApart_43, u_Pr_isApart_46, u_Pr_isApart_47, u_Pr_isApart_48, u_Pr_isApart_49, u_Pr_isApart_50, u_Pr_isApart_53, u_Pr_isApart_56, u_Pr_isApart_57, u_Pr_isApart_58, u_Pr_isApart_60, u_Pr_isApart_63, u_Pr_isApart_64, u_Pr_isApart_66, u_Pr_isApart_69, u_Pr_isApart_70, u_Pr_isApart_72, u_Pr_isApart_75, u_Pr_isApart_76, u_Pr_isApart_79, u_Pr_isApart_80, ne_eq, not_false_eq_true, not_true_eq_false, true_and, and_true, true_or, or_true, eq_self, Option.toList_some, Option.toList_none, List.cons_append, List.nil_append, tc_0, tc_I, tc_L, tc_A, Nat.reduceAdd, Nat.reduceLeDiff, Nat.reduceEqDiff, Int.reduceEq, Int.reduceLT, Int.reduceLE, Int.reduceNeg, Int.reduceToNat, Int.cast_ofNat_Int, if_true, if_false, and_self, or_self, ite_self, bI_0, bI_1, bI_01, Bool.false_eq_true, reduceCtorEq, n1, n2, n3, n4]
      · rw [decide_eq_true h3, bB_t]
        have m1 : ¬ y = 91 := fun h => h3 (Or.inl h)
        have m2 : ¬ y = 40 := fun h => h3 (Or.inr (Or.inl h))
        have m3 : ¬ y = 35 := fun h => h3 (Or.inr (Or.inr h))
        simp only [u_Pr_isApart_14, u_Pr_isApart_15, u_Pr_isApart_17, u_Pr_isApart_20, u_Pr_isApart_21, u_Pr_isApart_23, u_Pr_isApart_26, u_Pr_isApart_27, u_Pr_isApart_29, u_Pr_isApart_32, u_Pr_isApart_33, u_Pr_isApart_35, u_Pr_isApart_38, u_Pr_isApart_39, u_Pr_isApart_40, u_Pr_isApart_41, u_Pr_isApart_43, u_Pr_isApart_46, u_Pr_isApart_47, u_Pr_isApart_48, u_Pr_isApart_49, u_Pr_isApart_50, u_Pr_isApart_53, u_Pr_isApart_56, u_Pr_isApart_57, u_Pr_isApart_58, u_Pr_isApart_60, u_Pr_isApart_63, u_Pr_isApart_64, u_Pr_isApart_66, u_Pr_isApart_69, u_Pr_isApart_70, u_Pr_isApart_72, u_Pr_isApart_75, u_Pr_isApart_76, u_Pr_isApart_79, u_Pr_isApart_80, ne_eq, not_false_eq_true, not_true_eq_false, true_and, and_true, true_or, or_true, eq_self, Option.toList_some, Option.toList_none, List.cons_append, List.nil_append, tc_0, tc_I, tc_L, tc_A, Nat.reduceAdd, Nat.reduceLeDiff, Nat.reduceEqDiff, Int.reduceEq, Int.reduceLT, Int.reduceLE, Int.reduceNeg, Int.reduceToNat, Int.cast_ofNat_Int, if_true, if_false, and_self, or_self, ite_self, bI_0, bI_1, bI_01, Bool.false_eq_true, reduceCtorEq, n1, n2, n3, n4, h2, m1, m2, m3]
theorem l_prC (hT : isT a) (hl : t a 1 = (len : Int)) (hl1 : len ≤ 1000) (hok : ∀ k : Int, 0 ≤ k → k < len → okT (tok t a k)) (hw : wtL (tks (tok t a) 0 len) ≤ 4000) : ∀ (m k : Nat), k + m = len → VV L (d + 3) m_Pr_write 7 [some (tA 16), some (tA a), some (tI k)] [] (WW (PSt 17 16 1 f (prL (tok t a) k)) t g) Q = Q none (WW (PSt 17 16 1 f (prL (tok t a) len)) t g) := by
  have a0 := xT_0 hT
  have ll : t a 1 ≤ 1000 := by rw [hl]; exact Int.ofNat_le.mpr hl1
  have mono : ∀ m k, k + m = len → wtL (tks (tok t a) 0 k) ≤ 4000 := by
    intro m
    induction m with
    | zero => intro k hk; rw [show k = len by omega]; exact hw
    | succ m ih =>
      intro k hk
      have := ih (k + 1) (by omega)
      rw [tks_s, wtL_a] at this
      omega
  intro m
  induction m with
  | zero =>
    intro k hk
    obtain rfl : k = len := by omega
    rw [u_Pr_write_7]
    simp only [u_Pr_write_8, u_Pr_write_9, u_Pr_write_12, u_Pr_write_48, xT_h1, ne_eq, not_false_eq_true, not_true_eq_false, true_and, and_true, true_or, or_true, eq_self, Option.toList_some, Option.toList_none, List.cons_append, List.nil_append, tc_0, tc_I, tc_L, tc_A, Nat.reduceAdd, Nat.reduceLeDiff, Nat.reduceEqDiff, Int.reduceEq, Int.reduceLT, Int.reduceLE, Int.reduceNeg, Int.reduceToNat, Int.cast_ofNat_Int, if_true, if_false, and_self, or_self, ite_self, bI_0, bI_1, bI_01, Bool.false_eq_true, reduceCtorEq, a0, hT, s_Tx_length hT, hl, show (k : Int) ≤ k from Int.le_refl _]
  | succ m ih =>
    intro k hk
    have kl : k < len := by omega
    have nl : ¬ (len : Int) ≤ k := by omega
    have wk : w32 ((k : Int) + 1) = ((k + 1 : Nat) : Int) := by rw [w32_id (by omega) (by omega)]; omega
    have hko := hok k (Int.natCast_nonneg k) (by omega)
    have hlen := Nat.le_trans (prL_w hok k (by omega)).1 (mono (m + 1) k hk)
    rw [← ih (k + 1) (by omega), prL, u_Pr_write_7]
    unfold blk
    by_cases hb : 0 < k ∧ apP (tok t a) k = true
    · rw [if_pos hb, ← List.append_assoc]
      have hl2 : (prL (tok t a) k ++ [32]).length + 10 ≤ 4096 := by rw [List.length_append, List.length_singleton]; omega
      have k1 : ¬ (k : Int) ≤ 0 := by omega
      simp only [u_Pr_write_8, u_Pr_write_9, u_Pr_write_12, u_Pr_write_15, u_Pr_write_16, u_Pr_write_19, u_Pr_write_20, u_Pr_write_21, u_Pr_write_24, u_Pr_write_27, u_Pr_write_28, u_Pr_write_30, u_Pr_write_33, u_Pr_write_34, u_Pr_write_35, u_Pr_write_36, u_Pr_write_39, u_Pr_write_42, u_Pr_write_45, xT_h1, h1_16, ne_eq, not_false_eq_true, not_true_eq_false, true_and, and_true, true_or, or_true, eq_self, Option.toList_some, Option.toList_none, List.cons_append, List.nil_append, tc_0, tc_I, tc_L, tc_A, Nat.reduceAdd, Nat.reduceLeDiff, Nat.reduceEqDiff, Int.reduceEq, Int.reduceLT, Int.reduceLE, Int.reduceNeg, Int.reduceToNat, Int.cast_ofNat_Int, if_true, if_false, and_self, or_self, ite_self, bI_0, bI_1, bI_01, Bool.false_eq_true, reduceCtorEq, a0, hT, s_Tx_length hT, hl, nl, k1, s_Pr_isApart hT ll (show k ≤ 1000 by omega), hb.2, bB_t, s_Pr_add (show (prL (tok t a) k).length < 4096 by omega) (show 32 ≤ (32 : Int) ∧ (32 : Int) ≤ 126 by decide), s_Tx_token hT ll, s_Pr_writeToken hko hl2, wk]
    · rw [if_neg hb, List.nil_append]
      have hl2 : (prL (tok t a) k).length + 10 ≤ 4096 := by omega
      by_cases k0 : 0 < k
      · have k1 : ¬ (k : Int) ≤ 0 := by omega
        have ha : apP (tok t a) k = false := by
          cases h : apP (tok t a) k
          · rfl
          · exact absurd ⟨k0, h⟩ hb
        simp only [u_Pr_write_8, u_Pr_write_9, u_Pr_write_12, u_Pr_write_15, u_Pr_write_16, u_Pr_write_19, u_Pr_write_20, u_Pr_write_21, u_Pr_write_24, u_Pr_write_27, u_Pr_write_28, u_Pr_write_30, u_Pr_write_33, u_Pr_write_34, u_Pr_write_35, u_Pr_write_36, u_Pr_write_39, u_Pr_write_42, u_Pr_write_45, xT_h1, h1_16, ne_eq, not_false_eq_true, not_true_eq_false, true_and, and_true, true_or, or_true, eq_self, Option.toList_some, Option.toList_none, List.cons_append, List.nil_append, tc_0, tc_I, tc_L, tc_A, Nat.reduceAdd, Nat.reduceLeDiff, Nat.reduceEqDiff, Int.reduceEq, Int.reduceLT, Int.reduceLE, Int.reduceNeg, Int.reduceToNat, Int.cast_ofNat_Int, if_true, if_false, and_self, or_self, ite_self, bI_0, bI_1, bI_01, Bool.false_eq_true, reduceCtorEq, a0, hT, s_Tx_length hT, hl, nl, k1, s_Pr_isApart hT ll (show k ≤ 1000 by omega), ha, bB_f, s_Tx_token hT ll, s_Pr_writeToken hko hl2, wk]
      · have k1 : (k : Int) ≤ 0 := by omega
        simp only [u_Pr_write_8, u_Pr_write_9, u_Pr_write_12, u_Pr_write_15, u_Pr_write_16, u_Pr_write_19, u_Pr_write_20, u_Pr_write_21, u_Pr_write_24, u_Pr_write_27, u_Pr_write_28, u_Pr_write_30, u_Pr_write_33, u_Pr_write_34, u_Pr_write_35, u_Pr_write_36, u_Pr_write_39, u_Pr_write_42, u_Pr_write_45, xT_h1, h1_16, ne_eq, not_false_eq_true, not_true_eq_false, true_and, and_true, true_or, or_true, eq_self, Option.toList_some, Option.toList_none, List.cons_append, List.nil_append, tc_0, tc_I, tc_L, tc_A, Nat.reduceAdd, Nat.reduceLeDiff, Nat.reduceEqDiff, Int.reduceEq, Int.reduceLT, Int.reduceLE, Int.reduceNeg, Int.reduceToNat, Int.cast_ofNat_Int, if_true, if_false, and_self, or_self, ite_self, bI_0, bI_1, bI_01, Bool.false_eq_true, reduceCtorEq, a0, hT, s_Tx_length hT, hl, nl, k1, s_Tx_token hT ll, s_Pr_writeToken hko hl2, wk]
end
