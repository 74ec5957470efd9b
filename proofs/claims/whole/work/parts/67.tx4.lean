/-! Text: passBegin, of simple steps -/
section
variable {L d a c : Nat} {f t g : Mem} {Q : Option TV → Wd → Prop} {i j k : Int}
theorem l_Tx_pair (hT : isT a) (hl : t a 1 ≤ 1000) (hj : j < t a 1) (hp : kPair (tok t a j) = true) : ∀ (m : Nat) (k : Int), 0 ≤ k → k ≤ j → j - k ≤ m → (∀ q, k ≤ q → q < j → ¬ kPair (tok t a q) = true) → VV L (d + 1) m_Tx_pairBehind 2 [some (tA a), some (tI i), some (tI k)] [] (WW f t g) Q = Q (some (tI j)) (WW f t g) := by
  intro m
  induction m with
  | zero =>
    intro k h0 h1 h2 h3
    have : k = j := by omega
    subst this
    rw [u_Tx_pairBehind_2]
    simp only [u_Tx_pairBehind_0, u_Tx_pairBehind_1, u_Tx_pairBehind_3, u_Tx_pairBehind_4, u_Tx_pairBehind_7, u_Tx_pairBehind_10, u_Tx_pairBehind_11, u_Tx_pairBehind_12, u_Tx_pairBehind_15, u_Tx_pairBehind_18, u_Tx_pairBehind_21, u_Tx_pairBehind_22, u_Tx_pairBehind_23, u_Tx_pairBehind_26, u_Tx_pairBehind_29, u_Tx_pairBehind_30, u_Tx_pairBehind_33, xT_0, xT_h1, xT_g1, xT_p1, ne_eq, not_false_eq_true, not_true_eq_false, true_and, and_true, true_or, or_true, eq_self, Option.toList_some, Option.toList_none, List.cons_append, List.nil_append, tc_0, tc_I, tc_L, tc_A, Nat.reduceAdd, Nat.reduceLeDiff, Nat.reduceEqDiff, Int.reduceEq, Int.reduceLT, Int.reduceLE, Int.reduceNeg, Int.reduceToNat, Int.cast_ofNat_Int, if_true, if_false, and_self, or_self, ite_self, bI_0, bI_1, bI_01, Bool.false_eq_true, reduceCtorEq, hT, show ¬ t a 1 ≤ k by omega, s_Tx_token hT hl, s_Tk_isPair, bB_0, ite_not, hp]
  | succ m ih =>
    intro k h0 h1 h2 h3
    rw [u_Tx_pairBehind_2]
    by_cases e : k = j
    · subst e
      simp only [u_Tx_pairBehind_0, u_Tx_pairBehind_1, u_Tx_pairBehind_3, u_Tx_pairBehind_4, u_Tx_pairBehind_7, u_Tx_pairBehind_10, u_Tx_pairBehind_11, u_Tx_pairBehind_12, u_Tx_pairBehind_15, u_Tx_pairBehind_18, u_Tx_pairBehind_21, u_Tx_pairBehind_22, u_Tx_pairBehind_23, u_Tx_pairBehind_26, u_Tx_pairBehind_29, u_Tx_pairBehind_30, u_Tx_pairBehind_33, xT_0, xT_h1, xT_g1, xT_p1, ne_eq, not_false_eq_true, not_true_eq_false, true_and, and_true, true_or, or_true, eq_self, Option.toList_some, Option.toList_none, List.cons_append, List.nil_append, tc_0, tc_I, tc_L, tc_A, Nat.reduceAdd, Nat.reduceLeDiff, Nat.reduceEqDiff, Int.reduceEq, Int.reduceLT, Int.reduceLE, Int.reduceNeg, Int.reduceToNat, Int.cast_ofNat_Int, if_true, if_false, and_self, or_self, ite_self, bI_0, bI_1, bI_01, Bool.false_eq_true, reduceCtorEq, hT, show ¬ t a 1 ≤ k by omega, s_Tx_token hT hl, s_Tk_isPair, bB_0, ite_not, hp]
    · simp only [u_Tx_pairBehind_0, u_Tx_pairBehind_1, u_Tx_pairBehind_3, u_Tx_pairBehind_4, u_Tx_pairBehind_7, u_Tx_pairBehind_10, u_Tx_pairBehind_11, u_Tx_pairBehind_12, u_Tx_pairBehind_15, u_Tx_pairBehind_18, u_Tx_pairBehind_21, u_Tx_pairBehind_22, u_Tx_pairBehind_23, u_Tx_pairBehind_26, u_Tx_pairBehind_29, u_Tx_pairBehind_30, u_Tx_pairBehind_33, xT_0, xT_h1, xT_g1, xT_p1, ne_eq, not_false_eq_true, not_true_eq_false, true_and, and_true, true_or, or_true, eq_self, Option.toList_some, Option.toList_none, List.cons_append, List.nil_append, tc_0, tc_I, tc_L, tc_A, Nat.reduceAdd, Nat.reduceLeDiff, Nat.reduceEqDiff, Int.reduceEq, Int.reduceLT, Int.reduceLE, Int.reduceNeg, Int.reduceToNat, Int.cast_ofNat_Int, if_true, if_false, and_self, or_self, ite_self, bI_0, bI_1, bI_01, Bool.false_eq_true, reduceCtorEq, hT, show ¬ t a 1 ≤ k by omega, s_Tx_token hT hl, s_Tk_isPair, bB_0, ite_not, h3 k (by omega) (by omega), w32_id (show (-2147483648 : Int) ≤ k + 1 by omega) (show k + 1 < (2147483648 : Int) by omega)]
      exact ih (k + 1) (by omega) (by omega) (by omega) (fun q q1 q2 => h3 q (by omega) q2)
theorem s_Tx_pairBehind (hT : isT a) (hl : t a 1 ≤ 1000) (hi : 0 ≤ i) (hij : i ≤ j) (hj : j < t a 1) (hp : kPair (tok t a j) = true) (hn : ∀ q, i ≤ q → q < j → ¬ kPair (tok t a q) = true) : VV L (d + 1) m_Tx_pairBehind 0 [some (tA a), some (tI i), none] [] (WW f t g) Q = Q (some (tI j)) (WW f t g) := by
  simp only [u_Tx_pairBehind_0, u_Tx_pairBehind_1, u_Tx_pairBehind_3, u_Tx_pairBehind_4, u_Tx_pairBehind_7, u_Tx_pairBehind_10, u_Tx_pairBehind_11, u_Tx_pairBehind_12, u_Tx_pairBehind_15, u_Tx_pairBehind_18, u_Tx_pairBehind_21, u_Tx_pairBehind_22, u_Tx_pairBehind_23, u_Tx_pairBehind_26, u_Tx_pairBehind_29, u_Tx_pairBehind_30, u_Tx_pairBehind_33, xT_0, xT_h1, xT_g1, xT_p1, ne_eq, not_false_eq_true, not_true_eq_false, true_and, and_true, true_or, or_true, eq_self, Option.toList_some, Option.toList_none, List.cons_append, List.nil_append, tc_0, tc_I, tc_L, tc_A, Nat.reduceAdd, Nat.reduceLeDiff, Nat.reduceEqDiff, Int.reduceEq, Int.reduceLT, Int.reduceLE, Int.reduceNeg, Int.reduceToNat, Int.cast_ofNat_Int, if_true, if_false, and_self, or_self, ite_self, bI_0, bI_1, bI_01, Bool.false_eq_true, reduceCtorEq]
  exact l_Tx_pair hT hl hj hp (j - i).toNat i hi hij (by omega) hn
/-- outerSteps, as a step begins -/
def ou1 (t : Mem) (a : Nat) : Mem := if t a 11 = 0 then mset t a 12 (t a 12 + 1) else t
theorem ou1_o {b k : Nat} (h : ¬ (b = a ∧ k = 12)) : ou1 t a b k = t b k := by
  unfold ou1; split
  · simp only [rd]; rw [if_neg h]
  · rfl
theorem tok_ou : tok (ou1 t a) a = tok t a := by
  funext q; unfold tok; rw [ou1_o (by omega), ou1_o (by omega)]
theorem topH_ou : topH (ou1 t a) a = topH t a := by
  unfold topH; rw [ou1_o (by omega), ou1_o (by omega), ou1_o (by omega)]
theorem tok_en {op ro s b h : Int} {q : Nat} : tok (mset (en4 t a op ro s b) (a + 6) q h) a = tok t a := by
  have h1 : (mset (en4 t a op ro s b) (a + 6) q h) a 1 = t a 1 := by rw [rd, if_neg (by omega)]; exact en4_a (by omega)
  have h2 : ∀ j, (mset (en4 t a op ro s b) (a + 6) q h) (a + 1) j = t (a + 1) j := by
    intro j; rw [rd, if_neg (by omega)]
    simp only [en4, rd]
    rw [if_neg (by omega), if_neg (by omega), if_neg (by omega), if_neg (by omega), if_neg (by omega)]
  funext x; unfold tok; rw [h1, h2]
end
