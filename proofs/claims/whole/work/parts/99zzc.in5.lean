/-! The constructors: the class's object, second part -/
def inB (m : Mem) : Nat → Mem
  | 0 => m
  | k + 1 => mset (inT (49 + 10 * k) (zN (48 + 10 * k) (inB m k))) 3 k ((49 + 10 * k : Nat) : Int)
section
variable {L d : Nat} {m : Mem} {Q : Option TV → Wd → Prop}
theorem inB_1 {j : Nat} : ∀ k, inB m k 1 j = m 1 j := by
  intro k
  induction k with
  | zero => rfl
  | succ k ih => rw [inB, rd, if_neg (by omega), inT_1 (by omega), zN_1 (by omega)]; exact ih
theorem isT_k {k : Nat} (h : k < 10) : isT (49 + 10 * k) := by unfold isT; omega
theorem l_T_init (hm : m 1 2 = 3) : ∀ (q k : Nat), k + q = 10 → VV L (d + 2) m_T_init 98 [some (tA 1), some (tI k)] [] (48 + 10 * k, inB m k) Q = VV L (d + 2) m_T_init 123 [some (tA 1), some (tI ((10 : Nat) : Int))] [] (148, inB m 10) Q := by
  intro q
  induction q with
  | zero =>
    intro k hk
    obtain rfl : k = 10 := by omega
    rw [u_T_init_98]
    simp only [u_T_init_99, u_T_init_101, ne_eq, not_false_eq_true, not_true_eq_false, true_and, and_true, true_or, or_true, eq_self, Option.toList_some, Option.toList_none, List.cons_append, List.nil_append, tc_0, tc_I, tc_L, tc_A, Nat.reduceAdd, Nat.reduceLeDiff, Nat.reduceEqDiff, Int.reduceEq, Int.reduceLT, Int.reduceLE, Int.reduceNeg, Int.reduceToNat, Int.cast_ofNat_Int, if_true, if_false, and_self, or_self, ite_self, bI_0, bI_1, bI_01, Bool.false_eq_true, reduceCtorEq, show (10 : Int) ≤ ((10 : Nat) : Int) by decide]
  | succ q ih =>
    intro k hk
    have hk10 : k < 10 := by omega
    have wk : w32 ((k : Int) + 1) = ((k + 1 : Nat) : Int) := by rw [w32_id (by omega) (by omega)]; omega
    have hT := isT_k hk10
    have e2 : inB m k 1 2 = 3 := by rw [inB_1]; exact hm
    have s1 : sh L (48 + 10 * k + 1) = (1, 16) := by rw [show 48 + 10 * k + 1 = 49 + 10 * k by omega]; exact (shT hT).1
    have hI : ∀ (D : Nat) (m : Mem) Q, VV L (D + 1) m_Tx_init 0 [some (tA (48 + 10 * k + 1))] [] (48 + 10 * k + 1, m) Q = Q none (48 + 10 * (k + 1), inT (49 + 10 * k) m) := fun D m Q => by
      rw [show 48 + 10 * k + 1 = 49 + 10 * k by omega, s_Tx_init hT, show 49 + 10 * k + 9 = 48 + 10 * (k + 1) by omega]
    have hn0 : ¬ 48 + 10 * k + 1 = 0 := by omega
    have ec : ((48 + 10 * k + 1 : Nat) : Int) = ((49 + 10 * k : Nat) : Int) := by omega
    have k0 : (0 : Int) ≤ k := by omega
    have k1 : (k : Int) < 10 := by omega
    have k2 : ¬ (10 : Int) ≤ k := by omega
    rw [← ih (k + 1) (by omega), u_T_init_98]
    simp only [u_T_init_99, u_T_init_101, u_T_init_104, u_T_init_105, u_T_init_108, u_T_init_109, u_T_init_112, u_T_init_113, u_T_init_116, u_T_init_117, u_T_init_120, ne_eq, not_false_eq_true, not_true_eq_false, true_and, and_true, true_or, or_true, eq_self, Option.toList_some, Option.toList_none, List.cons_append, List.nil_append, tc_0, tc_I, tc_L, tc_A, Nat.reduceAdd, Nat.reduceLeDiff, Nat.reduceEqDiff, Int.reduceEq, Int.reduceLT, Int.reduceLE, Int.reduceNeg, Int.reduceToNat, Int.cast_ofNat_Int, if_true, if_false, and_self, or_self, ite_self, bI_0, bI_1, bI_01, Bool.false_eq_true, reduceCtorEq, sx_1, sx_3, e2, znw1, s1, hI, hn0, Int.reduceToNat, k0, k1, k2, Int.toNat_natCast, wk, ec, inB, ne_eq, not_false_eq_true, true_and, and_self, Nat.succ_ne_zero, Nat.add_eq_zero_iff, and_false]
end
