/-! The constructors: the class's object, first part -/
def inSt (m : Mem) : Mem := fun b k => if b = 19 then (if k = 0 then 20 else if k = 1 then 21 else if k = 2 then 22 else if k = 3 then 27 else m 19 k) else if b = 22 then (if k < 4 then ((23 + k : Nat) : Int) else 0) else if 19 < b ∧ b ≤ 27 then 0 else m b k
/-- a cell of zeros made behind n -/
def zN (n : Nat) (m : Mem) : Mem := fun b k => if b = n + 1 then 0 else m b k
theorem znw1 {n : Nat} {m : Mem} : znew (n, m) 1 (fun _ _ => 0) = (n + 1, zN n m) := by
  refine Prod.ext rfl ?_
  funext b k
  show (if n < b ∧ b ≤ n + 1 then 0 else m b k) = (if b = n + 1 then 0 else m b k)
  by_cases h : b = n + 1
  · rw [if_pos (by omega), if_pos h]
  · rw [if_neg (by omega), if_neg h]
section
variable {L d : Nat} {m : Mem} {Q : Option TV → Wd → Prop}
theorem s_St_init' : VV L (d + 1) m_St_init 0 [some (tA 19)] [] (19, m) Q = Q none (27, inSt m) := s_St_init
theorem inT_1 {a k : Nat} (h : 1 < a) : inT a m 1 k = m 1 k := by unfold inT; rw [if_neg (by omega), if_neg (by omega)]
theorem inSt_1 {k : Nat} : inSt m 1 k = m 1 k := by unfold inSt; simp
theorem inS_1 {k : Nat} : inS m 1 k = m 1 k := by unfold inS; simp
theorem zN_1 {n k : Nat} (h : 1 ≤ n) : zN n m 1 k = m 1 k := by unfold zN; rw [if_neg (by omega)]
def inA (m : Mem) : Mem := mset (inS (zN 27 (mset (inSt (zN 18 (mset (mset (mset (zN 17 (mset (mset (zN 16 (zN 15 (mset (mset (mset (zN 14 (zN 13 (mset (inT 4 (zN 3 (mset (zN 2 (mset (zN 1 m) 1 0 2)) 1 2 3))) 1 3 4))) 14 0 15) 14 1 4) 1 4 14))) 16 0 17) 1 5 16)) 18 0 4) 18 1 4) 1 6 18))) 1 7 19))) 1 8 28
theorem s_T_initA : VV L (d + 3) m_T_init 0 [some (tA 1), none] [] (1, m) Q = VV L (d + 3) m_T_init 98 [some (tA 1), some (tI 0)] [] (48, inA m) Q := by
  unfold inA
  simp only [u_T_init_0, u_T_init_1, u_T_init_4, u_T_init_5, u_T_init_8, u_T_init_10, u_T_init_13, u_T_init_14, u_T_init_16, u_T_init_19, u_T_init_22, u_T_init_23, u_T_init_26, u_T_init_27, u_T_init_30, u_T_init_33, u_T_init_34, u_T_init_37, u_T_init_38, u_T_init_39, u_T_init_42, u_T_init_45, u_T_init_48, u_T_init_49, u_T_init_52, u_T_init_53, u_T_init_56, u_T_init_59, u_T_init_60, u_T_init_63, u_T_init_64, u_T_init_65, u_T_init_68, u_T_init_71, u_T_init_74, u_T_init_75, u_T_init_78, u_T_init_79, u_T_init_82, u_T_init_85, u_T_init_86, u_T_init_89, u_T_init_90, u_T_init_93, u_T_init_96, u_T_init_97, u_Re_init_0, u_Re_init_1, u_Re_init_4, u_Re_init_5, u_Re_init_8, u_Re_init_10, u_Re_init_13, u_Re_init_14, u_Re_init_15, u_Re_init_18, u_Pr_init_0, u_Pr_init_1, u_Pr_init_4, u_Pr_init_5, u_Pr_init_8, u_Pr_init_10, u_Pr_init_13, u_Sh_init_0, u_Sh_init_1, u_Sh_init_4, u_Sh_init_5, u_Sh_init_6, u_Sh_init_9, u_Sh_init_10, u_Sh_init_11, u_Sh_init_14, u_JObj_init_0, ne_eq, not_false_eq_true, not_true_eq_false, true_and, and_true, true_or, or_true, eq_self, Option.toList_some, Option.toList_none, List.cons_append, List.nil_append, tc_0, tc_I, tc_L, tc_A, Nat.reduceAdd, Nat.reduceLeDiff, Nat.reduceEqDiff, Int.reduceEq, Int.reduceLT, Int.reduceLE, Int.reduceNeg, Int.reduceToNat, Int.cast_ofNat_Int, if_true, if_false, and_self, or_self, ite_self, bI_0, bI_1, bI_01, Bool.false_eq_true, reduceCtorEq, s_Tx_init (show isT 4 from Or.inl rfl), s_St_init', s_Sf_init, znw1, sx_1, sx_2, sx_3, sx_4, sx_14, sx_15, sx_16, sx_17, sx_18, sx_19, sx_28, Nat.reduceAdd, Int.reduceToNat, Int.reduceLE, true_and, and_self, ne_eq, not_false_eq_true, rd, inT_1 (show 1 < 4 by decide), inSt_1, inS_1, zN_1 (show 1 ≤ 13 by decide), zN_1 (show 1 ≤ 14 by decide), zN_1 (show 1 ≤ 15 by decide), zN_1 (show 1 ≤ 16 by decide), zN_1 (show 1 ≤ 17 by decide), zN_1 (show 1 ≤ 18 by decide), Nat.reduceEqDiff, and_false, false_and, if_true, if_false]
end
