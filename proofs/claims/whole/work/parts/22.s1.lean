/-! Token: what its methods answer -/
def bB (b : Bool) : Int := if b = true then 1 else 0
theorem bB_0 {b : Bool} : (bB b = 0) = ¬ b = true := by cases b <;> simp [bB]
theorem bB_1 {b : Bool} : (bB b = 1) = (b = true) := by cases b <;> simp [bB]
theorem bB_01 {b : Bool} : (bB b = 0 ∨ bB b = 1) = True := by cases b <;> simp [bB]
theorem bB_t : bB true = 1 := rfl
theorem bB_f : bB false = 0 := rfl
def kNum (t : Int) : Bool := decide (t < 0)
def kName (t : Int) : Bool := decide (97 ≤ t ∧ t ≤ 122)
def kRow (t : Int) : Bool := decide (65 ≤ t ∧ t ≤ 70)
def kStk (t : Int) : Bool := decide (83 ≤ t ∧ t ≤ 86)
def kKind (t : Int) : Bool := decide (217 ≤ t ∧ t ≤ 221)
def kPair (t : Int) : Bool := decide (128 ≤ t ∧ t ≤ 133)
def kSum (t : Int) : Bool := decide (t = 43 ∨ t = 45 ∨ t = 94 ∨ t = 124)
def kPro (t : Int) : Bool := decide (t = 42 ∨ t = 47 ∨ t = 37 ∨ t = 38)
def kOrd (t : Int) : Bool := decide (214 ≤ t ∧ t ≤ 216)
def kPart (t : Int) : Bool := decide (t = 208 ∨ t = 211 ∨ t = 215 ∨ t = 216)
def kBeg (t : Int) : Bool := decide ((97 ≤ t ∧ t ≤ 122) ∨ (65 ≤ t ∧ t ≤ 70) ∨ (200 ≤ t ∧ t ≤ 207) ∨ t = 208 ∨ t = 211 ∨ t = 215 ∨ t = 216 ∨ t = 214)
def kEnd (t : Int) : Bool := decide (t < 0 ∨ (97 ≤ t ∧ t ≤ 122) ∨ (65 ≤ t ∧ t ≤ 70) ∨ t = 93 ∨ t = 41)
def nIns (t : Int) : Int := if t = 215 then 2 else if t = 208 ∨ t = 211 ∨ t = 216 then 3 else 1
def undo (t : Int) : Int := if (128 ≤ t ∧ t ≤ 131) ∨ (200 ≤ t ∧ t ≤ 207) then t + 1 - 2 * (t % 2) else t
section
variable {L d : Nat} {w : Wd} {Q : Option TV → Wd → Prop} {t : Int}
theorem s_Tk_isNumber : VV L d m_Tk_isNumber 0 [some (tI t)] [] w Q = Q (some (tI (bB (kNum t)))) w := by
  simp only [u_Tk_isNumber_0, u_Tk_isNumber_1, u_Tk_isNumber_4, u_Tk_isNumber_5, u_Tk_isNumber_8, u_Tk_isNumber_9, ne_eq, not_false_eq_true, not_true_eq_false, true_and, and_true, true_or, or_true, eq_self, Option.toList_some, Option.toList_none, List.cons_append, List.nil_append, tc_0, tc_I, tc_L, tc_A, Nat.reduceAdd, Nat.reduceLeDiff, Nat.reduceEqDiff, Int.reduceEq, Int.reduceLT, Int.reduceLE, Int.reduceNeg, Int.reduceToNat, Int.cast_ofNat_Int, if_true, if_false, and_self, or_self, ite_self, bI_0, bI_1, bI_01, Bool.false_eq_true, reduceCtorEq]
  simp only [bB, kNum, decide_eq_true_eq]
  (repeat' split) <;> first | rfl | omega
theorem s_Tk_isName : VV L d m_Tk_isName 0 [some (tI t)] [] w Q = Q (some (tI (bB (kName t)))) w := by
  simp only [u_Tk_isName_0, u_Tk_isName_1, u_Tk_isName_3, u_Tk_isName_6, u_Tk_isName_7, u_Tk_isName_9, u_Tk_isName_12, u_Tk_isName_13, u_Tk_isName_16, u_Tk_isName_17, ne_eq, not_false_eq_true, not_true_eq_false, true_and, and_true, true_or, or_true, eq_self, Option.toList_some, Option.toList_none, List.cons_append, List.nil_append, tc_0, tc_I, tc_L, tc_A, Nat.reduceAdd, Nat.reduceLeDiff, Nat.reduceEqDiff, Int.reduceEq, Int.reduceLT, Int.reduceLE, Int.reduceNeg, Int.reduceToNat, Int.cast_ofNat_Int, if_true, if_false, and_self, or_self, ite_self, bI_0, bI_1, bI_01, Bool.false_eq_true, reduceCtorEq]
  simp only [bB, kName, decide_eq_true_eq]
  (repeat' split) <;> first | rfl | omega
theorem s_Tk_isRow : VV L d m_Tk_isRow 0 [some (tI t)] [] w Q = Q (some (tI (bB (kRow t)))) w := by
  simp only [u_Tk_isRow_0, u_Tk_isRow_1, u_Tk_isRow_3, u_Tk_isRow_6, u_Tk_isRow_7, u_Tk_isRow_9, u_Tk_isRow_12, u_Tk_isRow_13, u_Tk_isRow_16, u_Tk_isRow_17, ne_eq, not_false_eq_true, not_true_eq_false, true_and, and_true, true_or, or_true, eq_self, Option.toList_some, Option.toList_none, List.cons_append, List.nil_append, tc_0, tc_I, tc_L, tc_A, Nat.reduceAdd, Nat.reduceLeDiff, Nat.reduceEqDiff, Int.reduceEq, Int.reduceLT, Int.reduceLE, Int.reduceNeg, Int.reduceToNat, Int.cast_ofNat_Int, if_true, if_false, and_self, or_self, ite_self, bI_0, bI_1, bI_01, Bool.false_eq_true, reduceCtorEq]
  simp only [bB, kRow, decide_eq_true_eq]
  (repeat' split) <;> first | rfl | omega
theorem s_Tk_isStack : VV L d m_Tk_isStack 0 [some (tI t)] [] w Q = Q (some (tI (bB (kStk t)))) w := by
  simp only [u_Tk_isStack_0, u_Tk_isStack_1, u_Tk_isStack_3, u_Tk_isStack_6, u_Tk_isStack_7, u_Tk_isStack_9, u_Tk_isStack_12, u_Tk_isStack_13, u_Tk_isStack_16, u_Tk_isStack_17, ne_eq, not_false_eq_true, not_true_eq_false, true_and, and_true, true_or, or_true, eq_self, Option.toList_some, Option.toList_none, List.cons_append, List.nil_append, tc_0, tc_I, tc_L, tc_A, Nat.reduceAdd, Nat.reduceLeDiff, Nat.reduceEqDiff, Int.reduceEq, Int.reduceLT, Int.reduceLE, Int.reduceNeg, Int.reduceToNat, Int.cast_ofNat_Int, if_true, if_false, and_self, or_self, ite_self, bI_0, bI_1, bI_01, Bool.false_eq_true, reduceCtorEq]
  simp only [bB, kStk, decide_eq_true_eq]
  (repeat' split) <;> first | rfl | omega
theorem s_Tk_isKind : VV L d m_Tk_isKind 0 [some (tI t)] [] w Q = Q (some (tI (bB (kKind t)))) w := by
  simp only [u_Tk_isKind_0, u_Tk_isKind_1, u_Tk_isKind_4, u_Tk_isKind_7, u_Tk_isKind_8, u_Tk_isKind_11, u_Tk_isKind_14, u_Tk_isKind_15, u_Tk_isKind_18, u_Tk_isKind_19, ne_eq, not_false_eq_true, not_true_eq_false, true_and, and_true, true_or, or_true, eq_self, Option.toList_some, Option.toList_none, List.cons_append, List.nil_append, tc_0, tc_I, tc_L, tc_A, Nat.reduceAdd, Nat.reduceLeDiff, Nat.reduceEqDiff, Int.reduceEq, Int.reduceLT, Int.reduceLE, Int.reduceNeg, Int.reduceToNat, Int.cast_ofNat_Int, if_true, if_false, and_self, or_self, ite_self, bI_0, bI_1, bI_01, Bool.false_eq_true, reduceCtorEq]
  simp only [bB, kKind, decide_eq_true_eq]
  (repeat' split) <;> first | rfl | omega
theorem s_Tk_isPair : VV L d m_Tk_isPair 0 [some (tI t)] [] w Q = Q (some (tI (bB (kPair t)))) w := by
  simp only [u_Tk_isPair_0, u_Tk_isPair_1, u_Tk_isPair_4, u_Tk_isPair_7, u_Tk_isPair_8, u_Tk_isPair_11, u_Tk_isPair_14, u_Tk_isPair_15, u_Tk_isPair_18, u_Tk_isPair_19, ne_eq, not_false_eq_true, not_true_eq_false, true_and, and_true, true_or, or_true, eq_self, Option.toList_some, Option.toList_none, List.cons_append, List.nil_append, tc_0, tc_I, tc_L, tc_A, Nat.reduceAdd, Nat.reduceLeDiff, Nat.reduceEqDiff, Int.reduceEq, Int.reduceLT, Int.reduceLE, Int.reduceNeg, Int.reduceToNat, Int.cast_ofNat_Int, if_true, if_false, and_self, or_self, ite_self, bI_0, bI_1, bI_01, Bool.false_eq_true, reduceCtorEq]
  simp only [bB, kPair, decide_eq_true_eq]
  (repeat' split) <;> first | rfl | omega
theorem s_Tk_isSumSign : VV L d m_Tk_isSumSign 0 [some (tI t)] [] w Q = Q (some (tI (bB (kSum t)))) w := by
  simp only [u_Tk_isSumSign_0, u_Tk_isSumSign_1, u_Tk_isSumSign_3, u_Tk_isSumSign_6, u_Tk_isSumSign_7, u_Tk_isSumSign_9, u_Tk_isSumSign_12, u_Tk_isSumSign_13, u_Tk_isSumSign_15, u_Tk_isSumSign_18, u_Tk_isSumSign_19, u_Tk_isSumSign_21, u_Tk_isSumSign_24, u_Tk_isSumSign_25, u_Tk_isSumSign_28, u_Tk_isSumSign_29, ne_eq, not_false_eq_true, not_true_eq_false, true_and, and_true, true_or, or_true, eq_self, Option.toList_some, Option.toList_none, List.cons_append, List.nil_append, tc_0, tc_I, tc_L, tc_A, Nat.reduceAdd, Nat.reduceLeDiff, Nat.reduceEqDiff, Int.reduceEq, Int.reduceLT, Int.reduceLE, Int.reduceNeg, Int.reduceToNat, Int.cast_ofNat_Int, if_true, if_false, and_self, or_self, ite_self, bI_0, bI_1, bI_01, Bool.false_eq_true, reduceCtorEq]
  simp only [bB, kSum, decide_eq_true_eq]
  (repeat' split) <;> first | rfl | omega
theorem s_Tk_isProductSign : VV L d m_Tk_isProductSign 0 [some (tI t)] [] w Q = Q (some (tI (bB (kPro t)))) w := by
  simp only [u_Tk_isProductSign_0, u_Tk_isProductSign_1, u_Tk_isProductSign_3, u_Tk_isProductSign_6, u_Tk_isProductSign_7, u_Tk_isProductSign_9, u_Tk_isProductSign_12, u_Tk_isProductSign_13, u_Tk_isProductSign_15, u_Tk_isProductSign_18, u_Tk_isProductSign_19, u_Tk_isProductSign_21, u_Tk_isProductSign_24, u_Tk_isProductSign_25, u_Tk_isProductSign_28, u_Tk_isProductSign_29, ne_eq, not_false_eq_true, not_true_eq_false, true_and, and_true, true_or, or_true, eq_self, Option.toList_some, Option.toList_none, List.cons_append, List.nil_append, tc_0, tc_I, tc_L, tc_A, Nat.reduceAdd, Nat.reduceLeDiff, Nat.reduceEqDiff, Int.reduceEq, Int.reduceLT, Int.reduceLE, Int.reduceNeg, Int.reduceToNat, Int.cast_ofNat_Int, if_true, if_false, and_self, or_self, ite_self, bI_0, bI_1, bI_01, Bool.false_eq_true, reduceCtorEq]
  simp only [bB, kPro, decide_eq_true_eq]
  (repeat' split) <;> first | rfl | omega
theorem s_Tk_isOrdinary : VV L d m_Tk_isOrdinary 0 [some (tI t)] [] w Q = Q (some (tI (bB (kOrd t)))) w := by
  simp only [u_Tk_isOrdinary_0, u_Tk_isOrdinary_1, u_Tk_isOrdinary_4, u_Tk_isOrdinary_7, u_Tk_isOrdinary_8, u_Tk_isOrdinary_11, u_Tk_isOrdinary_14, u_Tk_isOrdinary_15, u_Tk_isOrdinary_18, u_Tk_isOrdinary_19, ne_eq, not_false_eq_true, not_true_eq_false, true_and, and_true, true_or, or_true, eq_self, Option.toList_some, Option.toList_none, List.cons_append, List.nil_append, tc_0, tc_I, tc_L, tc_A, Nat.reduceAdd, Nat.reduceLeDiff, Nat.reduceEqDiff, Int.reduceEq, Int.reduceLT, Int.reduceLE, Int.reduceNeg, Int.reduceToNat, Int.cast_ofNat_Int, if_true, if_false, and_self, or_self, ite_self, bI_0, bI_1, bI_01, Bool.false_eq_true, reduceCtorEq]
  simp only [bB, kOrd, decide_eq_true_eq]
  (repeat' split) <;> first | rfl | omega
theorem s_Tk_hasParts : VV L d m_Tk_hasParts 0 [some (tI t)] [] w Q = Q (some (tI (bB (kPart t)))) w := by
  simp only [u_Tk_hasParts_0, u_Tk_hasParts_1, u_Tk_hasParts_4, u_Tk_hasParts_7, u_Tk_hasParts_8, u_Tk_hasParts_11, u_Tk_hasParts_14, u_Tk_hasParts_15, u_Tk_hasParts_18, u_Tk_hasParts_21, u_Tk_hasParts_22, u_Tk_hasParts_25, u_Tk_hasParts_28, u_Tk_hasParts_29, u_Tk_hasParts_32, u_Tk_hasParts_33, ne_eq, not_false_eq_true, not_true_eq_false, true_and, and_true, true_or, or_true, eq_self, Option.toList_some, Option.toList_none, List.cons_append, List.nil_append, tc_0, tc_I, tc_L, tc_A, Nat.reduceAdd, Nat.reduceLeDiff, Nat.reduceEqDiff, Int.reduceEq, Int.reduceLT, Int.reduceLE, Int.reduceNeg, Int.reduceToNat, Int.cast_ofNat_Int, if_true, if_false, and_self, or_self, ite_self, bI_0, bI_1, bI_01, Bool.false_eq_true, reduceCtorEq]
  simp only [bB, kPart, decide_eq_true_eq]
  (repeat' split) <;> first | rfl | omega
theorem s_Tk_numberOf : VV L d m_Tk_numberOf 0 [some (tI t)] [] w Q = Q (some (tI (w32 (-1 - t)))) w := by
  simp only [u_Tk_numberOf_0, u_Tk_numberOf_1, u_Tk_numberOf_2, u_Tk_numberOf_3, ne_eq, not_false_eq_true, not_true_eq_false, true_and, and_true, true_or, or_true, eq_self, Option.toList_some, Option.toList_none, List.cons_append, List.nil_append, tc_0, tc_I, tc_L, tc_A, Nat.reduceAdd, Nat.reduceLeDiff, Nat.reduceEqDiff, Int.reduceEq, Int.reduceLT, Int.reduceLE, Int.reduceNeg, Int.reduceToNat, Int.cast_ofNat_Int, if_true, if_false, and_self, or_self, ite_self, bI_0, bI_1, bI_01, Bool.false_eq_true, reduceCtorEq]
theorem s_Tk_beginsStep : VV L (d + 1) m_Tk_beginsStep 0 [some (tI t)] [] w Q = Q (some (tI (bB (kBeg t)))) w := by
  simp only [u_Tk_beginsStep_0, u_Tk_beginsStep_1, u_Tk_beginsStep_4, u_Tk_beginsStep_7, u_Tk_beginsStep_8, u_Tk_beginsStep_11, u_Tk_beginsStep_14, u_Tk_beginsStep_15, u_Tk_beginsStep_18, u_Tk_beginsStep_21, u_Tk_beginsStep_22, u_Tk_beginsStep_25, u_Tk_beginsStep_28, u_Tk_beginsStep_29, u_Tk_beginsStep_32, u_Tk_beginsStep_35, u_Tk_beginsStep_36, u_Tk_beginsStep_39, u_Tk_beginsStep_42, u_Tk_beginsStep_43, u_Tk_beginsStep_46, u_Tk_beginsStep_47, ne_eq, not_false_eq_true, not_true_eq_false, true_and, and_true, true_or, or_true, eq_self, Option.toList_some, Option.toList_none, List.cons_append, List.nil_append, tc_0, tc_I, tc_L, tc_A, Nat.reduceAdd, Nat.reduceLeDiff, Nat.reduceEqDiff, Int.reduceEq, Int.reduceLT, Int.reduceLE, Int.reduceNeg, Int.reduceToNat, Int.cast_ofNat_Int, if_true, if_false, and_self, or_self, ite_self, bI_0, bI_1, bI_01, Bool.false_eq_true, reduceCtorEq, s_Tk_isName, s_Tk_isRow, s_Tk_hasParts, bB_0]
  simp only [bB, kBeg, kName, kRow, kPart, decide_eq_true_eq]
  (repeat' split) <;> first | rfl | omega
theorem s_Tk_endsFactor : VV L (d + 1) m_Tk_endsFactor 0 [some (tI t)] [] w Q = Q (some (tI (bB (kEnd t)))) w := by
  simp only [u_Tk_endsFactor_0, u_Tk_endsFactor_1, u_Tk_endsFactor_4, u_Tk_endsFactor_7, u_Tk_endsFactor_8, u_Tk_endsFactor_11, u_Tk_endsFactor_14, u_Tk_endsFactor_15, u_Tk_endsFactor_18, u_Tk_endsFactor_21, u_Tk_endsFactor_22, u_Tk_endsFactor_24, u_Tk_endsFactor_27, u_Tk_endsFactor_28, u_Tk_endsFactor_30, u_Tk_endsFactor_33, u_Tk_endsFactor_34, u_Tk_endsFactor_37, u_Tk_endsFactor_38, ne_eq, not_false_eq_true, not_true_eq_false, true_and, and_true, true_or, or_true, eq_self, Option.toList_some, Option.toList_none, List.cons_append, List.nil_append, tc_0, tc_I, tc_L, tc_A, Nat.reduceAdd, Nat.reduceLeDiff, Nat.reduceEqDiff, Int.reduceEq, Int.reduceLT, Int.reduceLE, Int.reduceNeg, Int.reduceToNat, Int.cast_ofNat_Int, if_true, if_false, and_self, or_self, ite_self, bI_0, bI_1, bI_01, Bool.false_eq_true, reduceCtorEq, s_Tk_isName, s_Tk_isRow, s_Tk_isNumber, bB_0]
  simp only [bB, kEnd, kName, kRow, kNum, decide_eq_true_eq]
  (repeat' split) <;> first | rfl | omega
theorem s_Tk_instructionsOf : VV L (d + 1) m_Tk_instructionsOf 0 [some (tI t)] [] w Q = Q (some (tI (nIns t))) w := by
  simp only [u_Tk_instructionsOf_0, u_Tk_instructionsOf_1, u_Tk_instructionsOf_4, u_Tk_instructionsOf_7, u_Tk_instructionsOf_8, u_Tk_instructionsOf_9, u_Tk_instructionsOf_10, u_Tk_instructionsOf_13, u_Tk_instructionsOf_16, u_Tk_instructionsOf_17, u_Tk_instructionsOf_20, u_Tk_instructionsOf_21, ne_eq, not_false_eq_true, not_true_eq_false, true_and, and_true, true_or, or_true, eq_self, Option.toList_some, Option.toList_none, List.cons_append, List.nil_append, tc_0, tc_I, tc_L, tc_A, Nat.reduceAdd, Nat.reduceLeDiff, Nat.reduceEqDiff, Int.reduceEq, Int.reduceLT, Int.reduceLE, Int.reduceNeg, Int.reduceToNat, Int.cast_ofNat_Int, if_true, if_false, and_self, or_self, ite_self, bI_0, bI_1, bI_01, Bool.false_eq_true, reduceCtorEq, s_Tk_hasParts, bB_0]
  simp only [nIns, kPart, decide_eq_true_eq]
  (repeat' split) <;> first | rfl | omega
theorem undo_x (h : (128 ≤ t ∧ t ≤ 131) ∨ (200 ≤ t ∧ t ≤ 207)) : o32 (fun x y => x ^^^ y) t 1 = t + 1 - 2 * (t % 2) := by
  have : t = 128 ∨ t = 129 ∨ t = 130 ∨ t = 131 ∨ t = 200 ∨ t = 201 ∨ t = 202 ∨ t = 203 ∨ t = 204 ∨ t = 205 ∨ t = 206 ∨ t = 207 := by omega
  rcases this with rfl | rfl | rfl | rfl | rfl | rfl | rfl | rfl | rfl | rfl | rfl | rfl <;> decide
theorem s_Tk_undoing : VV L d m_Tk_undoing 0 [some (tI t)] [] w Q = Q (some (tI (undo t))) w := by
  simp only [u_Tk_undoing_0, u_Tk_undoing_1, u_Tk_undoing_4, u_Tk_undoing_7, u_Tk_undoing_8, u_Tk_undoing_11, u_Tk_undoing_14, u_Tk_undoing_15, u_Tk_undoing_18, u_Tk_undoing_21, u_Tk_undoing_22, u_Tk_undoing_25, u_Tk_undoing_28, u_Tk_undoing_29, u_Tk_undoing_30, u_Tk_undoing_31, u_Tk_undoing_34, u_Tk_undoing_35, ne_eq, not_false_eq_true, not_true_eq_false, true_and, and_true, true_or, or_true, eq_self, Option.toList_some, Option.toList_none, List.cons_append, List.nil_append, tc_0, tc_I, tc_L, tc_A, Nat.reduceAdd, Nat.reduceLeDiff, Nat.reduceEqDiff, Int.reduceEq, Int.reduceLT, Int.reduceLE, Int.reduceNeg, Int.reduceToNat, Int.cast_ofNat_Int, if_true, if_false, and_self, or_self, ite_self, bI_0, bI_1, bI_01, Bool.false_eq_true, reduceCtorEq]
  by_cases h : (128 ≤ t ∧ t ≤ 131) ∨ (200 ≤ t ∧ t ≤ 207)
  · rw [undo_x h]
    simp only [undo, if_pos h]
    (repeat' split) <;> first | rfl | omega
  · simp only [undo, if_neg h]
    (repeat' split) <;> first | rfl | omega
end
