/-! Doing a step: cut, turned, leaves -/
def cutI (k v : Int) : Int := if k = 0 then w32 v else if k = 2 then (w32 v).bmod 65536 else if k = 3 then (w32 v).bmod 256 else if k = 4 then (w32 v) % 65536 else v
theorem w32_w32 {v : Int} : w32 (w32 v) = w32 v := by unfold w32; exact Int.bmod_bmod
theorem w32_b {v : Int} : -2147483648 ≤ w32 v ∧ w32 v < 2147483648 := by unfold w32; rw [Int.bmod_def]; split <;> omega
theorem cut_cut {k v : Int} : cutI k (cutI k v) = cutI k v := by
  unfold cutI
  by_cases h0 : k = 0
  · simp only [h0, if_true]; exact w32_w32
  · by_cases h2 : k = 2
    · simp only [h2, if_true, if_false, Int.reduceEq]
      rw [w32_id (x := (w32 v).bmod 65536) (by rw [Int.bmod_def]; split <;> omega) (by rw [Int.bmod_def]; split <;> omega)]
      exact Int.bmod_bmod
    · by_cases h3 : k = 3
      · simp only [h3, if_true, if_false, Int.reduceEq]
        rw [w32_id (x := (w32 v).bmod 256) (by rw [Int.bmod_def]; split <;> omega) (by rw [Int.bmod_def]; split <;> omega)]
        exact Int.bmod_bmod
      · by_cases h4 : k = 4
        · simp only [h4, if_true, if_false, Int.reduceEq]
          rw [w32_id (by omega) (by omega)]; omega
        · simp only [h0, h2, h3, h4, if_false]
theorem i64_tn {x : Int64} (h : x.toBitVec.toNat < 9223372036854775808) : x.toInt = (x.toBitVec.toNat : Int) := by
  rw [← Int64.toInt_toBitVec, BitVec.toInt_eq_toNat_cond, if_pos (by omega)]
theorem and16 {v : Int} : o64 (fun x y => x &&& y) v 65535 = (w32 v) % 65536 := by
  unfold o64
  have h1 : (Int64.ofInt v &&& Int64.ofInt 65535).toBitVec.toNat = (v % 18446744073709551616).toNat % 65536 := by
    rw [Int64.toBitVec_and, BitVec.toNat_and, Int64.toBitVec_ofInt, Int64.toBitVec_ofInt, BitVec.toNat_ofInt, BitVec.toNat_ofInt]
    have e : ((65535 : Int) % ((2 ^ 64 : Nat) : Int)).toNat = 2 ^ 16 - 1 := by decide
    rw [e, Nat.and_two_pow_sub_one_eq_mod]
    rfl
  show (Int64.ofInt v &&& Int64.ofInt 65535).toInt = _
  rw [i64_tn (by rw [h1]; omega), h1]
  unfold w32
  rw [Int.bmod_def]
  split <;> omega
section
variable {L d : Nat} {f t g : Mem} {w : Wd} {Q : Option TV → Wd → Prop} {k v n i s x : Int}
theorem s_Sf_cut (h0 : 0 ≤ k) (h4 : k ≤ 4) : VV L d m_Sf_cut 0 [some (tI k), some (tL v), none] [] w Q = Q (some (tL (cutI k v))) w := by
  unfold cutI
  have : k = 0 ∨ k = 1 ∨ k = 2 ∨ k = 3 ∨ k = 4 := by omega
  rcases this with rfl | rfl | rfl | rfl | rfl
  all_goals simp only [u_Sf_cut_0, u_Sf_cut_1, u_Sf_cut_36, u_Sf_cut_37, u_Sf_cut_38, u_Sf_cut_39, u_Sf_cut_40, u_Sf_cut_41, u_Sf_cut_42, u_Sf_cut_43, u_Sf_cut_44, u_Sf_cut_45, u_Sf_cut_46, u_Sf_cut_47, u_Sf_cut_48, u_Sf_cut_49, u_Sf_cut_50, u_Sf_cut_51, u_Sf_cut_52, u_Sf_cut_53, u_Sf_cut_54, u_Sf_cut_55, u_Sf_cut_56, h1_28, ne_eq, not_false_eq_true, not_true_eq_false, true_and, and_true, true_or, or_true, eq_self, Option.toList_some, Option.toList_none, List.cons_append, List.nil_append, tc_0, tc_I, tc_L, tc_A, Nat.reduceAdd, Nat.reduceLeDiff, Nat.reduceEqDiff, Int.reduceEq, Int.reduceLT, Int.reduceLE, Int.reduceNeg, Int.reduceToNat, Int.cast_ofNat_Int, if_true, if_false, and_self, or_self, ite_self, bI_0, bI_1, bI_01, Bool.false_eq_true, reduceCtorEq]
theorem s_M_cut (h0 : 0 ≤ k) (h4 : k ≤ 4) : VV L d m_M_cut 0 [some (tI k), some (tL v), none] [] w Q = Q (some (tL (cutI k v))) w := by
  unfold cutI
  have : k = 0 ∨ k = 1 ∨ k = 2 ∨ k = 3 ∨ k = 4 := by omega
  rcases this with rfl | rfl | rfl | rfl | rfl
  all_goals simp only [u_M_cut_0, u_M_cut_1, u_M_cut_32, u_M_cut_33, u_M_cut_34, u_M_cut_35, u_M_cut_36, u_M_cut_37, u_M_cut_38, u_M_cut_39, u_M_cut_40, u_M_cut_41, u_M_cut_42, u_M_cut_43, u_M_cut_44, u_M_cut_45, u_M_cut_46, u_M_cut_47, u_M_cut_48, u_M_cut_49, u_M_cut_52, u_M_cut_53, h1_156, ne_eq, not_false_eq_true, not_true_eq_false, true_and, and_true, true_or, or_true, eq_self, Option.toList_some, Option.toList_none, List.cons_append, List.nil_append, tc_0, tc_I, tc_L, tc_A, Nat.reduceAdd, Nat.reduceLeDiff, Nat.reduceEqDiff, Int.reduceEq, Int.reduceLT, Int.reduceLE, Int.reduceNeg, Int.reduceToNat, Int.cast_ofNat_Int, if_true, if_false, and_self, or_self, ite_self, bI_0, bI_1, bI_01, Bool.false_eq_true, reduceCtorEq, and16]
def bits (k : Int) : Int := if k = 1 then 64 else if k = 0 then 32 else if k = 3 then 8 else 16
theorem s_M_bitsOf : VV L d m_M_bitsOf 0 [some (tI k)] [] w Q = Q (some (tI (bits k))) w := by
  unfold bits
  simp only [u_M_bitsOf_0, u_M_bitsOf_1, u_M_bitsOf_4, u_M_bitsOf_6, u_M_bitsOf_9, u_M_bitsOf_10, u_M_bitsOf_11, u_M_bitsOf_14, u_M_bitsOf_16, u_M_bitsOf_19, u_M_bitsOf_20, u_M_bitsOf_21, u_M_bitsOf_24, u_M_bitsOf_26, u_M_bitsOf_29, u_M_bitsOf_31, h1_156, ne_eq, not_false_eq_true, not_true_eq_false, true_and, and_true, true_or, or_true, eq_self, Option.toList_some, Option.toList_none, List.cons_append, List.nil_append, tc_0, tc_I, tc_L, tc_A, Nat.reduceAdd, Nat.reduceLeDiff, Nat.reduceEqDiff, Int.reduceEq, Int.reduceLT, Int.reduceLE, Int.reduceNeg, Int.reduceToNat, Int.cast_ofNat_Int, if_true, if_false, and_self, or_self, ite_self, bI_0, bI_1, bI_01, Bool.false_eq_true, reduceCtorEq]
  (repeat' split) <;> first | rfl | omega
theorem s_Wo_numberAt (hs : s = 26 + n * 12 + i) (h0 : 0 ≤ n ∧ n < 15) (h1 : 0 ≤ i ∧ i < 12) : VV L d m_Wo_numberAt 0 [some (tI s)] [] w Q = Q (some (tI n)) w := by
  have e1 : w32 (s - 26) = n * 12 + i := by rw [w32_id (by omega) (by omega)]; omega
  have e2 : (n * 12 + i).tdiv 12 = n := by rw [Int.tdiv_eq_ediv_of_nonneg (by omega)]; omega
  simp only [u_Wo_numberAt_0, u_Wo_numberAt_1, u_Wo_numberAt_3, u_Wo_numberAt_4, u_Wo_numberAt_6, u_Wo_numberAt_7, h1_149, ne_eq, not_false_eq_true, not_true_eq_false, true_and, and_true, true_or, or_true, eq_self, Option.toList_some, Option.toList_none, List.cons_append, List.nil_append, tc_0, tc_I, tc_L, tc_A, Nat.reduceAdd, Nat.reduceLeDiff, Nat.reduceEqDiff, Int.reduceEq, Int.reduceLT, Int.reduceLE, Int.reduceNeg, Int.reduceToNat, Int.cast_ofNat_Int, if_true, if_false, and_self, or_self, ite_self, bI_0, bI_1, bI_01, Bool.false_eq_true, reduceCtorEq, e1, e2, w32_id (show (-2147483648 : Int) ≤ n by omega) (show n < (2147483648 : Int) by omega)]
theorem s_Wo_itemAt (hs : s = 26 + n * 12 + i) (h0 : 0 ≤ n ∧ n < 15) (h1 : 0 ≤ i ∧ i < 12) : VV L d m_Wo_itemAt 0 [some (tI s)] [] w Q = Q (some (tI i)) w := by
  have e1 : w32 (s - 26) = n * 12 + i := by rw [w32_id (by omega) (by omega)]; omega
  have e2 : (n * 12 + i).tmod 12 = i := by rw [Int.tmod_eq_emod_of_nonneg (by omega)]; omega
  simp only [u_Wo_itemAt_0, u_Wo_itemAt_1, u_Wo_itemAt_3, u_Wo_itemAt_4, u_Wo_itemAt_6, u_Wo_itemAt_7, h1_149, ne_eq, not_false_eq_true, not_true_eq_false, true_and, and_true, true_or, or_true, eq_self, Option.toList_some, Option.toList_none, List.cons_append, List.nil_append, tc_0, tc_I, tc_L, tc_A, Nat.reduceAdd, Nat.reduceLeDiff, Nat.reduceEqDiff, Int.reduceEq, Int.reduceLT, Int.reduceLE, Int.reduceNeg, Int.reduceToNat, Int.cast_ofNat_Int, if_true, if_false, and_self, or_self, ite_self, bI_0, bI_1, bI_01, Bool.false_eq_true, reduceCtorEq, e1, e2]
/-- turning: by is what e leaves by the bits -/
def rotI (v by_ b : Int) : Int := if by_ = 0 then v else (let lo := if b = 64 then v else o64 (fun x y => x &&& y) v (w64 (h64 (fun x y => x <<< (y.toInt64 &&& 63)) 1 b - 1)); o64 (fun x y => x ||| y) (h64 (fun x y => x <<< (y.toInt64 &&& 63)) lo by_) (h64 (fun x y => (x.toUInt64 >>> (y.toInt64.toUInt64 &&& Int64.toUInt64 63)).toInt64) lo (b - by_)))
theorem i32_of {v : Int} : (Int32.ofInt v).toBitVec.toNat = (v % 4294967296).toNat := by
  rw [Int32.toBitVec_ofInt, BitVec.toNat_ofInt]; rfl
theorem and_lo {v : Int} {b : Int} (hb : b = 8 ∨ b = 16 ∨ b = 32 ∨ b = 64) : o32 (fun x y => x &&& y) (w32 v) (b - 1) = v % b := by
  have key : ∀ m : Nat, m < 31 → o32 (fun x y => x &&& y) (w32 v) ((2 ^ m - 1 : Nat) : Int) = v % ((2 ^ m : Nat) : Int) → True := fun _ _ _ => trivial
  unfold o32
  have gen : ∀ m : Nat, m ≤ 6 → ((Int32.ofInt (w32 v)) &&& (Int32.ofInt ((2 ^ m - 1 : Nat) : Int))).toBitVec.toNat = ((w32 v) % 4294967296).toNat % 2 ^ m := by
    intro m hm
    rw [Int32.toBitVec_and, BitVec.toNat_and, i32_of, i32_of]
    have e : ((((2 ^ m - 1 : Nat) : Int)) % 4294967296).toNat = 2 ^ m - 1 := by
      have : m = 0 ∨ m = 1 ∨ m = 2 ∨ m = 3 ∨ m = 4 ∨ m = 5 ∨ m = 6 := by omega
      rcases this with rfl | rfl | rfl | rfl | rfl | rfl | rfl <;> decide
    rw [e, Nat.and_two_pow_sub_one_eq_mod]
  have hw := w32_b (v := v)
  have hwm : (w32 v) % 4294967296 = v % 4294967296 := by
    unfold w32; rw [Int.bmod_def]; split <;> omega
  show ((Int32.ofInt (w32 v)) &&& (Int32.ofInt (b - 1))).toInt = _
  rcases hb with rfl | rfl | rfl | rfl
  · have g := gen 3 (by omega)
    have e : Int32.ofInt ((8 : Int) - 1) = Int32.ofInt ((2 ^ 3 - 1 : Nat) : Int) := by decide
    rw [e, i32_tn (by rw [g]; omega), g, hwm]; omega
  · have g := gen 4 (by omega)
    have e : Int32.ofInt ((16 : Int) - 1) = Int32.ofInt ((2 ^ 4 - 1 : Nat) : Int) := by decide
    rw [e, i32_tn (by rw [g]; omega), g, hwm]; omega
  · have g := gen 5 (by omega)
    have e : Int32.ofInt ((32 : Int) - 1) = Int32.ofInt ((2 ^ 5 - 1 : Nat) : Int) := by decide
    rw [e, i32_tn (by rw [g]; omega), g, hwm]; omega
  · have g := gen 6 (by omega)
    have e : Int32.ofInt ((64 : Int) - 1) = Int32.ofInt ((2 ^ 6 - 1 : Nat) : Int) := by decide
    rw [e, i32_tn (by rw [g]; omega), g, hwm]; omega
theorem s_Do_turnedLeft {v e b : Int} (hb : b = 8 ∨ b = 16 ∨ b = 32 ∨ b = 64) : VV L d m_Do_turnedLeft 0 [some (tL v), none, some (tL e), none, some (tI b), none, none, none] [] w Q = Q (some (tL (rotI v (e % b) b))) w := by
  have w1 : w32 (b - 1) = b - 1 := w32_id (by omega) (by omega)
  have w2 : w32 (b - e % b) = b - e % b := by rcases hb with rfl | rfl | rfl | rfl <;> exact w32_id (by omega) (by omega)
  unfold rotI
  by_cases h0 : e % b = 0
  · simp only [u_Do_turnedLeft_0, u_Do_turnedLeft_1, u_Do_turnedLeft_2, u_Do_turnedLeft_4, u_Do_turnedLeft_5, u_Do_turnedLeft_6, u_Do_turnedLeft_7, u_Do_turnedLeft_9, u_Do_turnedLeft_11, u_Do_turnedLeft_14, u_Do_turnedLeft_15, u_Do_turnedLeft_16, u_Do_turnedLeft_18, u_Do_turnedLeft_20, u_Do_turnedLeft_23, u_Do_turnedLeft_24, u_Do_turnedLeft_27, u_Do_turnedLeft_28, u_Do_turnedLeft_29, u_Do_turnedLeft_31, u_Do_turnedLeft_32, u_Do_turnedLeft_33, u_Do_turnedLeft_34, u_Do_turnedLeft_35, u_Do_turnedLeft_37, u_Do_turnedLeft_39, u_Do_turnedLeft_41, u_Do_turnedLeft_42, u_Do_turnedLeft_44, u_Do_turnedLeft_46, u_Do_turnedLeft_48, u_Do_turnedLeft_49, u_Do_turnedLeft_50, u_Do_turnedLeft_51, h1_152, ne_eq, not_false_eq_true, not_true_eq_false, true_and, and_true, true_or, or_true, eq_self, Option.toList_some, Option.toList_none, List.cons_append, List.nil_append, tc_0, tc_I, tc_L, tc_A, Nat.reduceAdd, Nat.reduceLeDiff, Nat.reduceEqDiff, Int.reduceEq, Int.reduceLT, Int.reduceLE, Int.reduceNeg, Int.reduceToNat, Int.cast_ofNat_Int, if_true, if_false, and_self, or_self, ite_self, bI_0, bI_1, bI_01, Bool.false_eq_true, reduceCtorEq, w1, and_lo hb, h0]
  · by_cases h64' : b = 64
    · subst h64'
      simp only [u_Do_turnedLeft_0, u_Do_turnedLeft_1, u_Do_turnedLeft_2, u_Do_turnedLeft_4, u_Do_turnedLeft_5, u_Do_turnedLeft_6, u_Do_turnedLeft_7, u_Do_turnedLeft_9, u_Do_turnedLeft_11, u_Do_turnedLeft_14, u_Do_turnedLeft_15, u_Do_turnedLeft_16, u_Do_turnedLeft_18, u_Do_turnedLeft_20, u_Do_turnedLeft_23, u_Do_turnedLeft_24, u_Do_turnedLeft_27, u_Do_turnedLeft_28, u_Do_turnedLeft_29, u_Do_turnedLeft_31, u_Do_turnedLeft_32, u_Do_turnedLeft_33, u_Do_turnedLeft_34, u_Do_turnedLeft_35, u_Do_turnedLeft_37, u_Do_turnedLeft_39, u_Do_turnedLeft_41, u_Do_turnedLeft_42, u_Do_turnedLeft_44, u_Do_turnedLeft_46, u_Do_turnedLeft_48, u_Do_turnedLeft_49, u_Do_turnedLeft_50, u_Do_turnedLeft_51, h1_152, ne_eq, not_false_eq_true, not_true_eq_false, true_and, and_true, true_or, or_true, eq_self, Option.toList_some, Option.toList_none, List.cons_append, List.nil_append, tc_0, tc_I, tc_L, tc_A, Nat.reduceAdd, Nat.reduceLeDiff, Nat.reduceEqDiff, Int.reduceEq, Int.reduceLT, Int.reduceLE, Int.reduceNeg, Int.reduceToNat, Int.cast_ofNat_Int, if_true, if_false, and_self, or_self, ite_self, bI_0, bI_1, bI_01, Bool.false_eq_true, reduceCtorEq, w1, and_lo hb, h0, w2]
    · simp only [u_Do_turnedLeft_0, u_Do_turnedLeft_1, u_Do_turnedLeft_2, u_Do_turnedLeft_4, u_Do_turnedLeft_5, u_Do_turnedLeft_6, u_Do_turnedLeft_7, u_Do_turnedLeft_9, u_Do_turnedLeft_11, u_Do_turnedLeft_14, u_Do_turnedLeft_15, u_Do_turnedLeft_16, u_Do_turnedLeft_18, u_Do_turnedLeft_20, u_Do_turnedLeft_23, u_Do_turnedLeft_24, u_Do_turnedLeft_27, u_Do_turnedLeft_28, u_Do_turnedLeft_29, u_Do_turnedLeft_31, u_Do_turnedLeft_32, u_Do_turnedLeft_33, u_Do_turnedLeft_34, u_Do_turnedLeft_35, u_Do_turnedLeft_37, u_Do_turnedLeft_39, u_Do_turnedLeft_41, u_Do_turnedLeft_42, u_Do_turnedLeft_44, u_Do_turnedLeft_46, u_Do_turnedLeft_48, u_Do_turnedLeft_49, u_Do_turnedLeft_50, u_Do_turnedLeft_51, h1_152, ne_eq, not_false_eq_true, not_true_eq_false, true_and, and_true, true_or, or_true, eq_self, Option.toList_some, Option.toList_none, List.cons_append, List.nil_append, tc_0, tc_I, tc_L, tc_A, Nat.reduceAdd, Nat.reduceLeDiff, Nat.reduceEqDiff, Int.reduceEq, Int.reduceLT, Int.reduceLE, Int.reduceNeg, Int.reduceToNat, Int.cast_ofNat_Int, if_true, if_false, and_self, or_self, ite_self, bI_0, bI_1, bI_01, Bool.false_eq_true, reduceCtorEq, w1, and_lo hb, h0, h64', w2]
def chgI (op v e b : Int) : Int := if op = 128 then w64 (v + e) else if op = 129 then w64 (v - e) else if op = 132 then o64 (fun x y => x ^^^ y) v e else if op = 130 then rotI v (e % b) b else rotI v (-e % b) b
theorem bits_4 : bits k = 8 ∨ bits k = 16 ∨ bits k = 32 ∨ bits k = 64 := by unfold bits; (repeat' split) <;> omega
theorem s_Do_changed {op v e b : Int} (hb : b = 8 ∨ b = 16 ∨ b = 32 ∨ b = 64) (ho : 128 ≤ op ∧ op ≤ 132) : VV L (d + 1) m_Do_changed 0 [some (tI op), some (tL v), none, some (tL e), none, some (tI b)] [] w Q = Q (some (tL (chgI op v e b))) w := by
  have e1 : w64 (-e) % b = -e % b := by
    unfold w64
    rw [Int.bmod_def]
    rcases hb with rfl | rfl | rfl | rfl <;> split <;> omega
  unfold chgI
  have : op = 128 ∨ op = 129 ∨ op = 130 ∨ op = 131 ∨ op = 132 := by omega
  rcases this with rfl | rfl | rfl | rfl | rfl
  all_goals simp only [u_Do_changed_0, u_Do_changed_1, u_Do_changed_36, u_Do_changed_37, u_Do_changed_38, u_Do_changed_39, u_Do_changed_40, u_Do_changed_41, u_Do_changed_42, u_Do_changed_43, u_Do_changed_44, u_Do_changed_45, u_Do_changed_46, u_Do_changed_47, u_Do_changed_48, u_Do_changed_49, u_Do_changed_50, u_Do_changed_52, u_Do_changed_55, u_Do_changed_56, u_Do_changed_57, u_Do_changed_58, u_Do_changed_59, u_Do_changed_61, u_Do_changed_64, h1_152, ne_eq, not_false_eq_true, not_true_eq_false, true_and, and_true, true_or, or_true, eq_self, Option.toList_some, Option.toList_none, List.cons_append, List.nil_append, tc_0, tc_I, tc_L, tc_A, Nat.reduceAdd, Nat.reduceLeDiff, Nat.reduceEqDiff, Int.reduceEq, Int.reduceLT, Int.reduceLE, Int.reduceNeg, Int.reduceToNat, Int.cast_ofNat_Int, if_true, if_false, and_self, or_self, ite_self, bI_0, bI_1, bI_01, Bool.false_eq_true, reduceCtorEq, s_Do_turnedLeft hb, e1]
theorem s_M_turned {v e b : Int} (h0 : 0 ≤ k) (h4 : k ≤ 4) (hb : b = bits k) : VV L (d + 1) m_M_turned 0 [some (tI k), some (tL v), none, some (tL e), none, none, none, none, none] [] w Q = Q (some (tL (if e % b = 0 then v else cutI k (rotI v (e % b) b)))) w := by
  have b4 := bits_4 (k := k)
  rw [← hb] at b4
  have hm : e.tmod b = if 0 ≤ e ∨ e % b = 0 then e % b else e % b - b := by
    rcases b4 with h | h | h | h <;> subst h <;> rw [Int.tmod_eq_emod] <;> (repeat' split) <;> omega
  have w1 : w32 (e.tmod b) = e.tmod b := by
    rw [hm]; rcases b4 with h | h | h | h <;> subst h <;> split <;> exact w32_id (by omega) (by omega)
  have b0 : ¬ b = 0 := by omega
  have w2 : w32 (b - e % b) = b - e % b := by rcases b4 with h | h | h | h <;> subst h <;> exact w32_id (by omega) (by omega)
  have h31 : ∀ q : Int, q = e % b → VV L (d + 1) m_M_turned 31 [some (tI k), some (tL v), none, some (tL e), none, some (tI b), some (tI q), none, none] [] w Q = Q (some (tL (if e % b = 0 then v else cutI k (rotI v (e % b) b)))) w := by
    intro q hq
    subst hq
    unfold rotI
    by_cases z : e % b = 0
    · simp only [u_M_turned_31, u_M_turned_33, u_M_turned_36, u_M_turned_37, u_M_turned_38, u_M_turned_40, u_M_turned_42, u_M_turned_45, u_M_turned_46, u_M_turned_49, u_M_turned_50, u_M_turned_51, u_M_turned_53, u_M_turned_54, u_M_turned_55, u_M_turned_56, u_M_turned_57, u_M_turned_59, u_M_turned_60, u_M_turned_62, u_M_turned_64, u_M_turned_65, u_M_turned_67, u_M_turned_69, u_M_turned_71, u_M_turned_72, u_M_turned_73, u_M_turned_74, u_M_turned_77, ne_eq, not_false_eq_true, not_true_eq_false, true_and, and_true, true_or, or_true, eq_self, Option.toList_some, Option.toList_none, List.cons_append, List.nil_append, tc_0, tc_I, tc_L, tc_A, Nat.reduceAdd, Nat.reduceLeDiff, Nat.reduceEqDiff, Int.reduceEq, Int.reduceLT, Int.reduceLE, Int.reduceNeg, Int.reduceToNat, Int.cast_ofNat_Int, if_true, if_false, and_self, or_self, ite_self, bI_0, bI_1, bI_01, Bool.false_eq_true, reduceCtorEq, z]
    · by_cases h64' : b = 64
      · subst h64'
        simp only [u_M_turned_31, u_M_turned_33, u_M_turned_36, u_M_turned_37, u_M_turned_38, u_M_turned_40, u_M_turned_42, u_M_turned_45, u_M_turned_46, u_M_turned_49, u_M_turned_50, u_M_turned_51, u_M_turned_53, u_M_turned_54, u_M_turned_55, u_M_turned_56, u_M_turned_57, u_M_turned_59, u_M_turned_60, u_M_turned_62, u_M_turned_64, u_M_turned_65, u_M_turned_67, u_M_turned_69, u_M_turned_71, u_M_turned_72, u_M_turned_73, u_M_turned_74, u_M_turned_77, ne_eq, not_false_eq_true, not_true_eq_false, true_and, and_true, true_or, or_true, eq_self, Option.toList_some, Option.toList_none, List.cons_append, List.nil_append, tc_0, tc_I, tc_L, tc_A, Nat.reduceAdd, Nat.reduceLeDiff, Nat.reduceEqDiff, Int.reduceEq, Int.reduceLT, Int.reduceLE, Int.reduceNeg, Int.reduceToNat, Int.cast_ofNat_Int, if_true, if_false, and_self, or_self, ite_self, bI_0, bI_1, bI_01, Bool.false_eq_true, reduceCtorEq, z, w2, s_M_cut h0 h4]
      · simp only [u_M_turned_31, u_M_turned_33, u_M_turned_36, u_M_turned_37, u_M_turned_38, u_M_turned_40, u_M_turned_42, u_M_turned_45, u_M_turned_46, u_M_turned_49, u_M_turned_50, u_M_turned_51, u_M_turned_53, u_M_turned_54, u_M_turned_55, u_M_turned_56, u_M_turned_57, u_M_turned_59, u_M_turned_60, u_M_turned_62, u_M_turned_64, u_M_turned_65, u_M_turned_67, u_M_turned_69, u_M_turned_71, u_M_turned_72, u_M_turned_73, u_M_turned_74, u_M_turned_77, ne_eq, not_false_eq_true, not_true_eq_false, true_and, and_true, true_or, or_true, eq_self, Option.toList_some, Option.toList_none, List.cons_append, List.nil_append, tc_0, tc_I, tc_L, tc_A, Nat.reduceAdd, Nat.reduceLeDiff, Nat.reduceEqDiff, Int.reduceEq, Int.reduceLT, Int.reduceLE, Int.reduceNeg, Int.reduceToNat, Int.cast_ofNat_Int, if_true, if_false, and_self, or_self, ite_self, bI_0, bI_1, bI_01, Bool.false_eq_true, reduceCtorEq, z, h64', w2, s_M_cut h0 h4]
  by_cases hn : e.tmod b < 0
  · have e2 : e.tmod b + b = e % b := by
      rw [hm] at hn ⊢; rcases b4 with h | h | h | h <;> subst h <;> split at hn <;> split <;> omega
    have w3 : w32 (e % b) = e % b := by rcases b4 with h | h | h | h <;> subst h <;> exact w32_id (by omega) (by omega)
    simp only [u_M_turned_0, u_M_turned_1, u_M_turned_4, u_M_turned_6, u_M_turned_7, u_M_turned_9, u_M_turned_10, u_M_turned_11, u_M_turned_12, u_M_turned_14, u_M_turned_16, u_M_turned_19, u_M_turned_21, u_M_turned_23, u_M_turned_24, u_M_turned_27, u_M_turned_29, ne_eq, not_false_eq_true, not_true_eq_false, true_and, and_true, true_or, or_true, eq_self, Option.toList_some, Option.toList_none, List.cons_append, List.nil_append, tc_0, tc_I, tc_L, tc_A, Nat.reduceAdd, Nat.reduceLeDiff, Nat.reduceEqDiff, Int.reduceEq, Int.reduceLT, Int.reduceLE, Int.reduceNeg, Int.reduceToNat, Int.cast_ofNat_Int, if_true, if_false, and_self, or_self, ite_self, bI_0, bI_1, bI_01, Bool.false_eq_true, reduceCtorEq, s_M_bitsOf, ← hb, b0, w1, show ¬ 0 ≤ e.tmod b by omega, e2, w3]
    exact h31 _ rfl
  · have e2 : e.tmod b = e % b := by
      rw [hm] at hn ⊢; rcases b4 with h | h | h | h <;> subst h <;> split at hn <;> split <;> omega
    simp only [u_M_turned_0, u_M_turned_1, u_M_turned_4, u_M_turned_6, u_M_turned_7, u_M_turned_9, u_M_turned_10, u_M_turned_11, u_M_turned_12, u_M_turned_14, u_M_turned_16, u_M_turned_19, u_M_turned_21, u_M_turned_23, u_M_turned_24, u_M_turned_27, u_M_turned_29, ne_eq, not_false_eq_true, not_true_eq_false, true_and, and_true, true_or, or_true, eq_self, Option.toList_some, Option.toList_none, List.cons_append, List.nil_append, tc_0, tc_I, tc_L, tc_A, Nat.reduceAdd, Nat.reduceLeDiff, Nat.reduceEqDiff, Int.reduceEq, Int.reduceLT, Int.reduceLE, Int.reduceNeg, Int.reduceToNat, Int.cast_ofNat_Int, if_true, if_false, and_self, or_self, ite_self, bI_0, bI_1, bI_01, Bool.false_eq_true, reduceCtorEq, s_M_bitsOf, ← hb, b0, w1, show 0 ≤ e.tmod b by omega]
    exact h31 _ e2
theorem neg_mod {e b : Int} (hb : b = 8 ∨ b = 16 ∨ b = 32 ∨ b = 64) : w64 (0 - e.tmod b) % b = -e % b := by
  have hm : e.tmod b = if 0 ≤ e ∨ e % b = 0 then e % b else e % b - b := by
    rcases hb with h | h | h | h <;> subst h <;> rw [Int.tmod_eq_emod] <;> (repeat' split) <;> omega
  have w1 : w64 (0 - e.tmod b) = 0 - e.tmod b := by
    rw [hm]; rcases hb with h | h | h | h <;> subst h <;> split <;> exact w64_id (by omega) (by omega)
  rw [w1, hm]
  rcases hb with h | h | h | h <;> subst h <;> split <;> omega
end
