/-! The constructors: Shelf -/
section
variable {L d : Nat} {m : Mem} {Q : Option TV → Wd → Prop} {v : Int}
theorem l_fillG {a s n : Nat} (hs : sh L a = (20, s)) (h0 : a ≠ 0) (hb : s ≤ 1000) : ∀ (q k : Nat), k + q = s → VV L d m_JArr_fillI 5 [some (tA a), some (tI v), some (tI k), some (tI s)] [] (n, zfl m a k v) Q = Q none (n, zfl m a s v) := by
  intro q
  induction q with
  | zero =>
    intro k hk
    obtain rfl : k = s := by omega
    rw [u_JArr_fillI_5]
    simp only [u_JArr_fillI_6, u_JArr_fillI_7, u_JArr_fillI_10, u_JArr_fillI_11, u_JArr_fillI_12, u_JArr_fillI_13, u_JArr_fillI_14, u_JArr_fillI_17, u_JArr_fillI_20, ne_eq, not_false_eq_true, not_true_eq_false, true_and, and_true, true_or, or_true, eq_self, Option.toList_some, Option.toList_none, List.cons_append, List.nil_append, tc_0, tc_I, tc_L, tc_A, Nat.reduceAdd, Nat.reduceLeDiff, Nat.reduceEqDiff, Int.reduceEq, Int.reduceLT, Int.reduceLE, Int.reduceNeg, Int.reduceToNat, Int.cast_ofNat_Int, if_true, if_false, and_self, or_self, ite_self, bI_0, bI_1, bI_01, Bool.false_eq_true, reduceCtorEq, show (k : Int) ≤ (k : Int) from Int.le_refl _]
  | succ q ih =>
    intro k hk
    have wk : w32 ((k : Int) + 1) = ((k + 1 : Nat) : Int) := by rw [w32_id (by omega) (by omega)]; omega
    rw [u_JArr_fillI_5]
    simp only [u_JArr_fillI_6, u_JArr_fillI_7, u_JArr_fillI_10, u_JArr_fillI_11, u_JArr_fillI_12, u_JArr_fillI_13, u_JArr_fillI_14, u_JArr_fillI_17, u_JArr_fillI_20, ne_eq, not_false_eq_true, not_true_eq_false, true_and, and_true, true_or, or_true, eq_self, Option.toList_some, Option.toList_none, List.cons_append, List.nil_append, tc_0, tc_I, tc_L, tc_A, Nat.reduceAdd, Nat.reduceLeDiff, Nat.reduceEqDiff, Int.reduceEq, Int.reduceLT, Int.reduceLE, Int.reduceNeg, Int.reduceToNat, Int.cast_ofNat_Int, if_true, if_false, and_self, or_self, ite_self, bI_0, bI_1, bI_01, Bool.false_eq_true, reduceCtorEq, h0, hs, show ¬ (s : Int) ≤ k by omega, show 0 ≤ (k : Int) by omega, show (k : Int) < s by omega, Int.toNat_natCast, wk, zfl_s]
    exact ih (k + 1) (by omega)
theorem s_fillG {a s n : Nat} (hs : sh L a = (20, s)) (h0 : a ≠ 0) (hb : s ≤ 1000) : VV L d m_JArr_fillI 0 [some (tA a), some (tI v), none, none] [] (n, m) Q = Q none (n, zfl m a s v) := by
  have := l_fillG (L := L) (d := d) (m := m) (Q := Q) (v := v) (n := n) hs h0 hb s 0 (Nat.zero_add _)
  rw [zfl_0] at this
  rw [← this]
  simp only [u_JArr_fillI_0, u_JArr_fillI_1, u_JArr_fillI_2, u_JArr_fillI_3, u_JArr_fillI_4, ne_eq, not_false_eq_true, not_true_eq_false, true_and, and_true, true_or, or_true, eq_self, Option.toList_some, Option.toList_none, List.cons_append, List.nil_append, tc_0, tc_I, tc_L, tc_A, Nat.reduceAdd, Nat.reduceLeDiff, Nat.reduceEqDiff, Int.reduceEq, Int.reduceLT, Int.reduceLE, Int.reduceNeg, Int.reduceToNat, Int.cast_ofNat_Int, if_true, if_false, and_self, or_self, ite_self, bI_0, bI_1, bI_01, Bool.false_eq_true, reduceCtorEq, h0, hs]
def inS (m : Mem) : Mem := fun b k => if b = 28 then (if k = 0 then 29 else if k = 1 then 30 else if k = 2 then 31 else if k = 3 then 32 else if k = 4 then 33 else m 28 k) else if b = 29 then (if k < 6 then -1 else 0) else if b = 30 then (if k < 8 then -1 else 0) else if b = 33 then (if k < 15 then ((34 + k : Nat) : Int) else 0) else if 28 < b ∧ b ≤ 48 then 0 else m b k
theorem s_Sf_init : VV L (d + 1) m_Sf_init 0 [some (tA 28)] [] (28, m) Q = Q none (48, inS m) := by
  have e : inS m = zfl (zfl (mset (fun b k => if 32 < b ∧ b ≤ 48 then (if b - 32 = 1 ∧ k < 15 then ((34 + k : Nat) : Int) else 0) else (mset (fun b k => if 31 < b ∧ b ≤ 32 then 0 else (mset (fun b k => if 30 < b ∧ b ≤ 31 then 0 else (mset (fun b k => if 29 < b ∧ b ≤ 30 then 0 else (mset (fun b k => if 28 < b ∧ b ≤ 29 then 0 else m b k) 28 0 29) b k) 28 1 30) b k) 28 2 31) b k) 28 3 32) b k) 28 4 33) 29 6 (-1)) 30 8 (-1) := by
    funext b k
    unfold inS
    simp only [mset, zfl]
    by_cases hb : b = 28
    · subst hb; simp only [if_true, true_and]; (repeat' split) <;> first | rfl | omega
    · simp only [hb, if_false, false_and]; (repeat' split) <;> first | rfl | omega
  rw [e]
  have f29 := fun (D n : Nat) (m : Mem) Q => s_fillG (L := L) (d := D) (m := m) (Q := Q) (v := -1) (a := 29) (n := n) sx_29 (by decide) (by decide)
  have f30 := fun (D n : Nat) (m : Mem) Q => s_fillG (L := L) (d := D) (m := m) (Q := Q) (v := -1) (a := 30) (n := n) sx_30 (by decide) (by decide)
  simp only [u_Sf_init_0, u_Sf_init_1, u_Sf_init_4, u_Sf_init_5, u_Sf_init_7, u_Sf_init_9, u_Sf_init_12, u_Sf_init_13, u_Sf_init_15, u_Sf_init_17, u_Sf_init_20, u_Sf_init_21, u_Sf_init_23, u_Sf_init_25, u_Sf_init_28, u_Sf_init_29, u_Sf_init_31, u_Sf_init_33, u_Sf_init_36, u_Sf_init_37, u_Sf_init_39, u_Sf_init_41, u_Sf_init_45, u_Sf_init_48, u_Sf_init_49, u_Sf_init_52, u_Sf_init_53, u_Sf_init_56, u_Sf_init_57, u_Sf_init_60, u_Sf_init_61, u_Sf_init_64, u_JObj_init_0, ne_eq, not_false_eq_true, not_true_eq_false, true_and, and_true, true_or, or_true, eq_self, Option.toList_some, Option.toList_none, List.cons_append, List.nil_append, tc_0, tc_I, tc_L, tc_A, Nat.reduceAdd, Nat.reduceLeDiff, Nat.reduceEqDiff, Int.reduceEq, Int.reduceLT, Int.reduceLE, Int.reduceNeg, Int.reduceToNat, Int.cast_ofNat_Int, if_true, if_false, and_self, or_self, ite_self, bI_0, bI_1, bI_01, Bool.false_eq_true, reduceCtorEq, sx_28, sx_29, sx_30, sx_31, sx_32, sx_33, znew, rd, zfl, Nat.reduceEqDiff, Nat.reduceLT, Int.reduceToNat, Nat.reduceAdd, Int.reduceLE, Nat.reduceSub, true_and, and_self, false_and, and_false, if_true, if_false, ne_eq, not_false_eq_true, f29, f30, show ((List.range 15).all fun i => decide (sh L (32 + 2 + i) = (26 - 5, 12))) = true from rfl]
end
