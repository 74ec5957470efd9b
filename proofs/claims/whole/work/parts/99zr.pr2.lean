/-! What is printed: numbers -/
theorem dgt_1 {n : Int} (h0 : 0 ≤ n) (h9 : n < 1000000000) : 1 ≤ dgt n ∧ dgt n ≤ 9 ∧ (dgt n = 1 ∨ 10 ^ (dgt n - 1) ≤ n) ∧ n < 10 ^ dgt n := by
  unfold dgt
  (repeat' split) <;> refine ⟨by decide, by decide, ?_, ?_⟩ <;> first | exact Or.inl rfl | (simp only [Int.reducePow]; omega) | (right; simp only [Nat.reduceSub, Int.reducePow]; omega)
theorem dgt_j {n : Int} (h0 : 0 ≤ n) (h9 : n < 1000000000) {j : Nat} (hj : j < dgt n - 1) : 10 ≤ n.tdiv (10 ^ j) := by
  obtain ⟨a1, a2, a3, a4⟩ := dgt_1 h0 h9
  have hp : (0 : Int) < 10 ^ j := Int.pow_pos (by decide)
  rw [Int.tdiv_eq_ediv_of_nonneg h0]
  refine Int.le_ediv_of_mul_le hp ?_
  have h1 : (10 : Int) * 10 ^ j = 10 ^ (j + 1) := by rw [Int.pow_succ, Int.mul_comm]
  rw [h1]
  have h2 : (10 : Int) ^ (j + 1) ≤ 10 ^ (dgt n - 1) := by
    exact_mod_cast Nat.pow_le_pow_right (by decide : 1 ≤ 10) (by omega : j + 1 ≤ dgt n - 1)
  have h3 : (10 : Int) ^ (dgt n - 1) ≤ n := a3.resolve_left (by omega)
  omega
theorem dgt_D {n : Int} (h0 : 0 ≤ n) (h9 : n < 1000000000) : n.tdiv (10 ^ (dgt n - 1)) < 10 := by
  obtain ⟨a1, a2, a3, a4⟩ := dgt_1 h0 h9
  have hp : (0 : Int) < 10 ^ (dgt n - 1) := Int.pow_pos (by decide)
  rw [Int.tdiv_eq_ediv_of_nonneg h0]
  refine Int.ediv_lt_of_lt_mul hp ?_
  have h1 : (10 : Int) * 10 ^ (dgt n - 1) = 10 ^ dgt n := by
    rw [Int.mul_comm, ← Int.pow_succ, show (dgt n - 1).succ = dgt n by omega]
  rw [h1]; exact a4
theorem p10 {j : Nat} (h : j ≤ 8) : (1 : Int) ≤ 10 ^ j ∧ (10 : Int) ^ j ≤ 100000000 := by
  have : j = 0 ∨ j = 1 ∨ j = 2 ∨ j = 3 ∨ j = 4 ∨ j = 5 ∨ j = 6 ∨ j = 7 ∨ j = 8 := by omega
  rcases this with rfl | rfl | rfl | rfl | rfl | rfl | rfl | rfl | rfl <;> decide
theorem p1n {x : Int} (h : 1 ≤ x) : ¬ x ≤ 0 ∧ ¬ x = 0 := by omega
theorem p9n {j m k : Nat} (h : j + (m + 1) = k - 1) (h9 : k ≤ 9) : ¬ (9 : Int) ≤ ((j + 1 : Nat) : Int) := by omega
theorem p10n {x : Int} (h : 10 ≤ x) : ¬ x < 10 := by omega
theorem dL_len {n : Int} : ∀ k, (dL n k).length = k + 1 := by
  intro k
  induction k with
  | zero => rfl
  | succ k ih => rw [dL, List.length_cons, ih]
theorem dig_b {z : Int} (h : 0 ≤ z) : 32 ≤ 48 + z % 10 ∧ 48 + z % 10 ≤ 126 := by omega
section
variable {L d : Nat} {f t g : Mem} {Q : Option TV → Wd → Prop} {l : List Int} {n : Int}
theorem l_wn2 (h0 : 0 ≤ n) (h9 : n < 1000000000) {x3 : Int} : ∀ (k : Nat) (l : List Int), k ≤ 8 → l.length + k + 1 ≤ 4096 → VV L (d + 1) m_Pr_writeNumber 29 [some (tA 16), some (tI n), some (tI (10 ^ k)), some (tI x3)] [] (WW (PSt 17 16 1 f l) t g) Q = Q none (WW (PSt 17 16 1 f (l ++ dL n k)) t g) := by
  have last : ∀ l, VV L (d + 1) m_Pr_writeNumber 29 [some (tA 16), some (tI n), some (tI 0), some (tI x3)] [] (WW (PSt 17 16 1 f l) t g) Q = Q none (WW (PSt 17 16 1 f l) t g) := fun l => by
    rw [u_Pr_writeNumber_29]
    simp only [u_Pr_writeNumber_30, u_Pr_writeNumber_54, ne_eq, not_false_eq_true, not_true_eq_false, true_and, and_true, true_or, or_true, eq_self, Option.toList_some, Option.toList_none, List.cons_append, List.nil_append, tc_0, tc_I, tc_L, tc_A, Nat.reduceAdd, Nat.reduceLeDiff, Nat.reduceEqDiff, Int.reduceEq, Int.reduceLT, Int.reduceLE, Int.reduceNeg, Int.reduceToNat, Int.cast_ofNat_Int, if_true, if_false, and_self, or_self, ite_self, bI_0, bI_1, bI_01, Bool.false_eq_true, reduceCtorEq]
  intro k
  induction k with
  | zero =>
    intro l _ hl
    have w1 : w32 (48 + n % 10) = 48 + n % 10 := w32_id (by omega) (by omega)
    have wn : w32 n = n := w32_id (by omega) (by omega)
    have e1 : n.tdiv 1 = n := Int.tdiv_one n
    have e2 : n.tmod 10 = n % 10 := Int.tmod_eq_emod_of_nonneg h0
    rw [u_Pr_writeNumber_29]
    simp only [u_Pr_writeNumber_30, u_Pr_writeNumber_33, u_Pr_writeNumber_34, u_Pr_writeNumber_36, u_Pr_writeNumber_37, u_Pr_writeNumber_38, u_Pr_writeNumber_39, u_Pr_writeNumber_41, u_Pr_writeNumber_42, u_Pr_writeNumber_43, u_Pr_writeNumber_46, u_Pr_writeNumber_47, u_Pr_writeNumber_49, u_Pr_writeNumber_50, u_Pr_writeNumber_51, h1_16, ne_eq, not_false_eq_true, not_true_eq_false, true_and, and_true, true_or, or_true, eq_self, Option.toList_some, Option.toList_none, List.cons_append, List.nil_append, tc_0, tc_I, tc_L, tc_A, Nat.reduceAdd, Nat.reduceLeDiff, Nat.reduceEqDiff, Int.reduceEq, Int.reduceLT, Int.reduceLE, Int.reduceNeg, Int.reduceToNat, Int.cast_ofNat_Int, if_true, if_false, and_self, or_self, ite_self, bI_0, bI_1, bI_01, Bool.false_eq_true, reduceCtorEq, Int.pow_zero, e1, wn, e2, w1, s_Pr_add (show l.length < 4096 by omega) (dig_b h0), Int.reduceTDiv, show w32 0 = 0 by decide]
    exact last _
  | succ k ih =>
    intro l hk hl
    obtain ⟨p1, p2⟩ := p10 hk
    obtain ⟨p3, p4⟩ := p10 (show k ≤ 8 by omega)
    have hd : (10 : Int) ^ (k + 1) = 10 ^ k * 10 := Int.pow_succ 10 k
    have z0 : 0 ≤ n / 10 ^ (k + 1) := Int.ediv_nonneg h0 (by omega)
    have z1 : n / 10 ^ (k + 1) ≤ n := Int.ediv_le_self _ h0
    have e1 : n.tdiv (10 ^ (k + 1)) = n / 10 ^ (k + 1) := Int.tdiv_eq_ediv_of_nonneg h0
    have e2 : (n / 10 ^ (k + 1)).tmod 10 = n / 10 ^ (k + 1) % 10 := Int.tmod_eq_emod_of_nonneg z0
    have wz : w32 (n / 10 ^ (k + 1)) = n / 10 ^ (k + 1) := w32_id (by omega) (by omega)
    have w1 : w32 (48 + n / 10 ^ (k + 1) % 10) = 48 + n / 10 ^ (k + 1) % 10 := w32_id (by omega) (by omega)
    have e3 : ((10 : Int) ^ (k + 1)).tdiv 10 = 10 ^ k := by
      rw [Int.tdiv_eq_ediv_of_nonneg (by omega), hd]; exact Int.mul_ediv_cancel _ (by decide)
    have w3 : w32 ((10 : Int) ^ k) = 10 ^ k := w32_id (by omega) (by omega)
    rw [u_Pr_writeNumber_29]
    simp only [u_Pr_writeNumber_30, u_Pr_writeNumber_33, u_Pr_writeNumber_34, u_Pr_writeNumber_36, u_Pr_writeNumber_37, u_Pr_writeNumber_38, u_Pr_writeNumber_39, u_Pr_writeNumber_41, u_Pr_writeNumber_42, u_Pr_writeNumber_43, u_Pr_writeNumber_46, u_Pr_writeNumber_47, u_Pr_writeNumber_49, u_Pr_writeNumber_50, u_Pr_writeNumber_51, h1_16, ne_eq, not_false_eq_true, not_true_eq_false, true_and, and_true, true_or, or_true, eq_self, Option.toList_some, Option.toList_none, List.cons_append, List.nil_append, tc_0, tc_I, tc_L, tc_A, Nat.reduceAdd, Nat.reduceLeDiff, Nat.reduceEqDiff, Int.reduceEq, Int.reduceLT, Int.reduceLE, Int.reduceNeg, Int.reduceToNat, Int.cast_ofNat_Int, if_true, if_false, and_self, or_self, ite_self, bI_0, bI_1, bI_01, Bool.false_eq_true, reduceCtorEq, (p1n p1).1, (p1n p1).2, e1, wz, e2, w1, s_Pr_add (show l.length < 4096 by omega) (dig_b z0), e3, w3]
    rw [ih (l ++ [48 + n / 10 ^ (k + 1) % 10]) (by omega) (by rw [List.length_append, List.length_singleton]; omega), List.append_assoc]
    rfl
theorem l_wn1 (h0 : 0 ≤ n) (h9 : n < 1000000000) : ∀ (m j : Nat), j + m = dgt n - 1 → VV L (d + 1) m_Pr_writeNumber 4 [some (tA 16), some (tI n), some (tI (10 ^ j)), some (tI ((j + 1 : Nat) : Int))] [] (WW f t g) Q = VV L (d + 1) m_Pr_writeNumber 29 [some (tA 16), some (tI n), some (tI (10 ^ (dgt n - 1))), some (tI ((dgt n : Nat) : Int))] [] (WW f t g) Q := by
  obtain ⟨a1, a2, _, _⟩ := dgt_1 h0 h9
  intro m
  induction m with
  | zero =>
    intro j hj
    obtain rfl : j = dgt n - 1 := by omega
    obtain ⟨p1, p2⟩ := p10 (show dgt n - 1 ≤ 8 by omega)
    have hd := dgt_D h0 h9
    have q0 : 0 ≤ n.tdiv (10 ^ (dgt n - 1)) := Int.tdiv_nonneg h0 (by omega)
    have wq : w32 (n.tdiv (10 ^ (dgt n - 1))) = n.tdiv (10 ^ (dgt n - 1)) := w32_id (by omega) (by omega)
    rw [show dgt n - 1 + 1 = dgt n by omega, u_Pr_writeNumber_4]
    by_cases h : (9 : Int) ≤ ((dgt n : Nat) : Int)
    · simp only [u_Pr_writeNumber_5, u_Pr_writeNumber_7, ne_eq, not_false_eq_true, not_true_eq_false, true_and, and_true, true_or, or_true, eq_self, Option.toList_some, Option.toList_none, List.cons_append, List.nil_append, tc_0, tc_I, tc_L, tc_A, Nat.reduceAdd, Nat.reduceLeDiff, Nat.reduceEqDiff, Int.reduceEq, Int.reduceLT, Int.reduceLE, Int.reduceNeg, Int.reduceToNat, Int.cast_ofNat_Int, if_true, if_false, and_self, or_self, ite_self, bI_0, bI_1, bI_01, Bool.false_eq_true, reduceCtorEq, h]
    · simp only [u_Pr_writeNumber_5, u_Pr_writeNumber_7, u_Pr_writeNumber_10, u_Pr_writeNumber_11, u_Pr_writeNumber_12, u_Pr_writeNumber_13, u_Pr_writeNumber_15, ne_eq, not_false_eq_true, not_true_eq_false, true_and, and_true, true_or, or_true, eq_self, Option.toList_some, Option.toList_none, List.cons_append, List.nil_append, tc_0, tc_I, tc_L, tc_A, Nat.reduceAdd, Nat.reduceLeDiff, Nat.reduceEqDiff, Int.reduceEq, Int.reduceLT, Int.reduceLE, Int.reduceNeg, Int.reduceToNat, Int.cast_ofNat_Int, if_true, if_false, and_self, or_self, ite_self, bI_0, bI_1, bI_01, Bool.false_eq_true, reduceCtorEq, h, (p1n p1).2, wq, hd]
  | succ m ih =>
    intro j hj
    obtain ⟨p1, p2⟩ := p10 (show j + 1 ≤ 8 by omega)
    obtain ⟨p3, p4⟩ := p10 (show j ≤ 8 by omega)
    have hd : (10 : Int) ^ (j + 1) = 10 ^ j * 10 := Int.pow_succ 10 j
    have hj10 := dgt_j h0 h9 (show j < dgt n - 1 by omega)
    have q1 : n.tdiv (10 ^ j) ≤ n := by rw [Int.tdiv_eq_ediv_of_nonneg h0]; exact Int.ediv_le_self _ h0
    have wq : w32 (n.tdiv (10 ^ j)) = n.tdiv (10 ^ j) := w32_id (by omega) (by omega)
    have wu : w32 (10 ^ j * 10) = 10 ^ (j + 1) := by rw [← hd]; exact w32_id (by omega) (by omega)
    have wj : w32 (((j + 1 : Nat) : Int) + 1) = ((j + 1 + 1 : Nat) : Int) := by rw [w32_id (by omega) (by omega)]; omega
    rw [← ih (j + 1) (by omega), u_Pr_writeNumber_4]
    simp only [u_Pr_writeNumber_5, u_Pr_writeNumber_7, u_Pr_writeNumber_10, u_Pr_writeNumber_11, u_Pr_writeNumber_12, u_Pr_writeNumber_13, u_Pr_writeNumber_15, u_Pr_writeNumber_18, u_Pr_writeNumber_19, u_Pr_writeNumber_21, u_Pr_writeNumber_22, u_Pr_writeNumber_23, u_Pr_writeNumber_26, ne_eq, not_false_eq_true, not_true_eq_false, true_and, and_true, true_or, or_true, eq_self, Option.toList_some, Option.toList_none, List.cons_append, List.nil_append, tc_0, tc_I, tc_L, tc_A, Nat.reduceAdd, Nat.reduceLeDiff, Nat.reduceEqDiff, Int.reduceEq, Int.reduceLT, Int.reduceLE, Int.reduceNeg, Int.reduceToNat, Int.cast_ofNat_Int, if_true, if_false, and_self, or_self, ite_self, bI_0, bI_1, bI_01, Bool.false_eq_true, reduceCtorEq, p9n hj a2, (p1n p3).2, wq, p10n hj10, wu, wj]
theorem s_Pr_writeNumber (h0 : 0 ≤ n) (h9 : n < 1000000000) (hl : l.length + dgt n ≤ 4096) : VV L (d + 1) m_Pr_writeNumber 0 [some (tA 16), some (tI n), none, none] [] (WW (PSt 17 16 1 f l) t g) Q = Q none (WW (PSt 17 16 1 f (l ++ dL n (dgt n - 1))) t g) := by
  obtain ⟨a1, a2, _, _⟩ := dgt_1 h0 h9
  rw [← l_wn2 (L := L) (d := d) (t := t) (g := g) (Q := Q) h0 h9 (x3 := ((dgt n : Nat) : Int)) (dgt n - 1) l (by omega) (by omega), ← l_wn1 h0 h9 (dgt n - 1) 0 (by omega)]
  simp only [u_Pr_writeNumber_0, u_Pr_writeNumber_1, u_Pr_writeNumber_2, u_Pr_writeNumber_3, ne_eq, not_false_eq_true, not_true_eq_false, true_and, and_true, true_or, or_true, eq_self, Option.toList_some, Option.toList_none, List.cons_append, List.nil_append, tc_0, tc_I, tc_L, tc_A, Nat.reduceAdd, Nat.reduceLeDiff, Nat.reduceEqDiff, Int.reduceEq, Int.reduceLT, Int.reduceLE, Int.reduceNeg, Int.reduceToNat, Int.cast_ofNat_Int, if_true, if_false, and_self, or_self, ite_self, bI_0, bI_1, bI_01, Bool.false_eq_true, reduceCtorEq]
  rfl
end
