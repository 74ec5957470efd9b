/-! turn: the NAMES of the trail -/
theorem nm_bit {T : Int → Int} {x : Nat} (hx : x < 26) : ∀ (k : Nat), (nmN T k).testBit x = true ↔ ((x : Int) + 97) ∈ tks T 0 k := by
  intro k
  have key : ∀ (n : Nat) (i : Int), tks T i (n + 1) = tks T i n ++ [T (i + n)] := by
    intro n
    induction n with
    | zero => intro i; show [T i] = [] ++ [T (i + ((0 : Nat) : Int))]; rw [show i + ((0 : Nat) : Int) = i by omega]; rfl
    | succ n ih =>
      intro i
      show T i :: tks T (i + 1) (n + 1) = (T i :: tks T (i + 1) n) ++ [T (i + ((n + 1 : Nat) : Int))]
      rw [ih (i + 1), show i + 1 + (n : Int) = i + ((n + 1 : Nat) : Int) by omega]; rfl
  induction k with
  | zero => simp [nmN, tks]
  | succ k ih =>
    have e0 : (0 : Int) + (k : Int) = k := by omega
    rw [key k 0, List.mem_append, List.mem_singleton, e0]
    show (if kName (T k) = true then nmN T k ||| 2 ^ (T k - 97).toNat else nmN T k).testBit x = true ↔ _
    by_cases hk : kName (T k) = true
    · rw [if_pos hk, Nat.testBit_or, Bool.or_eq_true, Nat.testBit_two_pow, decide_eq_true_eq]
      unfold kName at hk
      simp at hk
      constructor
      · rintro (h | h)
        · exact Or.inl (ih.mp h)
        · exact Or.inr (by omega)
      · rintro (h | h)
        · exact Or.inl (ih.mpr h)
        · exact Or.inr (by omega)
    · rw [if_neg hk]
      constructor
      · intro h; exact Or.inl (ih.mp h)
      · rintro (h | h)
        · exact ih.mpr h
        · exfalso
          apply hk
          unfold kName
          simp
          omega
theorem trail_bits {n : Nat} (hn : n < 2 ^ 26) : n &&& 66060288 = 0 ↔ ∀ x : Nat, 20 ≤ x → x < 26 → n.testBit x = false := by
  constructor
  · intro h x h1 h2
    have hb : (n &&& 66060288).testBit x = false := by rw [h]; exact Nat.zero_testBit x
    rw [Nat.testBit_and] at hb
    have hm : Nat.testBit 66060288 x = true := by
      have : x = 20 ∨ x = 21 ∨ x = 22 ∨ x = 23 ∨ x = 24 ∨ x = 25 := by omega
      rcases this with rfl | rfl | rfl | rfl | rfl | rfl <;> decide
    rw [hm, Bool.and_true] at hb
    exact hb
  · intro h
    apply Nat.eq_of_testBit_eq
    intro x
    rw [Nat.testBit_and, Nat.zero_testBit]
    by_cases h1 : x < 20
    · have hm : Nat.testBit 66060288 x = false := by
        have : x = 0 ∨ x = 1 ∨ x = 2 ∨ x = 3 ∨ x = 4 ∨ x = 5 ∨ x = 6 ∨ x = 7 ∨ x = 8 ∨ x = 9 ∨ x = 10 ∨ x = 11 ∨ x = 12 ∨ x = 13 ∨ x = 14 ∨ x = 15 ∨ x = 16 ∨ x = 17 ∨ x = 18 ∨ x = 19 := by omega
        rcases this with rfl | rfl | rfl | rfl | rfl | rfl | rfl | rfl | rfl | rfl | rfl | rfl | rfl | rfl | rfl | rfl | rfl | rfl | rfl | rfl <;> decide
      rw [hm, Bool.and_false]
    · by_cases h2 : x < 26
      · rw [h x (by omega) h2, Bool.false_and]
      · have hz : n.testBit x = false := Nat.testBit_lt_two_pow (Nat.lt_of_lt_of_le hn (Nat.pow_le_pow_right (by omega) (by omega)))
        rw [hz, Bool.false_and]
section
variable {L d a r len : Nat} {f t g : Mem} {T : Int → Int} {Q : Option TV → Wd → Prop}
theorem s_Tx_trail (hT : isT a) {n : Nat} (h14 : t a 14 = (n : Int)) (hn : n < 2 ^ 26) : VV L d m_Tx_hasTrailNames 0 [some (tA a)] [] (WW f t g) Q = Q (some (tI (bB (decide (¬ n &&& 66060288 = 0))))) (WW f t g) := by
  have a0 := xT_0 hT
  have hn31 : n < 2147483648 := Nat.lt_of_lt_of_le hn (by decide)
  have ho : o32 (fun x y => x &&& y) (n : Int) 66060288 = ((n &&& 66060288 : Nat) : Int) := o32_and (b := 66060288) hn31 (by decide)
  by_cases hz : n &&& 66060288 = 0
  · rw [hz] at ho
    have z0 : ((0 : Nat) : Int) = 0 := rfl
    rw [z0] at ho
    rw [decide_eq_false (fun hh => hh hz), bB_f]
    simp only [u_Tx_hasTrailNames_0, u_Tx_hasTrailNames_1, u_Tx_hasTrailNames_4, u_Tx_hasTrailNames_6, u_Tx_hasTrailNames_7, u_Tx_hasTrailNames_10, u_Tx_hasTrailNames_11, u_Tx_hasTrailNames_14, u_Tx_hasTrailNames_15, xT_0, xT_h1, xT_g14, xT_p14, ne_eq, not_false_eq_true, not_true_eq_false, true_and, and_true, true_or, or_true, eq_self, Option.toList_some, Option.toList_none, List.cons_append, List.nil_append, tc_0, tc_I, tc_L, tc_A, Nat.reduceAdd, Nat.reduceLeDiff, Nat.reduceEqDiff, Int.reduceEq, Int.reduceLT, Int.reduceLE, Int.reduceNeg, Int.reduceToNat, Int.cast_ofNat_Int, if_true, if_false, and_self, or_self, ite_self, bI_0, bI_1, bI_01, Bool.false_eq_true, reduceCtorEq, hT, h14, ho]
  · have hz' : ¬ ((n &&& 66060288 : Nat) : Int) = 0 := by omega
    rw [decide_eq_true hz, bB_t]
    simp only [u_Tx_hasTrailNames_0, u_Tx_hasTrailNames_1, u_Tx_hasTrailNames_4, u_Tx_hasTrailNames_6, u_Tx_hasTrailNames_7, u_Tx_hasTrailNames_10, u_Tx_hasTrailNames_11, u_Tx_hasTrailNames_14, u_Tx_hasTrailNames_15, xT_0, xT_h1, xT_g14, xT_p14, ne_eq, not_false_eq_true, not_true_eq_false, true_and, and_true, true_or, or_true, eq_self, Option.toList_some, Option.toList_none, List.cons_append, List.nil_append, tc_0, tc_I, tc_L, tc_A, Nat.reduceAdd, Nat.reduceLeDiff, Nat.reduceEqDiff, Int.reduceEq, Int.reduceLT, Int.reduceLE, Int.reduceNeg, Int.reduceToNat, Int.cast_ofNat_Int, if_true, if_false, and_self, or_self, ite_self, bI_0, bI_1, bI_01, Bool.false_eq_true, reduceCtorEq, hT, h14, ho, hz']
/-- the reference looks for them one by one -/
theorem l_M_trail {kt : Int} {k : List Int} (h : RT g r T len) (hs : seg T 0 len k) (hk : ∀ v ∈ k, okT v) : ∀ (q : Nat) (nm : Int), nm + q = 26 → 20 ≤ nm → ((∃ x : Int, nm ≤ x ∧ x < 26 ∧ (97 + x) ∈ k) → VV L (d + 2) m_M_turn 40 [some (tA 156), some (tI r), some (tI kt), some (tI nm)] [] (WW f t g) Q = Q (some (tI (-2))) (WW f t g)) ∧ ((∀ x : Int, nm ≤ x → x < 26 → ¬ (97 + x) ∈ k) → VV L (d + 2) m_M_turn 40 [some (tA 156), some (tI r), some (tI kt), some (tI nm)] [] (WW f t g) Q = VV L (d + 2) m_M_turn 71 [some (tA 156), some (tI r), some (tI kt), some (tI 26)] [] (WW f t g) Q) := by
  obtain ⟨r0, r1, r2⟩ := h.ir
  have hl1 := h.l1
  intro q
  induction q with
  | zero =>
    intro nm h1 h2
    have e : nm = 26 := by omega
    subst e
    refine ⟨?_, fun _ => ?_⟩
    · rintro ⟨x, q1, q2, _⟩
      exact absurd q2 (by omega)
    · rw [u_M_turn_40]
      simp only [u_M_turn_41, u_M_turn_43, ne_eq, not_false_eq_true, not_true_eq_false, true_and, and_true, true_or, or_true, eq_self, Option.toList_some, Option.toList_none, List.cons_append, List.nil_append, tc_0, tc_I, tc_L, tc_A, Nat.reduceAdd, Nat.reduceLeDiff, Nat.reduceEqDiff, Int.reduceEq, Int.reduceLT, Int.reduceLE, Int.reduceNeg, Int.reduceToNat, Int.cast_ofNat_Int, if_true, if_false, and_self, or_self, ite_self, bI_0, bI_1, bI_01, Bool.false_eq_true, reduceCtorEq, Int.le_refl]
  | succ q ih =>
    intro nm h1 h2
    have hnm : ¬ 26 ≤ nm := by omega
    have kn : kName (97 + nm) = true := by unfold kName; simp; omega
    have N1 := fun D Q => s_M_standsIn (L := L) (d := D) (f := f) (t := t) (Q := Q) (n := 97 + nm) (j := len) h kn (by omega) (show (0 : Int) ≤ 0 by omega) hs hk
    rw [show 97 + nm - 97 = nm by omega] at N1
    have wn : w32 (nm + 1) = nm + 1 := w32_id (by omega) (by omega)
    rw [u_M_turn_40]
    by_cases hin : (97 + nm) ∈ k
    · refine ⟨fun _ => ?_, fun hh => absurd hin (hh nm (by omega) (by omega))⟩
      simp only [u_M_turn_41, u_M_turn_43, u_M_turn_46, u_M_turn_47, u_M_turn_48, u_M_turn_49, u_M_turn_50, u_M_turn_53, u_M_turn_54, u_M_turn_55, u_M_turn_56, u_M_turn_59, u_M_turn_62, u_M_turn_64, h1_156, gt_156_24, h1_163, h2_163, gt_163, pt_163, ne_eq, not_false_eq_true, not_true_eq_false, true_and, and_true, true_or, or_true, eq_self, Option.toList_some, Option.toList_none, List.cons_append, List.nil_append, tc_0, tc_I, tc_L, tc_A, Nat.reduceAdd, Nat.reduceLeDiff, Nat.reduceEqDiff, Int.reduceEq, Int.reduceLT, Int.reduceLE, Int.reduceNeg, Int.reduceToNat, Int.cast_ofNat_Int, if_true, if_false, and_self, or_self, ite_self, bI_0, bI_1, bI_01, Bool.false_eq_true, reduceCtorEq, hnm, r0, r1, r2, N1, hin, decide_true, bB_t]
    · obtain ⟨i1, i2⟩ := ih (nm + 1) (by omega) (by omega)
      have hst : VV L (d + 2) m_M_turn 41 [some (tA 156), some (tI r), some (tI kt), some (tI nm)] [tI nm] (WW f t g) Q = VV L (d + 2) m_M_turn 40 [some (tA 156), some (tI r), some (tI kt), some (tI (nm + 1))] [] (WW f t g) Q := by
        simp only [u_M_turn_41, u_M_turn_43, u_M_turn_46, u_M_turn_47, u_M_turn_48, u_M_turn_49, u_M_turn_50, u_M_turn_53, u_M_turn_54, u_M_turn_55, u_M_turn_56, u_M_turn_59, u_M_turn_62, u_M_turn_64, u_M_turn_65, u_M_turn_68, h1_156, gt_156_24, h1_163, h2_163, gt_163, pt_163, ne_eq, not_false_eq_true, not_true_eq_false, true_and, and_true, true_or, or_true, eq_self, Option.toList_some, Option.toList_none, List.cons_append, List.nil_append, tc_0, tc_I, tc_L, tc_A, Nat.reduceAdd, Nat.reduceLeDiff, Nat.reduceEqDiff, Int.reduceEq, Int.reduceLT, Int.reduceLE, Int.reduceNeg, Int.reduceToNat, Int.cast_ofNat_Int, if_true, if_false, and_self, or_self, ite_self, bI_0, bI_1, bI_01, Bool.false_eq_true, reduceCtorEq, hnm, r0, r1, r2, N1, hin, decide_false, bB_f, wn]
      rw [hst]
      refine ⟨?_, fun hh => i2 (fun x q1 q2 => hh x (by omega) q2)⟩
      rintro ⟨x, q1, q2, q3⟩
      refine i1 ⟨x, ?_, q2, q3⟩
      by_cases e : x = nm
      · rw [e] at q3; exact absurd q3 hin
      · omega
end
