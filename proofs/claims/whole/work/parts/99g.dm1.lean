/-! The reference: a row that nobody holds -/
def zfo (g : Mem) (m k : Nat) : Mem := fun b j => if b = 178 ∧ 12 * m ≤ j ∧ j < 12 * m + k then 0 else g b j
theorem zfo_s {g : Mem} {m k : Nat} : mset (zfo g m k) 178 (12 * m + k) 0 = zfo g m (k + 1) := by
  funext b j; simp only [mset, zfo]
  by_cases e : b = 178 ∧ j = 12 * m + k
  · rw [if_pos e, if_pos (by omega)]
  · rw [if_neg e]
    by_cases e2 : b = 178 ∧ 12 * m ≤ j ∧ j < 12 * m + k
    · rw [if_pos e2, if_pos (by omega)]
    · rw [if_neg e2, if_neg (by omega)]
theorem zfo_0 {g : Mem} {m : Nat} : zfo g m 0 = g := by
  funext b j; simp only [zfo]; rw [if_neg (by omega)]
theorem zfo_M {g : Mem} {m : Nat} {kd ct : Int} : zfo (mset (mset g 176 m kd) 177 m ct) m 12 = mkM g m kd ct := rfl
section
variable {L d : Nat} {f t g : Mem} {Q : Option TV → Wd → Prop} {kd ct : Int}
theorem p_M_newRow (hQ : ∀ m : Nat, m < 15 → (∀ h : Nat, h < 14 → ¬ g 175 h = m) → Q (some (tI m)) (WW f t (mkM g m kd ct))) : VV L d m_M_newRow 0 [some (tA 156), some (tI kd), some (tI ct), none, none, none] [] (WW f t g) Q := by
  have h68 : ∀ (m : Nat) (z4 : Int) (l5 : Option TV), m < 15 → (∀ h : Nat, h < 14 → ¬ g 175 h = m) → VV L d m_M_newRow 68 [some (tA 156), some (tI kd), some (tI ct), some (tI m), some (tI z4), l5] [] (WW f t g) Q := by
    intro m z4 l5 hm hh
    have lz : ∀ (q k : Nat), k + q = 12 → VV L d m_M_newRow 85 [some (tA 156), some (tI kd), some (tI ct), some (tI m), some (tI z4), some (tI k)] [] (WW f t (zfo (mset (mset g 176 m kd) 177 m ct) m k)) Q := by
      intro q
      induction q with
      | zero =>
        intro k hk
        have : k = 12 := by omega
        subst this
        rw [u_M_newRow_85]
        simp only [u_M_newRow_87, u_M_newRow_89, u_M_newRow_92, u_M_newRow_93, u_M_newRow_96, u_M_newRow_98, u_M_newRow_99, u_M_newRow_100, u_M_newRow_102, u_M_newRow_103, u_M_newRow_104, u_M_newRow_105, u_M_newRow_108, u_M_newRow_111, u_M_newRow_112, ne_eq, not_false_eq_true, not_true_eq_false, true_and, and_true, true_or, or_true, eq_self, Option.toList_some, Option.toList_none, List.cons_append, List.nil_append, tc_0, tc_I, tc_L, tc_A, Nat.reduceAdd, Nat.reduceLeDiff, Nat.reduceEqDiff, Int.reduceEq, Int.reduceLT, Int.reduceLE, Int.reduceNeg, Int.reduceToNat, Int.cast_ofNat_Int, if_true, if_false, and_self, or_self, ite_self, bI_0, bI_1, bI_01, Bool.false_eq_true, reduceCtorEq, show (12 : Int) ≤ ((12 : Nat) : Int) by omega]
        rw [zfo_M]
        exact hQ m hm hh
      | succ q ih =>
        intro k hk
        have wk : w32 ((k : Int) + 1) = ((k + 1 : Nat) : Int) := by rw [w32_id (by omega) (by omega)]; omega
        have w1 : w32 (12 * (m : Int)) = 12 * m := w32_id (by omega) (by omega)
        have w2 : w32 (12 * (m : Int) + k) = 12 * m + k := w32_id (by omega) (by omega)
        have e1 : (12 * (m : Int) + k).toNat = 12 * m + k := by omega
        rw [u_M_newRow_85]
        simp only [u_M_newRow_87, u_M_newRow_89, u_M_newRow_92, u_M_newRow_93, u_M_newRow_96, u_M_newRow_98, u_M_newRow_99, u_M_newRow_100, u_M_newRow_102, u_M_newRow_103, u_M_newRow_104, u_M_newRow_105, u_M_newRow_108, u_M_newRow_111, u_M_newRow_112, h1_156, gt_156_41, h1_178, h2_178, gt_178, pt_178, ne_eq, not_false_eq_true, not_true_eq_false, true_and, and_true, true_or, or_true, eq_self, Option.toList_some, Option.toList_none, List.cons_append, List.nil_append, tc_0, tc_I, tc_L, tc_A, Nat.reduceAdd, Nat.reduceLeDiff, Nat.reduceEqDiff, Int.reduceEq, Int.reduceLT, Int.reduceLE, Int.reduceNeg, Int.reduceToNat, Int.cast_ofNat_Int, if_true, if_false, and_self, or_self, ite_self, bI_0, bI_1, bI_01, Bool.false_eq_true, reduceCtorEq, show ¬ (12 : Int) ≤ k by omega, w1, w2, show 0 ≤ 12 * (m : Int) + k by omega, show 12 * (m : Int) + k < 192 by omega, e1, wk, zfo_s]
        exact ih (k + 1) (by omega)
    have := lz 12 0 (by omega)
    rw [zfo_0] at this
    simp only [u_M_newRow_68, u_M_newRow_69, u_M_newRow_72, u_M_newRow_73, u_M_newRow_74, u_M_newRow_75, u_M_newRow_76, u_M_newRow_79, u_M_newRow_80, u_M_newRow_81, u_M_newRow_82, u_M_newRow_83, h1_156, gt_156_39, gt_156_40, h1_176, h2_176, gt_176, pt_176, h1_177, h2_177, gt_177, pt_177, ne_eq, not_false_eq_true, not_true_eq_false, true_and, and_true, true_or, or_true, eq_self, Option.toList_some, Option.toList_none, List.cons_append, List.nil_append, tc_0, tc_I, tc_L, tc_A, Nat.reduceAdd, Nat.reduceLeDiff, Nat.reduceEqDiff, Int.reduceEq, Int.reduceLT, Int.reduceLE, Int.reduceNeg, Int.reduceToNat, Int.cast_ofNat_Int, if_true, if_false, and_self, or_self, ite_self, bI_0, bI_1, bI_01, Bool.false_eq_true, reduceCtorEq, show 0 ≤ (m : Int) by omega, show (m : Int) < 16 by omega, Int.toNat_natCast]
    exact this
  have lo : ∀ (q m : Nat) (l5 : Option TV), m + q = 15 → (∀ z : Nat, z < m → ∃ h : Nat, h < 14 ∧ g 175 h = z) → VV L d m_M_newRow 5 [some (tA 156), some (tI kd), some (tI ct), some (tI m), some (tI 1), l5] [] (WW f t g) Q := by
    intro q
    induction q with
    | zero =>
      intro m l5 hm hh
      exact absurd (fun z hz => hh z (by omega)) (pigeon 14 (g 175))
    | succ q ih =>
      intro m l5 hm hh
      have li : ∀ (z k : Nat) (u : Int), k + z = 14 → ((u = 0 ∧ ∀ h : Nat, h < k → ¬ g 175 h = m) ∨ (u = 1 ∧ ∃ h : Nat, h < 14 ∧ g 175 h = m)) → VV L d m_M_newRow 16 [some (tA 156), some (tI kd), some (tI ct), some (tI m), some (tI u), some (tI k)] [] (WW f t g) Q := by
        intro z
        induction z with
        | zero =>
          intro k u hk hu
          have : k = 14 := by omega
          subst this
          rw [u_M_newRow_16]
          rcases hu with ⟨rfl, hu⟩ | ⟨rfl, hu⟩
          · have w0 : w32 ((m : Int) + 0) = m := by rw [w32_id (by omega) (by omega)]; omega
            simp only [u_M_newRow_18, u_M_newRow_20, u_M_newRow_23, u_M_newRow_25, u_M_newRow_28, u_M_newRow_29, u_M_newRow_32, u_M_newRow_34, u_M_newRow_35, u_M_newRow_36, u_M_newRow_39, u_M_newRow_40, u_M_newRow_43, u_M_newRow_44, u_M_newRow_46, u_M_newRow_49, u_M_newRow_52, u_M_newRow_53, u_M_newRow_55, u_M_newRow_58, u_M_newRow_59, u_M_newRow_62, u_M_newRow_63, u_M_newRow_64, u_M_newRow_65, ne_eq, not_false_eq_true, not_true_eq_false, true_and, and_true, true_or, or_true, eq_self, Option.toList_some, Option.toList_none, List.cons_append, List.nil_append, tc_0, tc_I, tc_L, tc_A, Nat.reduceAdd, Nat.reduceLeDiff, Nat.reduceEqDiff, Int.reduceEq, Int.reduceLT, Int.reduceLE, Int.reduceNeg, Int.reduceToNat, Int.cast_ofNat_Int, if_true, if_false, and_self, or_self, ite_self, bI_0, bI_1, bI_01, Bool.false_eq_true, reduceCtorEq, show (14 : Int) ≤ ((14 : Nat) : Int) by omega, w0]
            rw [u_M_newRow_5]
            simp only [u_M_newRow_7, ne_eq, not_false_eq_true, not_true_eq_false, true_and, and_true, true_or, or_true, eq_self, Option.toList_some, Option.toList_none, List.cons_append, List.nil_append, tc_0, tc_I, tc_L, tc_A, Nat.reduceAdd, Nat.reduceLeDiff, Nat.reduceEqDiff, Int.reduceEq, Int.reduceLT, Int.reduceLE, Int.reduceNeg, Int.reduceToNat, Int.cast_ofNat_Int, if_true, if_false, and_self, or_self, ite_self, bI_0, bI_1, bI_01, Bool.false_eq_true, reduceCtorEq]
            exact h68 m _ _ (by omega) hu
          · have w1 : w32 ((m : Int) + 1) = ((m + 1 : Nat) : Int) := by rw [w32_id (by omega) (by omega)]; omega
            simp only [u_M_newRow_18, u_M_newRow_20, u_M_newRow_23, u_M_newRow_25, u_M_newRow_28, u_M_newRow_29, u_M_newRow_32, u_M_newRow_34, u_M_newRow_35, u_M_newRow_36, u_M_newRow_39, u_M_newRow_40, u_M_newRow_43, u_M_newRow_44, u_M_newRow_46, u_M_newRow_49, u_M_newRow_52, u_M_newRow_53, u_M_newRow_55, u_M_newRow_58, u_M_newRow_59, u_M_newRow_62, u_M_newRow_63, u_M_newRow_64, u_M_newRow_65, ne_eq, not_false_eq_true, not_true_eq_false, true_and, and_true, true_or, or_true, eq_self, Option.toList_some, Option.toList_none, List.cons_append, List.nil_append, tc_0, tc_I, tc_L, tc_A, Nat.reduceAdd, Nat.reduceLeDiff, Nat.reduceEqDiff, Int.reduceEq, Int.reduceLT, Int.reduceLE, Int.reduceNeg, Int.reduceToNat, Int.cast_ofNat_Int, if_true, if_false, and_self, or_self, ite_self, bI_0, bI_1, bI_01, Bool.false_eq_true, reduceCtorEq, show (14 : Int) ≤ ((14 : Nat) : Int) by omega, w1]
            refine ih (m + 1) _ (by omega) (fun z hz => ?_)
            by_cases e : z = m
            · subst e; exact hu
            · exact hh z (by omega)
        | succ z ihz =>
          intro k u hk hu
          have wk : w32 ((k : Int) + 1) = ((k + 1 : Nat) : Int) := by rw [w32_id (by omega) (by omega)]; omega
          rw [u_M_newRow_16]
          rcases hu with ⟨rfl, hu⟩ | ⟨rfl, hu⟩
          · by_cases e : g 175 k = m
            · simp only [u_M_newRow_18, u_M_newRow_20, u_M_newRow_23, u_M_newRow_25, u_M_newRow_28, u_M_newRow_29, u_M_newRow_32, u_M_newRow_34, u_M_newRow_35, u_M_newRow_36, u_M_newRow_39, u_M_newRow_40, u_M_newRow_43, u_M_newRow_44, u_M_newRow_46, u_M_newRow_49, h1_156, gt_156_37, h1_175, h2_175, gt_175, pt_175, ne_eq, not_false_eq_true, not_true_eq_false, true_and, and_true, true_or, or_true, eq_self, Option.toList_some, Option.toList_none, List.cons_append, List.nil_append, tc_0, tc_I, tc_L, tc_A, Nat.reduceAdd, Nat.reduceLeDiff, Nat.reduceEqDiff, Int.reduceEq, Int.reduceLT, Int.reduceLE, Int.reduceNeg, Int.reduceToNat, Int.cast_ofNat_Int, if_true, if_false, and_self, or_self, ite_self, bI_0, bI_1, bI_01, Bool.false_eq_true, reduceCtorEq, show ¬ (14 : Int) ≤ k by omega, show 0 ≤ (k : Int) by omega, show (k : Int) < 14 by omega, Int.toNat_natCast, e, wk]
              exact ihz (k + 1) 1 (by omega) (Or.inr ⟨rfl, k, by omega, e⟩)
            · simp only [u_M_newRow_18, u_M_newRow_20, u_M_newRow_23, u_M_newRow_25, u_M_newRow_28, u_M_newRow_29, u_M_newRow_32, u_M_newRow_34, u_M_newRow_35, u_M_newRow_36, u_M_newRow_39, u_M_newRow_40, u_M_newRow_43, u_M_newRow_44, u_M_newRow_46, u_M_newRow_49, h1_156, gt_156_37, h1_175, h2_175, gt_175, pt_175, ne_eq, not_false_eq_true, not_true_eq_false, true_and, and_true, true_or, or_true, eq_self, Option.toList_some, Option.toList_none, List.cons_append, List.nil_append, tc_0, tc_I, tc_L, tc_A, Nat.reduceAdd, Nat.reduceLeDiff, Nat.reduceEqDiff, Int.reduceEq, Int.reduceLT, Int.reduceLE, Int.reduceNeg, Int.reduceToNat, Int.cast_ofNat_Int, if_true, if_false, and_self, or_self, ite_self, bI_0, bI_1, bI_01, Bool.false_eq_true, reduceCtorEq, show ¬ (14 : Int) ≤ k by omega, show 0 ≤ (k : Int) by omega, show (k : Int) < 14 by omega, Int.toNat_natCast, e, wk]
              refine ihz (k + 1) 0 (by omega) (Or.inl ⟨rfl, fun h hh2 => ?_⟩)
              by_cases e2 : h = k
              · subst e2; exact e
              · exact hu h (by omega)
          · simp only [u_M_newRow_18, u_M_newRow_20, u_M_newRow_23, u_M_newRow_25, u_M_newRow_28, u_M_newRow_29, u_M_newRow_32, u_M_newRow_34, u_M_newRow_35, u_M_newRow_36, u_M_newRow_39, u_M_newRow_40, u_M_newRow_43, u_M_newRow_44, u_M_newRow_46, u_M_newRow_49, h1_156, ne_eq, not_false_eq_true, not_true_eq_false, true_and, and_true, true_or, or_true, eq_self, Option.toList_some, Option.toList_none, List.cons_append, List.nil_append, tc_0, tc_I, tc_L, tc_A, Nat.reduceAdd, Nat.reduceLeDiff, Nat.reduceEqDiff, Int.reduceEq, Int.reduceLT, Int.reduceLE, Int.reduceNeg, Int.reduceToNat, Int.cast_ofNat_Int, if_true, if_false, and_self, or_self, ite_self, bI_0, bI_1, bI_01, Bool.false_eq_true, reduceCtorEq, show ¬ (14 : Int) ≤ k by omega, wk]
            exact ihz (k + 1) 1 (by omega) (Or.inr ⟨rfl, hu⟩)
      rw [u_M_newRow_5]
      simp only [u_M_newRow_7, u_M_newRow_10, u_M_newRow_11, u_M_newRow_13, u_M_newRow_14, ne_eq, not_false_eq_true, not_true_eq_false, true_and, and_true, true_or, or_true, eq_self, Option.toList_some, Option.toList_none, List.cons_append, List.nil_append, tc_0, tc_I, tc_L, tc_A, Nat.reduceAdd, Nat.reduceLeDiff, Nat.reduceEqDiff, Int.reduceEq, Int.reduceLT, Int.reduceLE, Int.reduceNeg, Int.reduceToNat, Int.cast_ofNat_Int, if_true, if_false, and_self, or_self, ite_self, bI_0, bI_1, bI_01, Bool.false_eq_true, reduceCtorEq]
      exact li 14 0 0 (by omega) (Or.inl ⟨rfl, fun h hh2 => by omega⟩)
  simp only [u_M_newRow_0, u_M_newRow_1, u_M_newRow_2, u_M_newRow_3, ne_eq, not_false_eq_true, not_true_eq_false, true_and, and_true, true_or, or_true, eq_self, Option.toList_some, Option.toList_none, List.cons_append, List.nil_append, tc_0, tc_I, tc_L, tc_A, Nat.reduceAdd, Nat.reduceLeDiff, Nat.reduceEqDiff, Int.reduceEq, Int.reduceLT, Int.reduceLE, Int.reduceNeg, Int.reduceToNat, Int.cast_ofNat_Int, if_true, if_false, and_self, or_self, ite_self, bI_0, bI_1, bI_01, Bool.false_eq_true, reduceCtorEq]
  exact lo 15 0 _ (by omega) (fun z hz => by omega)
end
