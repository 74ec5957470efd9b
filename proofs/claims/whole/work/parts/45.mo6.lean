/-! The reference's reader: sums and products -/
def NRl (T : Int → Int) (N N' R R' : Nat) (k j : Int) : Prop := (∀ x, x < 26 → N'.testBit x = (N.testBit x || hasTk T (97 + x) (j - k).toNat k)) ∧ (∀ x, x < 6 → R'.testBit x = (R.testBit x || hasTk T (65 + x) (j - k).toNat k))
theorem NRl_refl {T : Int → Int} {N R : Nat} {k : Int} : NRl T N N R R k k := by
  refine ⟨fun x _ => ?_, fun x _ => ?_⟩ <;> (rw [show (k - k).toNat = 0 by omega]; simp [hasTk])
theorem hasTk_add {T : Int → Int} {tk : Int} : ∀ (a b : Nat) (i : Int), hasTk T tk (a + b) i = (hasTk T tk a i || hasTk T tk b (i + a)) := by
  intro a
  induction a with
  | zero => intro b i; simp [hasTk]
  | succ a ih =>
    intro b i
    rw [show a + 1 + b = (a + b) + 1 by omega]
    show (decide (T i = tk) || hasTk T tk (a + b) (i + 1)) = ((decide (T i = tk) || hasTk T tk a (i + 1)) || hasTk T tk b (i + ((a + 1 : Nat) : Int)))
    rw [ih b (i + 1), show i + 1 + (a : Int) = i + ((a + 1 : Nat) : Int) by omega, Bool.or_assoc]
theorem NRl_trans {T : Int → Int} {N N' N'' R R' R'' : Nat} {k j l : Int} (h1 : NRl T N N' R R' k j) (h2 : NRl T N' N'' R' R'' j l) (hkj : k ≤ j) (hjl : j ≤ l) : NRl T N N'' R R'' k l := by
  have e : (l - k).toNat = (j - k).toNat + (l - j).toNat := by omega
  have e2 : k + ((j - k).toNat : Int) = j := by omega
  refine ⟨fun x hx => ?_, fun x hx => ?_⟩
  · rw [h2.1 x hx, h1.1 x hx, e, hasTk_add, e2, Bool.or_assoc]
  · rw [h2.2 x hx, h1.2 x hx, e, hasTk_add, e2, Bool.or_assoc]
theorem NRl_one {T : Int → Int} {N R : Nat} {k : Int} (h : T k < 65 ∨ 122 < T k ∨ (70 < T k ∧ T k < 97)) : NRl T N N R R k (k + 1) := by
  refine ⟨fun x hx => ?_, fun x hx => ?_⟩ <;> (rw [show (k + 1 - k).toNat = 1 by omega]; simp only [hasTk]; rw [decide_eq_false (by omega)]; simp)
theorem NRl_skip {T : Int → Int} {N N' R R' : Nat} {k j : Int} (h : NRl T N N' R R' (k + 1) j) (hj : k + 1 ≤ j) (hT : T k < 65 ∨ 122 < T k ∨ (70 < T k ∧ T k < 97)) : NRl T N N' R R' k j := NRl_trans (NRl_one hT) h (by omega) hj
/-- the answer of a reading method: RM of one that reads something, RL of a loop -/
def RM (y : Int → Int) (n : Int) (len : Nat) (g0 f t : Mem) (op : Int) (Q : Option TV → Wd → Prop) (k : Int) (N R : Nat) {α : Type} : PR α → Prop
  | .ok (_, j) => ∀ g' N' R', ME y n len g0 j op N' R' g' → NRl (Tk y len) N N' R R' k j → kEnd (Tk y len (j - 1)) = true → k < j → Q (some (tI 1)) (WW f t g')
  | .error (w, i, _) => ∀ g', FE g0 g' → g' 156 12 = w → g' 156 13 = sk y (eN y i.toNat) → Q (some (tI 0)) (WW f t g')
def RL (y : Int → Int) (n : Int) (len : Nat) (g0 f t : Mem) (op : Int) (Q : Option TV → Wd → Prop) (k : Int) (N R : Nat) {α : Type} : PR α → Prop
  | .ok (_, j) => ∀ g' N' R', ME y n len g0 j op N' R' g' → NRl (Tk y len) N N' R R' k j → kEnd (Tk y len (j - 1)) = true → k ≤ j → Q (some (tI 1)) (WW f t g')
  | .error (w, i, _) => ∀ g', FE g0 g' → g' 156 12 = w → g' 156 13 = sk y (eN y i.toNat) → Q (some (tI 0)) (WW f t g')
theorem Tk_lt {y : Int → Int} {len : Nat} {k : Int} (h : ¬ Tk y len k = 0) : k < len := by
  unfold Tk at h; split at h
  · omega
  · exact absurd rfl h
section
variable {L d : Nat} {f t g g0 : Mem} {Q : Option TV → Wd → Prop} {y : Int → Int} {n k op c : Int} {len N R : Nat}
theorem m_is (hL : Lexd y n len) (h : ME y n len g0 k op N R g) (hc : sgn c = true) (hQ : ∀ g', ME y n len g0 k op N R g' → LKs y len k g' → Q (some (tI (bB (decide (Tk y len k = c))))) (WW f t g')) : VV L (d + 4) m_M_is 0 [some (tA 156), some (tI 7), some (tI c)] [] (WW f t g) Q := by
  simp only [u_M_is_0, u_M_is_1, u_M_is_4, u_M_is_5, u_M_is_8, u_M_is_9, u_M_is_12, u_M_is_13, u_M_is_16, u_M_is_17, u_M_is_20, u_M_is_21, u_M_is_24, u_M_is_25, h1_156, gt_156_6, pt_156_6, gt_156_7, pt_156_7, ne_eq, not_false_eq_true, not_true_eq_false, true_and, and_true, true_or, or_true, eq_self, Option.toList_some, Option.toList_none, List.cons_append, List.nil_append, tc_0, tc_I, tc_L, tc_A, Nat.reduceAdd, Nat.reduceLeDiff, Nat.reduceEqDiff, Int.reduceEq, Int.reduceLT, Int.reduceLE, Int.reduceNeg, Int.reduceToNat, Int.cast_ofNat_Int, if_true, if_false, and_self, or_self, ite_self, bI_0, bI_1, bI_01, Bool.false_eq_true, reduceCtorEq]
  refine m_look hL h (fun g' h' hl => ?_)
  have hq := hQ g' h' hl
  simp only [u_M_is_0, u_M_is_1, u_M_is_4, u_M_is_5, u_M_is_8, u_M_is_9, u_M_is_12, u_M_is_13, u_M_is_16, u_M_is_17, u_M_is_20, u_M_is_21, u_M_is_24, u_M_is_25, h1_156, gt_156_6, pt_156_6, gt_156_7, pt_156_7, ne_eq, not_false_eq_true, not_true_eq_false, true_and, and_true, true_or, or_true, eq_self, Option.toList_some, Option.toList_none, List.cons_append, List.nil_append, tc_0, tc_I, tc_L, tc_A, Nat.reduceAdd, Nat.reduceLeDiff, Nat.reduceEqDiff, Int.reduceEq, Int.reduceLT, Int.reduceLE, Int.reduceNeg, Int.reduceToNat, Int.cast_ofNat_Int, if_true, if_false, and_self, or_self, ite_self, bI_0, bI_1, bI_01, Bool.false_eq_true, reduceCtorEq, hl.2.1, hl.2.2.1]
  have hi := sg_iff (x := Tk y len k) hc
  by_cases e : Tk y len k = c
  · have := hi.mpr e
    simp only [e, decide_true, bB_t] at hq
    simp only [this.1, this.2, ne_eq, not_false_eq_true, not_true_eq_false, true_and, and_true, true_or, or_true, eq_self, Option.toList_some, Option.toList_none, List.cons_append, List.nil_append, tc_0, tc_I, tc_L, tc_A, Nat.reduceAdd, Nat.reduceLeDiff, Nat.reduceEqDiff, Int.reduceEq, Int.reduceLT, Int.reduceLE, Int.reduceNeg, Int.reduceToNat, Int.cast_ofNat_Int, if_true, if_false, and_self, or_self, ite_self, bI_0, bI_1, bI_01, Bool.false_eq_true, reduceCtorEq]; exact hq
  · simp only [e, decide_false, bB_f] at hq
    by_cases e1 : srt (Tk y len k) = 7
    · have e2 : ¬ whc (Tk y len k) = c := fun h2 => e (hi.mp ⟨e1, h2⟩)
      simp only [e1, e2, ne_eq, not_false_eq_true, not_true_eq_false, true_and, and_true, true_or, or_true, eq_self, Option.toList_some, Option.toList_none, List.cons_append, List.nil_append, tc_0, tc_I, tc_L, tc_A, Nat.reduceAdd, Nat.reduceLeDiff, Nat.reduceEqDiff, Int.reduceEq, Int.reduceLT, Int.reduceLE, Int.reduceNeg, Int.reduceToNat, Int.cast_ofNat_Int, if_true, if_false, and_self, or_self, ite_self, bI_0, bI_1, bI_01, Bool.false_eq_true, reduceCtorEq]; exact hq
    · simp only [e1, ne_eq, not_false_eq_true, not_true_eq_false, true_and, and_true, true_or, or_true, eq_self, Option.toList_some, Option.toList_none, List.cons_append, List.nil_append, tc_0, tc_I, tc_L, tc_A, Nat.reduceAdd, Nat.reduceLeDiff, Nat.reduceEqDiff, Int.reduceEq, Int.reduceLT, Int.reduceLE, Int.reduceNeg, Int.reduceToNat, Int.cast_ofNat_Int, if_true, if_false, and_self, or_self, ite_self, bI_0, bI_1, bI_01, Bool.false_eq_true, reduceCtorEq]; exact hq
theorem m_fails {w z : Int} (hF : FE g0 g) (hQ : ∀ g', FE g0 g' → g' 156 12 = w → g' 156 13 = z → Q (some (tI 0)) (WW f t g')) : VV L d m_M_fails 0 [some (tA 156), some (tI w), some (tI z)] [] (WW f t g) Q := by
  rw [s_M_fails]
  refine hQ _ (fun c j hcj => ?_) rfl rfl
  rw [← hF c j hcj]
  unfold scE at hcj
  simp only [rd]; grind
theorem l4_M_readT (hL : Lexd y n len) (h : ME y n len g0 k op N R g) (hY : kPro (Tk y len k) = true → ∀ g', ME y n len g0 k op N R g' → LKs y len k g' → VV L (d + 5) m_M_readT 53 [some (tA 156), some (tI 1)] [] (WW f t g') Q) (hN : ¬ kPro (Tk y len k) = true → ∀ g', ME y n len g0 k op N R g' → VV L (d + 5) m_M_readT 65 [some (tA 156), some (tI 1)] [] (WW f t g') Q) : VV L (d + 5) m_M_readT 5 [some (tA 156), some (tI 1)] [] (WW f t g) Q := by
  rw [u_M_readT_5]
  simp only [u_M_readT_6, u_M_readT_9, u_M_readT_10, u_M_readT_12, u_M_readT_14, ne_eq, not_false_eq_true, not_true_eq_false, true_and, and_true, true_or, or_true, eq_self, Option.toList_some, Option.toList_none, List.cons_append, List.nil_append, tc_0, tc_I, tc_L, tc_A, Nat.reduceAdd, Nat.reduceLeDiff, Nat.reduceEqDiff, Int.reduceEq, Int.reduceLT, Int.reduceLE, Int.reduceNeg, Int.reduceToNat, Int.cast_ofNat_Int, if_true, if_false, and_self, or_self, ite_self, bI_0, bI_1, bI_01, Bool.false_eq_true, reduceCtorEq, h1_156]
  refine m_is (c := 42) hL h (by decide) (fun g1 h1 k1 => ?_)
  by_cases c1 : Tk y len k = 42
  · simp only [c1, u_M_readT_17, u_M_readT_20, u_M_readT_21, u_M_readT_23, u_M_readT_25, u_M_readT_28, u_M_readT_31, u_M_readT_32, u_M_readT_34, u_M_readT_36, u_M_readT_39, u_M_readT_42, u_M_readT_43, u_M_readT_45, u_M_readT_47, u_M_readT_50, ne_eq, not_false_eq_true, not_true_eq_false, true_and, and_true, true_or, or_true, eq_self, Option.toList_some, Option.toList_none, List.cons_append, List.nil_append, tc_0, tc_I, tc_L, tc_A, Nat.reduceAdd, Nat.reduceLeDiff, Nat.reduceEqDiff, Int.reduceEq, Int.reduceLT, Int.reduceLE, Int.reduceNeg, Int.reduceToNat, Int.cast_ofNat_Int, if_true, if_false, and_self, or_self, ite_self, bI_0, bI_1, bI_01, Bool.false_eq_true, reduceCtorEq, bB, decide_true]
    exact hY (by rw [c1]; rfl) g1 h1 (by rw [← c1] at *; exact k1)
  simp only [c1, u_M_readT_17, u_M_readT_20, u_M_readT_21, u_M_readT_23, u_M_readT_25, ne_eq, not_false_eq_true, not_true_eq_false, true_and, and_true, true_or, or_true, eq_self, Option.toList_some, Option.toList_none, List.cons_append, List.nil_append, tc_0, tc_I, tc_L, tc_A, Nat.reduceAdd, Nat.reduceLeDiff, Nat.reduceEqDiff, Int.reduceEq, Int.reduceLT, Int.reduceLE, Int.reduceNeg, Int.reduceToNat, Int.cast_ofNat_Int, if_true, if_false, and_self, or_self, ite_self, bI_0, bI_1, bI_01, Bool.false_eq_true, reduceCtorEq, bB, decide_false, h1_156]
  refine m_is (c := 47) hL h1 (by decide) (fun g2 h2 k2 => ?_)
  by_cases c2 : Tk y len k = 47
  · simp only [c2, u_M_readT_28, u_M_readT_31, u_M_readT_32, u_M_readT_34, u_M_readT_36, u_M_readT_39, u_M_readT_42, u_M_readT_43, u_M_readT_45, u_M_readT_47, u_M_readT_50, ne_eq, not_false_eq_true, not_true_eq_false, true_and, and_true, true_or, or_true, eq_self, Option.toList_some, Option.toList_none, List.cons_append, List.nil_append, tc_0, tc_I, tc_L, tc_A, Nat.reduceAdd, Nat.reduceLeDiff, Nat.reduceEqDiff, Int.reduceEq, Int.reduceLT, Int.reduceLE, Int.reduceNeg, Int.reduceToNat, Int.cast_ofNat_Int, if_true, if_false, and_self, or_self, ite_self, bI_0, bI_1, bI_01, Bool.false_eq_true, reduceCtorEq, bB, decide_true]
    exact hY (by rw [c2]; rfl) g2 h2 (by rw [← c2] at *; exact k2)
  simp only [c2, u_M_readT_28, u_M_readT_31, u_M_readT_32, u_M_readT_34, u_M_readT_36, ne_eq, not_false_eq_true, not_true_eq_false, true_and, and_true, true_or, or_true, eq_self, Option.toList_some, Option.toList_none, List.cons_append, List.nil_append, tc_0, tc_I, tc_L, tc_A, Nat.reduceAdd, Nat.reduceLeDiff, Nat.reduceEqDiff, Int.reduceEq, Int.reduceLT, Int.reduceLE, Int.reduceNeg, Int.reduceToNat, Int.cast_ofNat_Int, if_true, if_false, and_self, or_self, ite_self, bI_0, bI_1, bI_01, Bool.false_eq_true, reduceCtorEq, bB, decide_false, h1_156]
  refine m_is (c := 37) hL h2 (by decide) (fun g3 h3 k3 => ?_)
  by_cases c3 : Tk y len k = 37
  · simp only [c3, u_M_readT_39, u_M_readT_42, u_M_readT_43, u_M_readT_45, u_M_readT_47, u_M_readT_50, ne_eq, not_false_eq_true, not_true_eq_false, true_and, and_true, true_or, or_true, eq_self, Option.toList_some, Option.toList_none, List.cons_append, List.nil_append, tc_0, tc_I, tc_L, tc_A, Nat.reduceAdd, Nat.reduceLeDiff, Nat.reduceEqDiff, Int.reduceEq, Int.reduceLT, Int.reduceLE, Int.reduceNeg, Int.reduceToNat, Int.cast_ofNat_Int, if_true, if_false, and_self, or_self, ite_self, bI_0, bI_1, bI_01, Bool.false_eq_true, reduceCtorEq, bB, decide_true]
    exact hY (by rw [c3]; rfl) g3 h3 (by rw [← c3] at *; exact k3)
  simp only [c3, u_M_readT_39, u_M_readT_42, u_M_readT_43, u_M_readT_45, u_M_readT_47, ne_eq, not_false_eq_true, not_true_eq_false, true_and, and_true, true_or, or_true, eq_self, Option.toList_some, Option.toList_none, List.cons_append, List.nil_append, tc_0, tc_I, tc_L, tc_A, Nat.reduceAdd, Nat.reduceLeDiff, Nat.reduceEqDiff, Int.reduceEq, Int.reduceLT, Int.reduceLE, Int.reduceNeg, Int.reduceToNat, Int.cast_ofNat_Int, if_true, if_false, and_self, or_self, ite_self, bI_0, bI_1, bI_01, Bool.false_eq_true, reduceCtorEq, bB, decide_false, h1_156]
  refine m_is (c := 38) hL h3 (by decide) (fun g4 h4 k4 => ?_)
  by_cases c4 : Tk y len k = 38
  · simp only [c4, u_M_readT_50, ne_eq, not_false_eq_true, not_true_eq_false, true_and, and_true, true_or, or_true, eq_self, Option.toList_some, Option.toList_none, List.cons_append, List.nil_append, tc_0, tc_I, tc_L, tc_A, Nat.reduceAdd, Nat.reduceLeDiff, Nat.reduceEqDiff, Int.reduceEq, Int.reduceLT, Int.reduceLE, Int.reduceNeg, Int.reduceToNat, Int.cast_ofNat_Int, if_true, if_false, and_self, or_self, ite_self, bI_0, bI_1, bI_01, Bool.false_eq_true, reduceCtorEq, bB, decide_true]
    exact hY (by rw [c4]; rfl) g4 h4 (by rw [← c4] at *; exact k4)
  simp only [c4, u_M_readT_50, ne_eq, not_false_eq_true, not_true_eq_false, true_and, and_true, true_or, or_true, eq_self, Option.toList_some, Option.toList_none, List.cons_append, List.nil_append, tc_0, tc_I, tc_L, tc_A, Nat.reduceAdd, Nat.reduceLeDiff, Nat.reduceEqDiff, Int.reduceEq, Int.reduceLT, Int.reduceLE, Int.reduceNeg, Int.reduceToNat, Int.cast_ofNat_Int, if_true, if_false, and_self, or_self, ite_self, bI_0, bI_1, bI_01, Bool.false_eq_true, reduceCtorEq, bB, decide_false]
  exact hN (by unfold kPro; simp; omega) g4 h4
theorem l_M_readT {F : Type} {pp : Int → PR F} (hL : Lexd y n len) (hn6 : n ≤ 600) (hP : ∀ (g : Mem) (k : Int) (N R : Nat) (Q : Option TV → Wd → Prop), ME y n len g0 k op N R g → ¬ kEnd (Tk y len (k - 1)) = true → RM y n len g0 f t op Q k N R (pp k) → VV L (d + 4) m_M_readF 0 [some (tA 156), none] [] (WW f t g) Q) : ∀ (m : Nat) (j : Int) (N R : Nat) (g : Mem), len - j ≤ m → ME y n len g0 j op N R g → kEnd (Tk y len (j - 1)) = true → RL y n len g0 f t op Q j N R (pMore (Tk y len) pp kPro m j) → VV L (d + 5) m_M_readT 5 [some (tA 156), some (tI 1)] [] (WW f t g) Q := by
  intro m
  induction m with
  | zero =>
    intro j N R g hm h hK hR
    refine l4_M_readT hL h (fun hs => ?_) (fun hs g' h' => ?_)
    · have : Tk y len j = 0 := by unfold Tk; rw [if_neg (by omega)]
      rw [this] at hs; cases hs
    · simp only [u_M_readT_65, u_M_readT_66, ne_eq, not_false_eq_true, not_true_eq_false, true_and, and_true, true_or, or_true, eq_self, Option.toList_some, Option.toList_none, List.cons_append, List.nil_append, tc_0, tc_I, tc_L, tc_A, Nat.reduceAdd, Nat.reduceLeDiff, Nat.reduceEqDiff, Int.reduceEq, Int.reduceLT, Int.reduceLE, Int.reduceNeg, Int.reduceToNat, Int.cast_ofNat_Int, if_true, if_false, and_self, or_self, ite_self, bI_0, bI_1, bI_01, Bool.false_eq_true, reduceCtorEq]
      exact hR g' N R h' (NRl_refl) hK (Int.le_refl _)
  | succ m ih =>
    intro j N R g hm h hK hR
    refine l4_M_readT hL h (fun hs g' h' hl => ?_) (fun hs g' h' => ?_)
    · have hj : j < len := Tk_lt (kPro_ne hs)
      simp only [u_M_readT_53, u_M_readT_54, ne_eq, not_false_eq_true, not_true_eq_false, true_and, and_true, true_or, or_true, eq_self, Option.toList_some, Option.toList_none, List.cons_append, List.nil_append, tc_0, tc_I, tc_L, tc_A, Nat.reduceAdd, Nat.reduceLeDiff, Nat.reduceEqDiff, Int.reduceEq, Int.reduceLT, Int.reduceLE, Int.reduceNeg, Int.reduceToNat, Int.cast_ofNat_Int, if_true, if_false, and_self, or_self, ite_self, bI_0, bI_1, bI_01, Bool.false_eq_true, reduceCtorEq, h1_156]
      refine m_take0 hL hn6 h' hj (by rw [hl.2.1]; unfold eS; rw [if_neg (fun hh => hh.2 hK)]) hl.2.2.1 (hl.2.2.2 hj) (fun g2 h2 => ?_)
      simp only [u_M_readT_57, u_M_readT_58, ne_eq, not_false_eq_true, not_true_eq_false, true_and, and_true, true_or, or_true, eq_self, Option.toList_some, Option.toList_none, List.cons_append, List.nil_append, tc_0, tc_I, tc_L, tc_A, Nat.reduceAdd, Nat.reduceLeDiff, Nat.reduceEqDiff, Int.reduceEq, Int.reduceLT, Int.reduceLE, Int.reduceNeg, Int.reduceToNat, Int.cast_ofNat_Int, if_true, if_false, and_self, or_self, ite_self, bI_0, bI_1, bI_01, Bool.false_eq_true, reduceCtorEq, h1_156]
      have hne : ¬ kEnd (Tk y len (j + 1 - 1)) = true := by
        rw [show j + 1 - 1 = j by omega]; unfold kPro at hs; unfold kEnd; simp at hs ⊢; omega
      refine hP g2 (j + 1) N R _ h2 hne ?_
      unfold pMore at hR
      rw [if_pos hs] at hR
      cases hp : pp (j + 1) with
      | error e =>
        obtain ⟨w, i, z⟩ := e
        rw [hp] at hR
        intro g3 f3 a3 b3
        simp only [u_M_readT_0, u_M_readT_1, u_M_readT_4, u_M_readT_6, u_M_readT_9, u_M_readT_10, u_M_readT_12, u_M_readT_14, u_M_readT_17, u_M_readT_20, u_M_readT_21, u_M_readT_23, u_M_readT_25, u_M_readT_28, u_M_readT_31, u_M_readT_32, u_M_readT_34, u_M_readT_36, u_M_readT_39, u_M_readT_42, u_M_readT_43, u_M_readT_45, u_M_readT_47, u_M_readT_50, u_M_readT_53, u_M_readT_54, u_M_readT_57, u_M_readT_58, u_M_readT_61, u_M_readT_62, u_M_readT_65, u_M_readT_66, h1_156, ne_eq, not_false_eq_true, not_true_eq_false, true_and, and_true, true_or, or_true, eq_self, Option.toList_some, Option.toList_none, List.cons_append, List.nil_append, tc_0, tc_I, tc_L, tc_A, Nat.reduceAdd, Nat.reduceLeDiff, Nat.reduceEqDiff, Int.reduceEq, Int.reduceLT, Int.reduceLE, Int.reduceNeg, Int.reduceToNat, Int.cast_ofNat_Int, if_true, if_false, and_self, or_self, ite_self, bI_0, bI_1, bI_01, Bool.false_eq_true, reduceCtorEq]
        rw [u_M_readT_5]
        simp only [u_M_readT_6, u_M_readT_65, u_M_readT_66, ne_eq, not_false_eq_true, not_true_eq_false, true_and, and_true, true_or, or_true, eq_self, Option.toList_some, Option.toList_none, List.cons_append, List.nil_append, tc_0, tc_I, tc_L, tc_A, Nat.reduceAdd, Nat.reduceLeDiff, Nat.reduceEqDiff, Int.reduceEq, Int.reduceLT, Int.reduceLE, Int.reduceNeg, Int.reduceToNat, Int.cast_ofNat_Int, if_true, if_false, and_self, or_self, ite_self, bI_0, bI_1, bI_01, Bool.false_eq_true, reduceCtorEq]
        exact hR g3 f3 a3 b3
      | ok z =>
        obtain ⟨x, j2⟩ := z
        rw [hp] at hR
        dsimp only at hR
        intro g3 N3 R3 h3 hN3 hK3 hlt3
        simp only [u_M_readT_0, u_M_readT_1, u_M_readT_4, u_M_readT_6, u_M_readT_9, u_M_readT_10, u_M_readT_12, u_M_readT_14, u_M_readT_17, u_M_readT_20, u_M_readT_21, u_M_readT_23, u_M_readT_25, u_M_readT_28, u_M_readT_31, u_M_readT_32, u_M_readT_34, u_M_readT_36, u_M_readT_39, u_M_readT_42, u_M_readT_43, u_M_readT_45, u_M_readT_47, u_M_readT_50, u_M_readT_53, u_M_readT_54, u_M_readT_57, u_M_readT_58, u_M_readT_61, u_M_readT_62, u_M_readT_65, u_M_readT_66, h1_156, ne_eq, not_false_eq_true, not_true_eq_false, true_and, and_true, true_or, or_true, eq_self, Option.toList_some, Option.toList_none, List.cons_append, List.nil_append, tc_0, tc_I, tc_L, tc_A, Nat.reduceAdd, Nat.reduceLeDiff, Nat.reduceEqDiff, Int.reduceEq, Int.reduceLT, Int.reduceLE, Int.reduceNeg, Int.reduceToNat, Int.cast_ofNat_Int, if_true, if_false, and_self, or_self, ite_self, bI_0, bI_1, bI_01, Bool.false_eq_true, reduceCtorEq]
        refine ih j2 N3 R3 g3 (by omega) h3 hK3 ?_
        revert hR
        cases pMore (Tk y len) pp kPro m j2 with
        | error e =>
          obtain ⟨w, i, z⟩ := e
          intro hR
          exact hR
        | ok z =>
          obtain ⟨l, j4⟩ := z
          intro hR g4 N4 R4 h4 hN4 hK4 hle4
          refine hR g4 N4 R4 h4 ?_ hK4 (by omega)
          exact NRl_trans (NRl_skip hN3 (by omega) (show (Tk y len j < 65 ∨ 122 < Tk y len j ∨ (70 < Tk y len j ∧ Tk y len j < 97)) by unfold kPro at hs; simp at hs; omega)) hN4 (by omega) hle4
    · simp only [u_M_readT_65, u_M_readT_66, ne_eq, not_false_eq_true, not_true_eq_false, true_and, and_true, true_or, or_true, eq_self, Option.toList_some, Option.toList_none, List.cons_append, List.nil_append, tc_0, tc_I, tc_L, tc_A, Nat.reduceAdd, Nat.reduceLeDiff, Nat.reduceEqDiff, Int.reduceEq, Int.reduceLT, Int.reduceLE, Int.reduceNeg, Int.reduceToNat, Int.cast_ofNat_Int, if_true, if_false, and_self, or_self, ite_self, bI_0, bI_1, bI_01, Bool.false_eq_true, reduceCtorEq]
      unfold pMore at hR
      rw [if_neg hs] at hR
      exact hR g' N R h' (NRl_refl) hK (Int.le_refl _)
theorem p_M_readT {F : Type} {pp : Int → PR F} (hL : Lexd y n len) (hn6 : n ≤ 600) (hP : ∀ (g : Mem) (k : Int) (N R : Nat) (Q : Option TV → Wd → Prop), ME y n len g0 k op N R g → ¬ kEnd (Tk y len (k - 1)) = true → RM y n len g0 f t op Q k N R (pp k) → VV L (d + 4) m_M_readF 0 [some (tA 156), none] [] (WW f t g) Q) (h : ME y n len g0 k op N R g) (hK : ¬ kEnd (Tk y len (k - 1)) = true) (hQ : RM y n len g0 f t op Q k N R (pTX (Tk y len) pp k)) : VV L (d + 5) m_M_readT 0 [some (tA 156), none] [] (WW f t g) Q := by
  simp only [u_M_readT_0, u_M_readT_1, u_M_readT_4, u_M_readT_6, u_M_readT_9, u_M_readT_10, u_M_readT_12, u_M_readT_14, u_M_readT_17, u_M_readT_20, u_M_readT_21, u_M_readT_23, u_M_readT_25, u_M_readT_28, u_M_readT_31, u_M_readT_32, u_M_readT_34, u_M_readT_36, u_M_readT_39, u_M_readT_42, u_M_readT_43, u_M_readT_45, u_M_readT_47, u_M_readT_50, u_M_readT_53, u_M_readT_54, u_M_readT_57, u_M_readT_58, u_M_readT_61, u_M_readT_62, u_M_readT_65, u_M_readT_66, h1_156, ne_eq, not_false_eq_true, not_true_eq_false, true_and, and_true, true_or, or_true, eq_self, Option.toList_some, Option.toList_none, List.cons_append, List.nil_append, tc_0, tc_I, tc_L, tc_A, Nat.reduceAdd, Nat.reduceLeDiff, Nat.reduceEqDiff, Int.reduceEq, Int.reduceLT, Int.reduceLE, Int.reduceNeg, Int.reduceToNat, Int.cast_ofNat_Int, if_true, if_false, and_self, or_self, ite_self, bI_0, bI_1, bI_01, Bool.false_eq_true, reduceCtorEq]
  refine hP g k N R _ h hK ?_
  unfold pTX at hQ
  cases hp : pp k with
  | error e =>
    obtain ⟨w, i, z⟩ := e
    rw [hp] at hQ
    intro g3 f3 a3 b3
    simp only [u_M_readT_0, u_M_readT_1, u_M_readT_4, u_M_readT_6, u_M_readT_9, u_M_readT_10, u_M_readT_12, u_M_readT_14, u_M_readT_17, u_M_readT_20, u_M_readT_21, u_M_readT_23, u_M_readT_25, u_M_readT_28, u_M_readT_31, u_M_readT_32, u_M_readT_34, u_M_readT_36, u_M_readT_39, u_M_readT_42, u_M_readT_43, u_M_readT_45, u_M_readT_47, u_M_readT_50, u_M_readT_53, u_M_readT_54, u_M_readT_57, u_M_readT_58, u_M_readT_61, u_M_readT_62, u_M_readT_65, u_M_readT_66, h1_156, ne_eq, not_false_eq_true, not_true_eq_false, true_and, and_true, true_or, or_true, eq_self, Option.toList_some, Option.toList_none, List.cons_append, List.nil_append, tc_0, tc_I, tc_L, tc_A, Nat.reduceAdd, Nat.reduceLeDiff, Nat.reduceEqDiff, Int.reduceEq, Int.reduceLT, Int.reduceLE, Int.reduceNeg, Int.reduceToNat, Int.cast_ofNat_Int, if_true, if_false, and_self, or_self, ite_self, bI_0, bI_1, bI_01, Bool.false_eq_true, reduceCtorEq]
    rw [u_M_readT_5]
    simp only [u_M_readT_6, u_M_readT_65, u_M_readT_66, ne_eq, not_false_eq_true, not_true_eq_false, true_and, and_true, true_or, or_true, eq_self, Option.toList_some, Option.toList_none, List.cons_append, List.nil_append, tc_0, tc_I, tc_L, tc_A, Nat.reduceAdd, Nat.reduceLeDiff, Nat.reduceEqDiff, Int.reduceEq, Int.reduceLT, Int.reduceLE, Int.reduceNeg, Int.reduceToNat, Int.cast_ofNat_Int, if_true, if_false, and_self, or_self, ite_self, bI_0, bI_1, bI_01, Bool.false_eq_true, reduceCtorEq]
    exact hQ g3 f3 a3 b3
  | ok z =>
    obtain ⟨x, j⟩ := z
    rw [hp] at hQ
    dsimp only at hQ
    intro g3 N3 R3 h3 hN3 hK3 hlt3
    simp only [u_M_readT_0, u_M_readT_1, u_M_readT_4, u_M_readT_6, u_M_readT_9, u_M_readT_10, u_M_readT_12, u_M_readT_14, u_M_readT_17, u_M_readT_20, u_M_readT_21, u_M_readT_23, u_M_readT_25, u_M_readT_28, u_M_readT_31, u_M_readT_32, u_M_readT_34, u_M_readT_36, u_M_readT_39, u_M_readT_42, u_M_readT_43, u_M_readT_45, u_M_readT_47, u_M_readT_50, u_M_readT_53, u_M_readT_54, u_M_readT_57, u_M_readT_58, u_M_readT_61, u_M_readT_62, u_M_readT_65, u_M_readT_66, h1_156, ne_eq, not_false_eq_true, not_true_eq_false, true_and, and_true, true_or, or_true, eq_self, Option.toList_some, Option.toList_none, List.cons_append, List.nil_append, tc_0, tc_I, tc_L, tc_A, Nat.reduceAdd, Nat.reduceLeDiff, Nat.reduceEqDiff, Int.reduceEq, Int.reduceLT, Int.reduceLE, Int.reduceNeg, Int.reduceToNat, Int.cast_ofNat_Int, if_true, if_false, and_self, or_self, ite_self, bI_0, bI_1, bI_01, Bool.false_eq_true, reduceCtorEq]
    refine l_M_readT hL hn6 hP 600 j N3 R3 g3 (by have := hL.1; have := h3.2.2.2.2.2.2.2.2.1; omega) h3 hK3 ?_
    revert hQ
    cases pMore (Tk y len) pp kPro 600 j with
    | error e =>
      obtain ⟨w, i, z⟩ := e
      intro hQ
      exact hQ
    | ok z =>
      obtain ⟨l, j4⟩ := z
      intro hQ g4 N4 R4 h4 hN4 hK4 hle4
      exact hQ g4 N4 R4 h4 (NRl_trans hN3 hN4 (by omega) hle4) hK4 (by omega)
theorem l4_M_readE (hL : Lexd y n len) (h : ME y n len g0 k op N R g) (hY : kSum (Tk y len k) = true → ∀ g', ME y n len g0 k op N R g' → LKs y len k g' → VV L (d + 5) m_M_readE 53 [some (tA 156), some (tI 1)] [] (WW f t g') Q) (hN : ¬ kSum (Tk y len k) = true → ∀ g', ME y n len g0 k op N R g' → VV L (d + 5) m_M_readE 65 [some (tA 156), some (tI 1)] [] (WW f t g') Q) : VV L (d + 5) m_M_readE 5 [some (tA 156), some (tI 1)] [] (WW f t g) Q := by
  rw [u_M_readE_5]
  simp only [u_M_readE_6, u_M_readE_9, u_M_readE_10, u_M_readE_12, u_M_readE_14, ne_eq, not_false_eq_true, not_true_eq_false, true_and, and_true, true_or, or_true, eq_self, Option.toList_some, Option.toList_none, List.cons_append, List.nil_append, tc_0, tc_I, tc_L, tc_A, Nat.reduceAdd, Nat.reduceLeDiff, Nat.reduceEqDiff, Int.reduceEq, Int.reduceLT, Int.reduceLE, Int.reduceNeg, Int.reduceToNat, Int.cast_ofNat_Int, if_true, if_false, and_self, or_self, ite_self, bI_0, bI_1, bI_01, Bool.false_eq_true, reduceCtorEq, h1_156]
  refine m_is (c := 43) hL h (by decide) (fun g1 h1 k1 => ?_)
  by_cases c1 : Tk y len k = 43
  · simp only [c1, u_M_readE_17, u_M_readE_20, u_M_readE_21, u_M_readE_23, u_M_readE_25, u_M_readE_28, u_M_readE_31, u_M_readE_32, u_M_readE_34, u_M_readE_36, u_M_readE_39, u_M_readE_42, u_M_readE_43, u_M_readE_45, u_M_readE_47, u_M_readE_50, ne_eq, not_false_eq_true, not_true_eq_false, true_and, and_true, true_or, or_true, eq_self, Option.toList_some, Option.toList_none, List.cons_append, List.nil_append, tc_0, tc_I, tc_L, tc_A, Nat.reduceAdd, Nat.reduceLeDiff, Nat.reduceEqDiff, Int.reduceEq, Int.reduceLT, Int.reduceLE, Int.reduceNeg, Int.reduceToNat, Int.cast_ofNat_Int, if_true, if_false, and_self, or_self, ite_self, bI_0, bI_1, bI_01, Bool.false_eq_true, reduceCtorEq, bB, decide_true]
    exact hY (by rw [c1]; rfl) g1 h1 (by rw [← c1] at *; exact k1)
  simp only [c1, u_M_readE_17, u_M_readE_20, u_M_readE_21, u_M_readE_23, u_M_readE_25, ne_eq, not_false_eq_true, not_true_eq_false, true_and, and_true, true_or, or_true, eq_self, Option.toList_some, Option.toList_none, List.cons_append, List.nil_append, tc_0, tc_I, tc_L, tc_A, Nat.reduceAdd, Nat.reduceLeDiff, Nat.reduceEqDiff, Int.reduceEq, Int.reduceLT, Int.reduceLE, Int.reduceNeg, Int.reduceToNat, Int.cast_ofNat_Int, if_true, if_false, and_self, or_self, ite_self, bI_0, bI_1, bI_01, Bool.false_eq_true, reduceCtorEq, bB, decide_false, h1_156]
  refine m_is (c := 45) hL h1 (by decide) (fun g2 h2 k2 => ?_)
  by_cases c2 : Tk y len k = 45
  · simp only [c2, u_M_readE_28, u_M_readE_31, u_M_readE_32, u_M_readE_34, u_M_readE_36, u_M_readE_39, u_M_readE_42, u_M_readE_43, u_M_readE_45, u_M_readE_47, u_M_readE_50, ne_eq, not_false_eq_true, not_true_eq_false, true_and, and_true, true_or, or_true, eq_self, Option.toList_some, Option.toList_none, List.cons_append, List.nil_append, tc_0, tc_I, tc_L, tc_A, Nat.reduceAdd, Nat.reduceLeDiff, Nat.reduceEqDiff, Int.reduceEq, Int.reduceLT, Int.reduceLE, Int.reduceNeg, Int.reduceToNat, Int.cast_ofNat_Int, if_true, if_false, and_self, or_self, ite_self, bI_0, bI_1, bI_01, Bool.false_eq_true, reduceCtorEq, bB, decide_true]
    exact hY (by rw [c2]; rfl) g2 h2 (by rw [← c2] at *; exact k2)
  simp only [c2, u_M_readE_28, u_M_readE_31, u_M_readE_32, u_M_readE_34, u_M_readE_36, ne_eq, not_false_eq_true, not_true_eq_false, true_and, and_true, true_or, or_true, eq_self, Option.toList_some, Option.toList_none, List.cons_append, List.nil_append, tc_0, tc_I, tc_L, tc_A, Nat.reduceAdd, Nat.reduceLeDiff, Nat.reduceEqDiff, Int.reduceEq, Int.reduceLT, Int.reduceLE, Int.reduceNeg, Int.reduceToNat, Int.cast_ofNat_Int, if_true, if_false, and_self, or_self, ite_self, bI_0, bI_1, bI_01, Bool.false_eq_true, reduceCtorEq, bB, decide_false, h1_156]
  refine m_is (c := 94) hL h2 (by decide) (fun g3 h3 k3 => ?_)
  by_cases c3 : Tk y len k = 94
  · simp only [c3, u_M_readE_39, u_M_readE_42, u_M_readE_43, u_M_readE_45, u_M_readE_47, u_M_readE_50, ne_eq, not_false_eq_true, not_true_eq_false, true_and, and_true, true_or, or_true, eq_self, Option.toList_some, Option.toList_none, List.cons_append, List.nil_append, tc_0, tc_I, tc_L, tc_A, Nat.reduceAdd, Nat.reduceLeDiff, Nat.reduceEqDiff, Int.reduceEq, Int.reduceLT, Int.reduceLE, Int.reduceNeg, Int.reduceToNat, Int.cast_ofNat_Int, if_true, if_false, and_self, or_self, ite_self, bI_0, bI_1, bI_01, Bool.false_eq_true, reduceCtorEq, bB, decide_true]
    exact hY (by rw [c3]; rfl) g3 h3 (by rw [← c3] at *; exact k3)
  simp only [c3, u_M_readE_39, u_M_readE_42, u_M_readE_43, u_M_readE_45, u_M_readE_47, ne_eq, not_false_eq_true, not_true_eq_false, true_and, and_true, true_or, or_true, eq_self, Option.toList_some, Option.toList_none, List.cons_append, List.nil_append, tc_0, tc_I, tc_L, tc_A, Nat.reduceAdd, Nat.reduceLeDiff, Nat.reduceEqDiff, Int.reduceEq, Int.reduceLT, Int.reduceLE, Int.reduceNeg, Int.reduceToNat, Int.cast_ofNat_Int, if_true, if_false, and_self, or_self, ite_self, bI_0, bI_1, bI_01, Bool.false_eq_true, reduceCtorEq, bB, decide_false, h1_156]
  refine m_is (c := 124) hL h3 (by decide) (fun g4 h4 k4 => ?_)
  by_cases c4 : Tk y len k = 124
  · simp only [c4, u_M_readE_50, ne_eq, not_false_eq_true, not_true_eq_false, true_and, and_true, true_or, or_true, eq_self, Option.toList_some, Option.toList_none, List.cons_append, List.nil_append, tc_0, tc_I, tc_L, tc_A, Nat.reduceAdd, Nat.reduceLeDiff, Nat.reduceEqDiff, Int.reduceEq, Int.reduceLT, Int.reduceLE, Int.reduceNeg, Int.reduceToNat, Int.cast_ofNat_Int, if_true, if_false, and_self, or_self, ite_self, bI_0, bI_1, bI_01, Bool.false_eq_true, reduceCtorEq, bB, decide_true]
    exact hY (by rw [c4]; rfl) g4 h4 (by rw [← c4] at *; exact k4)
  simp only [c4, u_M_readE_50, ne_eq, not_false_eq_true, not_true_eq_false, true_and, and_true, true_or, or_true, eq_self, Option.toList_some, Option.toList_none, List.cons_append, List.nil_append, tc_0, tc_I, tc_L, tc_A, Nat.reduceAdd, Nat.reduceLeDiff, Nat.reduceEqDiff, Int.reduceEq, Int.reduceLT, Int.reduceLE, Int.reduceNeg, Int.reduceToNat, Int.cast_ofNat_Int, if_true, if_false, and_self, or_self, ite_self, bI_0, bI_1, bI_01, Bool.false_eq_true, reduceCtorEq, bB, decide_false]
  exact hN (by unfold kSum; simp; omega) g4 h4
theorem l_M_readE {F : Type} {pp : Int → PR F} (hL : Lexd y n len) (hn6 : n ≤ 600) (hP : ∀ (g : Mem) (k : Int) (N R : Nat) (Q : Option TV → Wd → Prop), ME y n len g0 k op N R g → ¬ kEnd (Tk y len (k - 1)) = true → RM y n len g0 f t op Q k N R (pp k) → VV L (d + 4) m_M_readT 0 [some (tA 156), none] [] (WW f t g) Q) : ∀ (m : Nat) (j : Int) (N R : Nat) (g : Mem), len - j ≤ m → ME y n len g0 j op N R g → kEnd (Tk y len (j - 1)) = true → RL y n len g0 f t op Q j N R (pMore (Tk y len) pp kSum m j) → VV L (d + 5) m_M_readE 5 [some (tA 156), some (tI 1)] [] (WW f t g) Q := by
  intro m
  induction m with
  | zero =>
    intro j N R g hm h hK hR
    refine l4_M_readE hL h (fun hs => ?_) (fun hs g' h' => ?_)
    · have : Tk y len j = 0 := by unfold Tk; rw [if_neg (by omega)]
      rw [this] at hs; cases hs
    · simp only [u_M_readE_65, u_M_readE_66, ne_eq, not_false_eq_true, not_true_eq_false, true_and, and_true, true_or, or_true, eq_self, Option.toList_some, Option.toList_none, List.cons_append, List.nil_append, tc_0, tc_I, tc_L, tc_A, Nat.reduceAdd, Nat.reduceLeDiff, Nat.reduceEqDiff, Int.reduceEq, Int.reduceLT, Int.reduceLE, Int.reduceNeg, Int.reduceToNat, Int.cast_ofNat_Int, if_true, if_false, and_self, or_self, ite_self, bI_0, bI_1, bI_01, Bool.false_eq_true, reduceCtorEq]
      exact hR g' N R h' (NRl_refl) hK (Int.le_refl _)
  | succ m ih =>
    intro j N R g hm h hK hR
    refine l4_M_readE hL h (fun hs g' h' hl => ?_) (fun hs g' h' => ?_)
    · have hj : j < len := Tk_lt (kSum_ne hs)
      simp only [u_M_readE_53, u_M_readE_54, ne_eq, not_false_eq_true, not_true_eq_false, true_and, and_true, true_or, or_true, eq_self, Option.toList_some, Option.toList_none, List.cons_append, List.nil_append, tc_0, tc_I, tc_L, tc_A, Nat.reduceAdd, Nat.reduceLeDiff, Nat.reduceEqDiff, Int.reduceEq, Int.reduceLT, Int.reduceLE, Int.reduceNeg, Int.reduceToNat, Int.cast_ofNat_Int, if_true, if_false, and_self, or_self, ite_self, bI_0, bI_1, bI_01, Bool.false_eq_true, reduceCtorEq, h1_156]
      refine m_take0 hL hn6 h' hj (by rw [hl.2.1]; unfold eS; rw [if_neg (fun hh => hh.2 hK)]) hl.2.2.1 (hl.2.2.2 hj) (fun g2 h2 => ?_)
      simp only [u_M_readE_57, u_M_readE_58, ne_eq, not_false_eq_true, not_true_eq_false, true_and, and_true, true_or, or_true, eq_self, Option.toList_some, Option.toList_none, List.cons_append, List.nil_append, tc_0, tc_I, tc_L, tc_A, Nat.reduceAdd, Nat.reduceLeDiff, Nat.reduceEqDiff, Int.reduceEq, Int.reduceLT, Int.reduceLE, Int.reduceNeg, Int.reduceToNat, Int.cast_ofNat_Int, if_true, if_false, and_self, or_self, ite_self, bI_0, bI_1, bI_01, Bool.false_eq_true, reduceCtorEq, h1_156]
      have hne : ¬ kEnd (Tk y len (j + 1 - 1)) = true := by
        rw [show j + 1 - 1 = j by omega]; unfold kSum at hs; unfold kEnd; simp at hs ⊢; omega
      refine hP g2 (j + 1) N R _ h2 hne ?_
      unfold pMore at hR
      rw [if_pos hs] at hR
      cases hp : pp (j + 1) with
      | error e =>
        obtain ⟨w, i, z⟩ := e
        rw [hp] at hR
        intro g3 f3 a3 b3
        simp only [u_M_readE_0, u_M_readE_1, u_M_readE_4, u_M_readE_6, u_M_readE_9, u_M_readE_10, u_M_readE_12, u_M_readE_14, u_M_readE_17, u_M_readE_20, u_M_readE_21, u_M_readE_23, u_M_readE_25, u_M_readE_28, u_M_readE_31, u_M_readE_32, u_M_readE_34, u_M_readE_36, u_M_readE_39, u_M_readE_42, u_M_readE_43, u_M_readE_45, u_M_readE_47, u_M_readE_50, u_M_readE_53, u_M_readE_54, u_M_readE_57, u_M_readE_58, u_M_readE_61, u_M_readE_62, u_M_readE_65, u_M_readE_66, h1_156, ne_eq, not_false_eq_true, not_true_eq_false, true_and, and_true, true_or, or_true, eq_self, Option.toList_some, Option.toList_none, List.cons_append, List.nil_append, tc_0, tc_I, tc_L, tc_A, Nat.reduceAdd, Nat.reduceLeDiff, Nat.reduceEqDiff, Int.reduceEq, Int.reduceLT, Int.reduceLE, Int.reduceNeg, Int.reduceToNat, Int.cast_ofNat_Int, if_true, if_false, and_self, or_self, ite_self, bI_0, bI_1, bI_01, Bool.false_eq_true, reduceCtorEq]
        rw [u_M_readE_5]
        simp only [u_M_readE_6, u_M_readE_65, u_M_readE_66, ne_eq, not_false_eq_true, not_true_eq_false, true_and, and_true, true_or, or_true, eq_self, Option.toList_some, Option.toList_none, List.cons_append, List.nil_append, tc_0, tc_I, tc_L, tc_A, Nat.reduceAdd, Nat.reduceLeDiff, Nat.reduceEqDiff, Int.reduceEq, Int.reduceLT, Int.reduceLE, Int.reduceNeg, Int.reduceToNat, Int.cast_ofNat_Int, if_true, if_false, and_self, or_self, ite_self, bI_0, bI_1, bI_01, Bool.false_eq_true, reduceCtorEq]
        exact hR g3 f3 a3 b3
      | ok z =>
        obtain ⟨x, j2⟩ := z
        rw [hp] at hR
        dsimp only at hR
        intro g3 N3 R3 h3 hN3 hK3 hlt3
        simp only [u_M_readE_0, u_M_readE_1, u_M_readE_4, u_M_readE_6, u_M_readE_9, u_M_readE_10, u_M_readE_12, u_M_readE_14, u_M_readE_17, u_M_readE_20, u_M_readE_21, u_M_readE_23, u_M_readE_25, u_M_readE_28, u_M_readE_31, u_M_readE_32, u_M_readE_34, u_M_readE_36, u_M_readE_39, u_M_readE_42, u_M_readE_43, u_M_readE_45, u_M_readE_47, u_M_readE_50, u_M_readE_53, u_M_readE_54, u_M_readE_57, u_M_readE_58, u_M_readE_61, u_M_readE_62, u_M_readE_65, u_M_readE_66, h1_156, ne_eq, not_false_eq_true, not_true_eq_false, true_and, and_true, true_or, or_true, eq_self, Option.toList_some, Option.toList_none, List.cons_append, List.nil_append, tc_0, tc_I, tc_L, tc_A, Nat.reduceAdd, Nat.reduceLeDiff, Nat.reduceEqDiff, Int.reduceEq, Int.reduceLT, Int.reduceLE, Int.reduceNeg, Int.reduceToNat, Int.cast_ofNat_Int, if_true, if_false, and_self, or_self, ite_self, bI_0, bI_1, bI_01, Bool.false_eq_true, reduceCtorEq]
        refine ih j2 N3 R3 g3 (by omega) h3 hK3 ?_
        revert hR
        cases pMore (Tk y len) pp kSum m j2 with
        | error e =>
          obtain ⟨w, i, z⟩ := e
          intro hR
          exact hR
        | ok z =>
          obtain ⟨l, j4⟩ := z
          intro hR g4 N4 R4 h4 hN4 hK4 hle4
          refine hR g4 N4 R4 h4 ?_ hK4 (by omega)
          exact NRl_trans (NRl_skip hN3 (by omega) (show (Tk y len j < 65 ∨ 122 < Tk y len j ∨ (70 < Tk y len j ∧ Tk y len j < 97)) by unfold kSum at hs; simp at hs; omega)) hN4 (by omega) hle4
    · simp only [u_M_readE_65, u_M_readE_66, ne_eq, not_false_eq_true, not_true_eq_false, true_and, and_true, true_or, or_true, eq_self, Option.toList_some, Option.toList_none, List.cons_append, List.nil_append, tc_0, tc_I, tc_L, tc_A, Nat.reduceAdd, Nat.reduceLeDiff, Nat.reduceEqDiff, Int.reduceEq, Int.reduceLT, Int.reduceLE, Int.reduceNeg, Int.reduceToNat, Int.cast_ofNat_Int, if_true, if_false, and_self, or_self, ite_self, bI_0, bI_1, bI_01, Bool.false_eq_true, reduceCtorEq]
      unfold pMore at hR
      rw [if_neg hs] at hR
      exact hR g' N R h' (NRl_refl) hK (Int.le_refl _)
theorem p_M_readE {F : Type} {pp : Int → PR F} (hL : Lexd y n len) (hn6 : n ≤ 600) (hP : ∀ (g : Mem) (k : Int) (N R : Nat) (Q : Option TV → Wd → Prop), ME y n len g0 k op N R g → ¬ kEnd (Tk y len (k - 1)) = true → RM y n len g0 f t op Q k N R (pp k) → VV L (d + 4) m_M_readT 0 [some (tA 156), none] [] (WW f t g) Q) (h : ME y n len g0 k op N R g) (hK : ¬ kEnd (Tk y len (k - 1)) = true) (hQ : RM y n len g0 f t op Q k N R (pEX (Tk y len) pp k)) : VV L (d + 5) m_M_readE 0 [some (tA 156), none] [] (WW f t g) Q := by
  simp only [u_M_readE_0, u_M_readE_1, u_M_readE_4, u_M_readE_6, u_M_readE_9, u_M_readE_10, u_M_readE_12, u_M_readE_14, u_M_readE_17, u_M_readE_20, u_M_readE_21, u_M_readE_23, u_M_readE_25, u_M_readE_28, u_M_readE_31, u_M_readE_32, u_M_readE_34, u_M_readE_36, u_M_readE_39, u_M_readE_42, u_M_readE_43, u_M_readE_45, u_M_readE_47, u_M_readE_50, u_M_readE_53, u_M_readE_54, u_M_readE_57, u_M_readE_58, u_M_readE_61, u_M_readE_62, u_M_readE_65, u_M_readE_66, h1_156, ne_eq, not_false_eq_true, not_true_eq_false, true_and, and_true, true_or, or_true, eq_self, Option.toList_some, Option.toList_none, List.cons_append, List.nil_append, tc_0, tc_I, tc_L, tc_A, Nat.reduceAdd, Nat.reduceLeDiff, Nat.reduceEqDiff, Int.reduceEq, Int.reduceLT, Int.reduceLE, Int.reduceNeg, Int.reduceToNat, Int.cast_ofNat_Int, if_true, if_false, and_self, or_self, ite_self, bI_0, bI_1, bI_01, Bool.false_eq_true, reduceCtorEq]
  refine hP g k N R _ h hK ?_
  unfold pEX at hQ
  cases hp : pp k with
  | error e =>
    obtain ⟨w, i, z⟩ := e
    rw [hp] at hQ
    intro g3 f3 a3 b3
    simp only [u_M_readE_0, u_M_readE_1, u_M_readE_4, u_M_readE_6, u_M_readE_9, u_M_readE_10, u_M_readE_12, u_M_readE_14, u_M_readE_17, u_M_readE_20, u_M_readE_21, u_M_readE_23, u_M_readE_25, u_M_readE_28, u_M_readE_31, u_M_readE_32, u_M_readE_34, u_M_readE_36, u_M_readE_39, u_M_readE_42, u_M_readE_43, u_M_readE_45, u_M_readE_47, u_M_readE_50, u_M_readE_53, u_M_readE_54, u_M_readE_57, u_M_readE_58, u_M_readE_61, u_M_readE_62, u_M_readE_65, u_M_readE_66, h1_156, ne_eq, not_false_eq_true, not_true_eq_false, true_and, and_true, true_or, or_true, eq_self, Option.toList_some, Option.toList_none, List.cons_append, List.nil_append, tc_0, tc_I, tc_L, tc_A, Nat.reduceAdd, Nat.reduceLeDiff, Nat.reduceEqDiff, Int.reduceEq, Int.reduceLT, Int.reduceLE, Int.reduceNeg, Int.reduceToNat, Int.cast_ofNat_Int, if_true, if_false, and_self, or_self, ite_self, bI_0, bI_1, bI_01, Bool.false_eq_true, reduceCtorEq]
    rw [u_M_readE_5]
    simp only [u_M_readE_6, u_M_readE_65, u_M_readE_66, ne_eq, not_false_eq_true, not_true_eq_false, true_and, and_true, true_or, or_true, eq_self, Option.toList_some, Option.toList_none, List.cons_append, List.nil_append, tc_0, tc_I, tc_L, tc_A, Nat.reduceAdd, Nat.reduceLeDiff, Nat.reduceEqDiff, Int.reduceEq, Int.reduceLT, Int.reduceLE, Int.reduceNeg, Int.reduceToNat, Int.cast_ofNat_Int, if_true, if_false, and_self, or_self, ite_self, bI_0, bI_1, bI_01, Bool.false_eq_true, reduceCtorEq]
    exact hQ g3 f3 a3 b3
  | ok z =>
    obtain ⟨x, j⟩ := z
    rw [hp] at hQ
    dsimp only at hQ
    intro g3 N3 R3 h3 hN3 hK3 hlt3
    simp only [u_M_readE_0, u_M_readE_1, u_M_readE_4, u_M_readE_6, u_M_readE_9, u_M_readE_10, u_M_readE_12, u_M_readE_14, u_M_readE_17, u_M_readE_20, u_M_readE_21, u_M_readE_23, u_M_readE_25, u_M_readE_28, u_M_readE_31, u_M_readE_32, u_M_readE_34, u_M_readE_36, u_M_readE_39, u_M_readE_42, u_M_readE_43, u_M_readE_45, u_M_readE_47, u_M_readE_50, u_M_readE_53, u_M_readE_54, u_M_readE_57, u_M_readE_58, u_M_readE_61, u_M_readE_62, u_M_readE_65, u_M_readE_66, h1_156, ne_eq, not_false_eq_true, not_true_eq_false, true_and, and_true, true_or, or_true, eq_self, Option.toList_some, Option.toList_none, List.cons_append, List.nil_append, tc_0, tc_I, tc_L, tc_A, Nat.reduceAdd, Nat.reduceLeDiff, Nat.reduceEqDiff, Int.reduceEq, Int.reduceLT, Int.reduceLE, Int.reduceNeg, Int.reduceToNat, Int.cast_ofNat_Int, if_true, if_false, and_self, or_self, ite_self, bI_0, bI_1, bI_01, Bool.false_eq_true, reduceCtorEq]
    refine l_M_readE hL hn6 hP 600 j N3 R3 g3 (by have := hL.1; have := h3.2.2.2.2.2.2.2.2.1; omega) h3 hK3 ?_
    revert hQ
    cases pMore (Tk y len) pp kSum 600 j with
    | error e =>
      obtain ⟨w, i, z⟩ := e
      intro hQ
      exact hQ
    | ok z =>
      obtain ⟨l, j4⟩ := z
      intro hQ g4 N4 R4 h4 hN4 hK4 hle4
      exact hQ g4 N4 R4 h4 (NRl_trans hN3 hN4 (by omega) hle4) hK4 (by omega)
end
