/-! The reference's routines: tokens, find, behindP -/
abbrev RT (g : Mem) (r : Nat) (T : Int → Int) (len : Nat) : Prop := (g 163 r = len) ∧ (∀ q : Nat, q < len → g 164 (1600 * r + q) = eS T q) ∧ (∀ q : Nat, q < len → g 165 (1600 * r + q) = whc (T q)) ∧ (∀ q : Int, q < 0 ∨ (len : Int) ≤ q → T q = 0) ∧ (r < 10) ∧ (len ≤ 1000)
theorem RT.l {g : Mem} {r : Nat} {T : Int → Int} {len : Nat} (hSelf : RT g r T len) : g 163 r = len := hSelf.1
theorem RT.s {g : Mem} {r : Nat} {T : Int → Int} {len : Nat} (hSelf : RT g r T len) : ∀ q : Nat, q < len → g 164 (1600 * r + q) = eS T q := hSelf.2.1
theorem RT.w {g : Mem} {r : Nat} {T : Int → Int} {len : Nat} (hSelf : RT g r T len) : ∀ q : Nat, q < len → g 165 (1600 * r + q) = whc (T q) := hSelf.2.2.1
theorem RT.z {g : Mem} {r : Nat} {T : Int → Int} {len : Nat} (hSelf : RT g r T len) : ∀ q : Int, q < 0 ∨ (len : Int) ≤ q → T q = 0 := hSelf.2.2.2.1
theorem RT.r10 {g : Mem} {r : Nat} {T : Int → Int} {len : Nat} (hSelf : RT g r T len) : r < 10 := hSelf.2.2.2.2.1
theorem RT.l1 {g : Mem} {r : Nat} {T : Int → Int} {len : Nat} (hSelf : RT g r T len) : len ≤ 1000 := hSelf.2.2.2.2.2
section
variable {L d r len : Nat} {f t g : Mem} {T : Int → Int} {Q : Option TV → Wd → Prop} {q s w i j o fr sg : Int}
theorem RT.ix (h : RT g r T len) (h0 : 0 ≤ q) (h1 : q < len) : w32 (1600 * (r : Int)) = 1600 * r ∧ w32 (1600 * (r : Int) + q) = 1600 * r + q ∧ 0 ≤ 1600 * (r : Int) + q ∧ 1600 * (r : Int) + q < 16000 ∧ g 164 (1600 * (r : Int) + q).toNat = eS T q ∧ g 165 (1600 * (r : Int) + q).toNat = whc (T q) := by
  have := h.r10
  have := h.l1
  have e : (1600 * (r : Int) + q).toNat = 1600 * r + q.toNat := by omega
  have eq : (q.toNat : Int) = q := by omega
  refine ⟨w32_id (by omega) (by omega), w32_id (by omega) (by omega), by omega, by omega, ?_, ?_⟩
  · rw [e, h.s q.toNat (by omega), eq]
  · rw [e, h.w q.toNat (by omega), eq]
theorem RT.ir (h : RT g r T len) : 0 ≤ (r : Int) ∧ (r : Int) < 10 ∧ g 163 ((r : Int)).toNat = len := by
  have := h.r10
  exact ⟨by omega, by omega, by rw [Int.toNat_natCast]; exact h.l⟩
theorem s_M_isToken (h : RT g r T len) (h0 : 0 ≤ q) : VV L d m_M_isToken 0 [some (tA 156), some (tI r), some (tI q), some (tI s), some (tI w)] [] (WW f t g) Q = Q (some (tI (bB (decide (q < len ∧ eS T q = s ∧ whc (T q) = w))))) (WW f t g) := by
  obtain ⟨r0, r1, r2⟩ := h.ir
  by_cases hq : q < len
  · obtain ⟨x1, x2, x3, x4, x5, x6⟩ := h.ix h0 hq
    by_cases hs : eS T q = s
    · by_cases hw : whc (T q) = w
      · simp only [u_M_isToken_0, u_M_isToken_1, u_M_isToken_2, u_M_isToken_5, u_M_isToken_6, u_M_isToken_7, u_M_isToken_10, u_M_isToken_11, u_M_isToken_14, u_M_isToken_17, u_M_isToken_18, u_M_isToken_19, u_M_isToken_20, u_M_isToken_21, u_M_isToken_22, u_M_isToken_23, u_M_isToken_26, u_M_isToken_27, u_M_isToken_30, u_M_isToken_33, u_M_isToken_34, u_M_isToken_35, u_M_isToken_36, u_M_isToken_37, u_M_isToken_38, u_M_isToken_40, u_M_isToken_43, u_M_isToken_44, u_M_isToken_47, u_M_isToken_48, h1_156, gt_156_24, h1_163, h2_163, gt_163, pt_163, gt_156_25, h1_164, h2_164, gt_164, pt_164, gt_156_26, h1_165, h2_165, gt_165, pt_165, ne_eq, not_false_eq_true, not_true_eq_false, true_and, and_true, true_or, or_true, eq_self, Option.toList_some, Option.toList_none, List.cons_append, List.nil_append, tc_0, tc_I, tc_L, tc_A, Nat.reduceAdd, Nat.reduceLeDiff, Nat.reduceEqDiff, Int.reduceEq, Int.reduceLT, Int.reduceLE, Int.reduceNeg, Int.reduceToNat, Int.cast_ofNat_Int, if_true, if_false, and_self, or_self, ite_self, bI_0, bI_1, bI_01, Bool.false_eq_true, reduceCtorEq, r0, r1, r2, show ¬ (len : Int) ≤ q by omega, x1, x2, x3, x4, x5, x6, hs, hw, hq, decide_true, bB_t]
      · simp only [u_M_isToken_0, u_M_isToken_1, u_M_isToken_2, u_M_isToken_5, u_M_isToken_6, u_M_isToken_7, u_M_isToken_10, u_M_isToken_11, u_M_isToken_14, u_M_isToken_17, u_M_isToken_18, u_M_isToken_19, u_M_isToken_20, u_M_isToken_21, u_M_isToken_22, u_M_isToken_23, u_M_isToken_26, u_M_isToken_27, u_M_isToken_30, u_M_isToken_33, u_M_isToken_34, u_M_isToken_35, u_M_isToken_36, u_M_isToken_37, u_M_isToken_38, u_M_isToken_40, u_M_isToken_43, u_M_isToken_44, u_M_isToken_47, u_M_isToken_48, h1_156, gt_156_24, h1_163, h2_163, gt_163, pt_163, gt_156_25, h1_164, h2_164, gt_164, pt_164, gt_156_26, h1_165, h2_165, gt_165, pt_165, ne_eq, not_false_eq_true, not_true_eq_false, true_and, and_true, true_or, or_true, eq_self, Option.toList_some, Option.toList_none, List.cons_append, List.nil_append, tc_0, tc_I, tc_L, tc_A, Nat.reduceAdd, Nat.reduceLeDiff, Nat.reduceEqDiff, Int.reduceEq, Int.reduceLT, Int.reduceLE, Int.reduceNeg, Int.reduceToNat, Int.cast_ofNat_Int, if_true, if_false, and_self, or_self, ite_self, bI_0, bI_1, bI_01, Bool.false_eq_true, reduceCtorEq, r0, r1, r2, show ¬ (len : Int) ≤ q by omega, x1, x2, x3, x4, x5, x6, hs, hw, hq, and_false, decide_false, bB_f]
    · simp only [u_M_isToken_0, u_M_isToken_1, u_M_isToken_2, u_M_isToken_5, u_M_isToken_6, u_M_isToken_7, u_M_isToken_10, u_M_isToken_11, u_M_isToken_14, u_M_isToken_17, u_M_isToken_18, u_M_isToken_19, u_M_isToken_20, u_M_isToken_21, u_M_isToken_22, u_M_isToken_23, u_M_isToken_26, u_M_isToken_27, u_M_isToken_30, u_M_isToken_33, u_M_isToken_34, u_M_isToken_35, u_M_isToken_36, u_M_isToken_37, u_M_isToken_38, u_M_isToken_40, u_M_isToken_43, u_M_isToken_44, u_M_isToken_47, u_M_isToken_48, h1_156, gt_156_24, h1_163, h2_163, gt_163, pt_163, gt_156_25, h1_164, h2_164, gt_164, pt_164, gt_156_26, h1_165, h2_165, gt_165, pt_165, ne_eq, not_false_eq_true, not_true_eq_false, true_and, and_true, true_or, or_true, eq_self, Option.toList_some, Option.toList_none, List.cons_append, List.nil_append, tc_0, tc_I, tc_L, tc_A, Nat.reduceAdd, Nat.reduceLeDiff, Nat.reduceEqDiff, Int.reduceEq, Int.reduceLT, Int.reduceLE, Int.reduceNeg, Int.reduceToNat, Int.cast_ofNat_Int, if_true, if_false, and_self, or_self, ite_self, bI_0, bI_1, bI_01, Bool.false_eq_true, reduceCtorEq, r0, r1, r2, show ¬ (len : Int) ≤ q by omega, x1, x2, x3, x4, x5, x6, hs, hq, false_and, and_false, decide_false, bB_f]
  · simp only [u_M_isToken_0, u_M_isToken_1, u_M_isToken_2, u_M_isToken_5, u_M_isToken_6, u_M_isToken_7, u_M_isToken_10, u_M_isToken_11, u_M_isToken_14, u_M_isToken_17, u_M_isToken_18, u_M_isToken_19, u_M_isToken_20, u_M_isToken_21, u_M_isToken_22, u_M_isToken_23, u_M_isToken_26, u_M_isToken_27, u_M_isToken_30, u_M_isToken_33, u_M_isToken_34, u_M_isToken_35, u_M_isToken_36, u_M_isToken_37, u_M_isToken_38, u_M_isToken_40, u_M_isToken_43, u_M_isToken_44, u_M_isToken_47, u_M_isToken_48, h1_156, gt_156_24, h1_163, h2_163, gt_163, pt_163, gt_156_25, h1_164, h2_164, gt_164, pt_164, gt_156_26, h1_165, h2_165, gt_165, pt_165, ne_eq, not_false_eq_true, not_true_eq_false, true_and, and_true, true_or, or_true, eq_self, Option.toList_some, Option.toList_none, List.cons_append, List.nil_append, tc_0, tc_I, tc_L, tc_A, Nat.reduceAdd, Nat.reduceLeDiff, Nat.reduceEqDiff, Int.reduceEq, Int.reduceLT, Int.reduceLE, Int.reduceNeg, Int.reduceToNat, Int.cast_ofNat_Int, if_true, if_false, and_self, or_self, ite_self, bI_0, bI_1, bI_01, Bool.false_eq_true, reduceCtorEq, r0, r1, r2, show (len : Int) ≤ q by omega, hq, false_and, decide_false, bB_f]
theorem sg_T (h : RT g r T len) (hw : sgn w = true) (h45 : ¬ w = 45) (hz : ¬ w = 0) : (q < len ∧ eS T q = 7 ∧ whc (T q) = w) ↔ T q = w := by
  constructor
  · intro ⟨_, h2, h3⟩
    unfold eS at h2
    split at h2
    · omega
    · exact (sg_iff hw).mp ⟨h2, h3⟩
  · intro e
    have hq : q < len := by
      by_cases hq : q < len
      · exact hq
      · have := h.z q (Or.inr (by omega)); omega
    have := (sg_iff (x := T q) hw).mpr e
    refine ⟨hq, ?_, this.2⟩
    unfold eS; rw [if_neg (by rw [e]; exact fun hh => h45 hh.1)]; exact this.1
theorem s_M_isSign (h : RT g r T len) (h0 : 0 ≤ q) (hw : sgn w = true) (h45 : ¬ w = 45) (hz : ¬ w = 0) : VV L d m_M_isToken 0 [some (tA 156), some (tI r), some (tI q), some (tI 7), some (tI w)] [] (WW f t g) Q = Q (some (tI (bB (decide (T q = w))))) (WW f t g) := by
  rw [s_M_isToken h h0, decide_eq_decide.mpr (sg_T h hw h45 hz)]
theorem s_M_is123 (h : RT g r T len) (h0 : 0 ≤ q) : VV L d m_M_isToken 0 [some (tA 156), some (tI r), some (tI q), some (tI 7), some (tI 123)] [] (WW f t g) Q = Q (some (tI (bB (decide (T q = 123))))) (WW f t g) := s_M_isSign h h0 (by decide) (by omega) (by omega)
theorem s_M_is125 (h : RT g r T len) (h0 : 0 ≤ q) : VV L d m_M_isToken 0 [some (tA 156), some (tI r), some (tI q), some (tI 7), some (tI 125)] [] (WW f t g) Q = Q (some (tI (bB (decide (T q = 125))))) (WW f t g) := s_M_isSign h h0 (by decide) (by omega) (by omega)
theorem s_M_is91 (h : RT g r T len) (h0 : 0 ≤ q) : VV L d m_M_isToken 0 [some (tA 156), some (tI r), some (tI q), some (tI 7), some (tI 91)] [] (WW f t g) Q = Q (some (tI (bB (decide (T q = 91))))) (WW f t g) := s_M_isSign h h0 (by decide) (by omega) (by omega)
theorem s_M_is93 (h : RT g r T len) (h0 : 0 ≤ q) : VV L d m_M_isToken 0 [some (tA 156), some (tI r), some (tI q), some (tI 7), some (tI 93)] [] (WW f t g) Q = Q (some (tI (bB (decide (T q = 93))))) (WW f t g) := s_M_isSign h h0 (by decide) (by omega) (by omega)
theorem l_M_find (h : RT g r T len) (hsg : sgn sg = true) (h45 : ¬ sg = 45) (hz : ¬ sg = 0) (hj : T j = sg) : ∀ (l : List Int) (i o : Int), Skp sg o l 0 → seg T i j l → 0 ≤ i → -3000 ≤ o - l.length → o + l.length ≤ 3000 → VV L (d + 1) m_M_find 6 [some (tA 156), some (tI r), some (tI fr), some (tI sg), some (tI i), some (tI o)] [] (WW f t g) Q = Q (some (tI j)) (WW f t g) := by
  have hjl : j < len := by
    by_cases hq : j < len
    · exact hq
    · have := h.z j (Or.inr (by omega)); omega
  have hl1 := h.l1
  intro l
  induction l with
  | nil =>
    intro i o hk hs h0 _ _
    have e := seg_len hs
    simp at e
    subst e
    have ho : o = 0 := hk
    rw [u_M_find_6]
    simp only [u_M_find_0, u_M_find_1, u_M_find_3, u_M_find_4, u_M_find_8, u_M_find_11, u_M_find_12, u_M_find_13, u_M_find_15, u_M_find_17, u_M_find_18, u_M_find_21, u_M_find_24, u_M_find_26, u_M_find_27, u_M_find_28, u_M_find_30, u_M_find_32, u_M_find_34, u_M_find_37, u_M_find_40, u_M_find_41, u_M_find_44, u_M_find_45, u_M_find_46, u_M_find_48, u_M_find_50, u_M_find_52, u_M_find_55, u_M_find_58, u_M_find_59, u_M_find_62, u_M_find_63, u_M_find_64, u_M_find_66, u_M_find_69, u_M_find_72, u_M_find_74, h1_156, ne_eq, not_false_eq_true, not_true_eq_false, true_and, and_true, true_or, or_true, eq_self, Option.toList_some, Option.toList_none, List.cons_append, List.nil_append, tc_0, tc_I, tc_L, tc_A, Nat.reduceAdd, Nat.reduceLeDiff, Nat.reduceEqDiff, Int.reduceEq, Int.reduceLT, Int.reduceLE, Int.reduceNeg, Int.reduceToNat, Int.cast_ofNat_Int, if_true, if_false, and_self, or_self, ite_self, bI_0, bI_1, bI_01, Bool.false_eq_true, reduceCtorEq, ho, Int.lt_irrefl, s_M_isSign h h0 hsg h45 hz, bB_0, hj, decide_true]
  | cons v l ih =>
    intro i o hk hs h0 hb1 hb2
    obtain ⟨hv, hs⟩ := seg_hd hs
    obtain ⟨hk1, hk2⟩ := hk
    rw [List.length_cons] at hb1 hb2
    have hij := hs.1
    have wi : w32 (i + 1) = i + 1 := w32_id (by omega) (by omega)
    have hbr : -1 ≤ brc v ∧ brc v ≤ 1 := by unfold brc; (repeat' split) <;> omega
    have hrec := ih (i + 1) (o + brc v) hk2 hs (by omega) (by omega) (by omega)
    rw [u_M_find_6]
    have hb : VV L (d + 1) m_M_find 24 [some (tA 156), some (tI r), some (tI fr), some (tI sg), some (tI i), some (tI o)] [] (WW f t g) Q = Q (some (tI j)) (WW f t g) := by
      by_cases c1 : v = 123
      · have e : brc v = 1 := by simp [brc, c1]
        have we : w32 (o + 1) = o + 1 := w32_id (by omega) (by omega)
        rw [e] at hrec
        simp only [u_M_find_24, u_M_find_26, u_M_find_27, u_M_find_28, u_M_find_30, u_M_find_32, u_M_find_34, u_M_find_37, u_M_find_40, u_M_find_41, u_M_find_44, u_M_find_45, u_M_find_46, u_M_find_48, u_M_find_50, u_M_find_52, u_M_find_55, u_M_find_58, u_M_find_59, u_M_find_62, u_M_find_63, u_M_find_64, u_M_find_66, u_M_find_69, h1_156, ne_eq, not_false_eq_true, not_true_eq_false, true_and, and_true, true_or, or_true, eq_self, Option.toList_some, Option.toList_none, List.cons_append, List.nil_append, tc_0, tc_I, tc_L, tc_A, Nat.reduceAdd, Nat.reduceLeDiff, Nat.reduceEqDiff, Int.reduceEq, Int.reduceLT, Int.reduceLE, Int.reduceNeg, Int.reduceToNat, Int.cast_ofNat_Int, if_true, if_false, and_self, or_self, ite_self, bI_0, bI_1, bI_01, Bool.false_eq_true, reduceCtorEq, s_M_is123 h h0, s_M_is125 h h0, bB_0, hv, c1, decide_true, we, wi]
        exact hrec
      · by_cases c2 : v = 125
        · have e : brc v = -1 := by simp [brc, c2]
          have we : w32 (o + -1) = o + -1 := w32_id (by omega) (by omega)
          rw [e] at hrec
          simp only [u_M_find_24, u_M_find_26, u_M_find_27, u_M_find_28, u_M_find_30, u_M_find_32, u_M_find_34, u_M_find_37, u_M_find_40, u_M_find_41, u_M_find_44, u_M_find_45, u_M_find_46, u_M_find_48, u_M_find_50, u_M_find_52, u_M_find_55, u_M_find_58, u_M_find_59, u_M_find_62, u_M_find_63, u_M_find_64, u_M_find_66, u_M_find_69, h1_156, ne_eq, not_false_eq_true, not_true_eq_false, true_and, and_true, true_or, or_true, eq_self, Option.toList_some, Option.toList_none, List.cons_append, List.nil_append, tc_0, tc_I, tc_L, tc_A, Nat.reduceAdd, Nat.reduceLeDiff, Nat.reduceEqDiff, Int.reduceEq, Int.reduceLT, Int.reduceLE, Int.reduceNeg, Int.reduceToNat, Int.cast_ofNat_Int, if_true, if_false, and_self, or_self, ite_self, bI_0, bI_1, bI_01, Bool.false_eq_true, reduceCtorEq, s_M_is123 h h0, s_M_is125 h h0, bB_0, hv, c2, decide_true, decide_false, we, wi]
          exact hrec
        · have e : brc v = 0 := by simp [brc, c1, c2]
          have we : w32 (o + 0) = o + 0 := w32_id (by omega) (by omega)
          rw [e] at hrec
          simp only [u_M_find_24, u_M_find_26, u_M_find_27, u_M_find_28, u_M_find_30, u_M_find_32, u_M_find_34, u_M_find_37, u_M_find_40, u_M_find_41, u_M_find_44, u_M_find_45, u_M_find_46, u_M_find_48, u_M_find_50, u_M_find_52, u_M_find_55, u_M_find_58, u_M_find_59, u_M_find_62, u_M_find_63, u_M_find_64, u_M_find_66, u_M_find_69, h1_156, ne_eq, not_false_eq_true, not_true_eq_false, true_and, and_true, true_or, or_true, eq_self, Option.toList_some, Option.toList_none, List.cons_append, List.nil_append, tc_0, tc_I, tc_L, tc_A, Nat.reduceAdd, Nat.reduceLeDiff, Nat.reduceEqDiff, Int.reduceEq, Int.reduceLT, Int.reduceLE, Int.reduceNeg, Int.reduceToNat, Int.cast_ofNat_Int, if_true, if_false, and_self, or_self, ite_self, bI_0, bI_1, bI_01, Bool.false_eq_true, reduceCtorEq, s_M_is123 h h0, s_M_is125 h h0, bB_0, hv, c1, c2, decide_false, we, wi]
          exact hrec
    by_cases ho : 0 < o
    · simp only [u_M_find_8, u_M_find_11, u_M_find_12, u_M_find_13, u_M_find_15, u_M_find_17, u_M_find_18, u_M_find_21, h1_156, ne_eq, not_false_eq_true, not_true_eq_false, true_and, and_true, true_or, or_true, eq_self, Option.toList_some, Option.toList_none, List.cons_append, List.nil_append, tc_0, tc_I, tc_L, tc_A, Nat.reduceAdd, Nat.reduceLeDiff, Nat.reduceEqDiff, Int.reduceEq, Int.reduceLT, Int.reduceLE, Int.reduceNeg, Int.reduceToNat, Int.cast_ofNat_Int, if_true, if_false, and_self, or_self, ite_self, bI_0, bI_1, bI_01, Bool.false_eq_true, reduceCtorEq, ho]
      exact hb
    · have hvs : ¬ v = sg := hk1.resolve_left ho
      simp only [u_M_find_8, u_M_find_11, u_M_find_12, u_M_find_13, u_M_find_15, u_M_find_17, u_M_find_18, u_M_find_21, h1_156, ne_eq, not_false_eq_true, not_true_eq_false, true_and, and_true, true_or, or_true, eq_self, Option.toList_some, Option.toList_none, List.cons_append, List.nil_append, tc_0, tc_I, tc_L, tc_A, Nat.reduceAdd, Nat.reduceLeDiff, Nat.reduceEqDiff, Int.reduceEq, Int.reduceLT, Int.reduceLE, Int.reduceNeg, Int.reduceToNat, Int.cast_ofNat_Int, if_true, if_false, and_self, or_self, ite_self, bI_0, bI_1, bI_01, Bool.false_eq_true, reduceCtorEq, ho, s_M_isSign h h0 hsg h45 hz, bB_0, hv, hvs, decide_false]
      exact hb
theorem s_M_find {l : List Int} (h : RT g r T len) (hsg : sgn sg = true) (h45 : ¬ sg = 45) (hz : ¬ sg = 0) (hj : T j = sg) (hk : Skp sg 0 l 0) (hs : seg T i j l) (h0 : 0 ≤ i) : VV L (d + 1) m_M_find 0 [some (tA 156), some (tI r), some (tI i), some (tI sg), none, none] [] (WW f t g) Q = Q (some (tI j)) (WW f t g) := by
  have hjl : j < len := by
    by_cases hq : j < len
    · exact hq
    · have := h.z j (Or.inr (by omega)); omega
  have hl1 := h.l1
  have e := seg_len hs
  simp only [u_M_find_0, u_M_find_1, u_M_find_3, u_M_find_4, ne_eq, not_false_eq_true, not_true_eq_false, true_and, and_true, true_or, or_true, eq_self, Option.toList_some, Option.toList_none, List.cons_append, List.nil_append, tc_0, tc_I, tc_L, tc_A, Nat.reduceAdd, Nat.reduceLeDiff, Nat.reduceEqDiff, Int.reduceEq, Int.reduceLT, Int.reduceLE, Int.reduceNeg, Int.reduceToNat, Int.cast_ofNat_Int, if_true, if_false, and_self, or_self, ite_self, bI_0, bI_1, bI_01, Bool.false_eq_true, reduceCtorEq]
  exact l_M_find h hsg h45 hz hj l i 0 hk hs h0 (by omega) (by omega)
/-- the ] of a P -/
theorem l_M_behindP (h : RT g r T len) (hj : T j = 93) : ∀ (l : List Int) (i o o' : Int), Wl (bwt 1 0) o l o' → o' = 1 → seg T i j l → 0 ≤ i → 0 ≤ o → o + l.length ≤ 3000 → VV L (d + 1) m_M_behindP 27 [some (tA 156), some (tI r), some (tI fr), some (tI i), some (tI o)] [] (WW f t g) Q = Q (some (tI (j + 1))) (WW f t g) := by
  have hjl : j < len := by
    by_cases hq : j < len
    · exact hq
    · have := h.z j (Or.inr (by omega)); omega
  have hl1 := h.l1
  intro l
  induction l with
  | nil =>
    intro i o o' hk ho' hs h0 _ _
    have e := seg_len hs
    simp at e
    subst e
    have ho : o = 1 := by have : o = o' := hk; omega
    have wj : w32 (j + 1) = j + 1 := w32_id (by omega) (by omega)
    have wo : w32 ((1 : Int) + -1) = 0 := by rw [w32_id (by omega) (by omega)]; omega
    rw [u_M_behindP_27]
    simp only [u_M_behindP_0, u_M_behindP_1, u_M_behindP_4, u_M_behindP_7, u_M_behindP_8, u_M_behindP_9, u_M_behindP_10, u_M_behindP_11, u_M_behindP_12, u_M_behindP_13, u_M_behindP_16, u_M_behindP_17, u_M_behindP_18, u_M_behindP_19, u_M_behindP_20, u_M_behindP_21, u_M_behindP_22, u_M_behindP_23, u_M_behindP_24, u_M_behindP_25, u_M_behindP_29, u_M_behindP_30, u_M_behindP_31, u_M_behindP_32, u_M_behindP_34, u_M_behindP_36, u_M_behindP_39, u_M_behindP_42, u_M_behindP_43, u_M_behindP_46, u_M_behindP_47, u_M_behindP_48, u_M_behindP_49, u_M_behindP_51, u_M_behindP_53, u_M_behindP_56, u_M_behindP_59, u_M_behindP_60, u_M_behindP_63, u_M_behindP_64, u_M_behindP_65, u_M_behindP_67, u_M_behindP_70, u_M_behindP_72, u_M_behindP_75, u_M_behindP_76, h1_156, gt_156_25, h1_164, h2_164, gt_164, pt_164, ne_eq, not_false_eq_true, not_true_eq_false, true_and, and_true, true_or, or_true, eq_self, Option.toList_some, Option.toList_none, List.cons_append, List.nil_append, tc_0, tc_I, tc_L, tc_A, Nat.reduceAdd, Nat.reduceLeDiff, Nat.reduceEqDiff, Int.reduceEq, Int.reduceLT, Int.reduceLE, Int.reduceNeg, Int.reduceToNat, Int.cast_ofNat_Int, if_true, if_false, and_self, or_self, ite_self, bI_0, bI_1, bI_01, Bool.false_eq_true, reduceCtorEq, ho, s_M_is91 h h0, s_M_is93 h h0, bB_0, hj, decide_true, decide_false, wo, wj, Int.lt_irrefl]
  | cons v l ih =>
    intro i o o' hk ho' hs h0 hb1 hb2
    obtain ⟨hv, hs⟩ := seg_hd hs
    obtain ⟨hk1, hk2⟩ := hk
    rw [List.length_cons] at hb2
    have hij := hs.1
    have wi : w32 (i + 1) = i + 1 := w32_id (by omega) (by omega)
    have hbb : bwt 1 0 v ≤ 1 := by unfold bwt; (repeat' split) <;> omega
    have hrec := ih (i + 1) (o + bwt 1 0 v) o' hk2 ho' hs (by omega) (by omega) (by omega)
    rw [u_M_behindP_27]
    by_cases c1 : v = 91
    · have e : bwt 1 0 v = 1 := by simp [bwt, c1]
      have we : w32 (o + 1) = o + 1 := w32_id (by omega) (by omega)
      rw [e] at hrec hk1
      simp only [u_M_behindP_0, u_M_behindP_1, u_M_behindP_4, u_M_behindP_7, u_M_behindP_8, u_M_behindP_9, u_M_behindP_10, u_M_behindP_11, u_M_behindP_12, u_M_behindP_13, u_M_behindP_16, u_M_behindP_17, u_M_behindP_18, u_M_behindP_19, u_M_behindP_20, u_M_behindP_21, u_M_behindP_22, u_M_behindP_23, u_M_behindP_24, u_M_behindP_25, u_M_behindP_29, u_M_behindP_30, u_M_behindP_31, u_M_behindP_32, u_M_behindP_34, u_M_behindP_36, u_M_behindP_39, u_M_behindP_42, u_M_behindP_43, u_M_behindP_46, u_M_behindP_47, u_M_behindP_48, u_M_behindP_49, u_M_behindP_51, u_M_behindP_53, u_M_behindP_56, u_M_behindP_59, u_M_behindP_60, u_M_behindP_63, u_M_behindP_64, u_M_behindP_65, u_M_behindP_67, u_M_behindP_70, u_M_behindP_72, u_M_behindP_75, u_M_behindP_76, h1_156, gt_156_25, h1_164, h2_164, gt_164, pt_164, ne_eq, not_false_eq_true, not_true_eq_false, true_and, and_true, true_or, or_true, eq_self, Option.toList_some, Option.toList_none, List.cons_append, List.nil_append, tc_0, tc_I, tc_L, tc_A, Nat.reduceAdd, Nat.reduceLeDiff, Nat.reduceEqDiff, Int.reduceEq, Int.reduceLT, Int.reduceLE, Int.reduceNeg, Int.reduceToNat, Int.cast_ofNat_Int, if_true, if_false, and_self, or_self, ite_self, bI_0, bI_1, bI_01, Bool.false_eq_true, reduceCtorEq, s_M_is91 h h0, s_M_is93 h h0, bB_0, hv, c1, decide_true, we, wi, hk1]
      exact hrec
    · by_cases c2 : v = 93
      · have e : bwt 1 0 v = -1 := by simp [bwt, c2]
        have we : w32 (o + -1) = o + -1 := w32_id (by omega) (by omega)
        rw [e] at hrec hk1
        simp only [u_M_behindP_0, u_M_behindP_1, u_M_behindP_4, u_M_behindP_7, u_M_behindP_8, u_M_behindP_9, u_M_behindP_10, u_M_behindP_11, u_M_behindP_12, u_M_behindP_13, u_M_behindP_16, u_M_behindP_17, u_M_behindP_18, u_M_behindP_19, u_M_behindP_20, u_M_behindP_21, u_M_behindP_22, u_M_behindP_23, u_M_behindP_24, u_M_behindP_25, u_M_behindP_29, u_M_behindP_30, u_M_behindP_31, u_M_behindP_32, u_M_behindP_34, u_M_behindP_36, u_M_behindP_39, u_M_behindP_42, u_M_behindP_43, u_M_behindP_46, u_M_behindP_47, u_M_behindP_48, u_M_behindP_49, u_M_behindP_51, u_M_behindP_53, u_M_behindP_56, u_M_behindP_59, u_M_behindP_60, u_M_behindP_63, u_M_behindP_64, u_M_behindP_65, u_M_behindP_67, u_M_behindP_70, u_M_behindP_72, u_M_behindP_75, u_M_behindP_76, h1_156, gt_156_25, h1_164, h2_164, gt_164, pt_164, ne_eq, not_false_eq_true, not_true_eq_false, true_and, and_true, true_or, or_true, eq_self, Option.toList_some, Option.toList_none, List.cons_append, List.nil_append, tc_0, tc_I, tc_L, tc_A, Nat.reduceAdd, Nat.reduceLeDiff, Nat.reduceEqDiff, Int.reduceEq, Int.reduceLT, Int.reduceLE, Int.reduceNeg, Int.reduceToNat, Int.cast_ofNat_Int, if_true, if_false, and_self, or_self, ite_self, bI_0, bI_1, bI_01, Bool.false_eq_true, reduceCtorEq, s_M_is91 h h0, s_M_is93 h h0, bB_0, hv, c2, decide_true, decide_false, we, wi, hk1]
        exact hrec
      · have e : bwt 1 0 v = 0 := by simp [bwt, c1, c2]
        have we : w32 (o + 0) = o + 0 := w32_id (by omega) (by omega)
        rw [e] at hrec hk1
        simp only [u_M_behindP_0, u_M_behindP_1, u_M_behindP_4, u_M_behindP_7, u_M_behindP_8, u_M_behindP_9, u_M_behindP_10, u_M_behindP_11, u_M_behindP_12, u_M_behindP_13, u_M_behindP_16, u_M_behindP_17, u_M_behindP_18, u_M_behindP_19, u_M_behindP_20, u_M_behindP_21, u_M_behindP_22, u_M_behindP_23, u_M_behindP_24, u_M_behindP_25, u_M_behindP_29, u_M_behindP_30, u_M_behindP_31, u_M_behindP_32, u_M_behindP_34, u_M_behindP_36, u_M_behindP_39, u_M_behindP_42, u_M_behindP_43, u_M_behindP_46, u_M_behindP_47, u_M_behindP_48, u_M_behindP_49, u_M_behindP_51, u_M_behindP_53, u_M_behindP_56, u_M_behindP_59, u_M_behindP_60, u_M_behindP_63, u_M_behindP_64, u_M_behindP_65, u_M_behindP_67, u_M_behindP_70, u_M_behindP_72, u_M_behindP_75, u_M_behindP_76, h1_156, gt_156_25, h1_164, h2_164, gt_164, pt_164, ne_eq, not_false_eq_true, not_true_eq_false, true_and, and_true, true_or, or_true, eq_self, Option.toList_some, Option.toList_none, List.cons_append, List.nil_append, tc_0, tc_I, tc_L, tc_A, Nat.reduceAdd, Nat.reduceLeDiff, Nat.reduceEqDiff, Int.reduceEq, Int.reduceLT, Int.reduceLE, Int.reduceNeg, Int.reduceToNat, Int.cast_ofNat_Int, if_true, if_false, and_self, or_self, ite_self, bI_0, bI_1, bI_01, Bool.false_eq_true, reduceCtorEq, s_M_is91 h h0, s_M_is93 h h0, bB_0, hv, c1, c2, decide_false, we, wi, hk1]
        exact hrec
theorem srt_name {x : Int} (h : kName x = true) : srt x = 1 ∧ whc x = x - 97 := by
  unfold kName at h; simp at h
  unfold srt whc kName kRow kStk; simp; omega
theorem eS_name {x : Int} (h : kName (T x) = true) : eS T x = 1 := by
  unfold eS; rw [if_neg, (srt_name h).1]
  unfold kName at h; simp at h; omega
theorem eS_row {x : Int} (h : kRow (T x) = true) : eS T x = 3 ∧ whc (T x) = T x - 65 := by
  unfold kRow at h; simp at h
  unfold eS; rw [if_neg (by omega)]
  unfold srt whc kName kRow kStk; simp; omega
theorem s_M_behindP {c : Nat} (h : RT g r T len) (p : PP c) (hp : wP p) (h0 : 0 ≤ i) (hj : j < len) (hs : seg T i j (kP p)) : VV L (d + 1) m_M_behindP 0 [some (tA 156), some (tI r), some (tI i), none, none] [] (WW f t g) Q = Q (some (tI j)) (WW f t g) := by
  have hl1 := h.l1
  have hij := hs.1
  have wi : w32 (i + 1) = i + 1 := w32_id (by omega) (by omega)
  match p, hp, hs with
  | .inl n, hp, hs =>
    obtain ⟨hv, hs'⟩ := seg_hd hs
    have e := seg_len hs
    simp [kP] at e
    obtain ⟨x1, x2, x3, x4, x5, x6⟩ := h.ix h0 (show i < len by omega)
    have hn : eS T i = 1 := eS_name (by rw [hv]; exact hp)
    simp only [u_M_behindP_0, u_M_behindP_1, u_M_behindP_4, u_M_behindP_7, u_M_behindP_8, u_M_behindP_9, u_M_behindP_10, u_M_behindP_11, u_M_behindP_12, u_M_behindP_13, u_M_behindP_16, u_M_behindP_17, u_M_behindP_18, u_M_behindP_19, u_M_behindP_20, u_M_behindP_21, u_M_behindP_22, u_M_behindP_23, u_M_behindP_24, u_M_behindP_25, u_M_behindP_29, u_M_behindP_30, u_M_behindP_31, u_M_behindP_32, u_M_behindP_34, u_M_behindP_36, u_M_behindP_39, u_M_behindP_42, u_M_behindP_43, u_M_behindP_46, u_M_behindP_47, u_M_behindP_48, u_M_behindP_49, u_M_behindP_51, u_M_behindP_53, u_M_behindP_56, u_M_behindP_59, u_M_behindP_60, u_M_behindP_63, u_M_behindP_64, u_M_behindP_65, u_M_behindP_67, u_M_behindP_70, u_M_behindP_72, u_M_behindP_75, u_M_behindP_76, h1_156, gt_156_25, h1_164, h2_164, gt_164, pt_164, ne_eq, not_false_eq_true, not_true_eq_false, true_and, and_true, true_or, or_true, eq_self, Option.toList_some, Option.toList_none, List.cons_append, List.nil_append, tc_0, tc_I, tc_L, tc_A, Nat.reduceAdd, Nat.reduceLeDiff, Nat.reduceEqDiff, Int.reduceEq, Int.reduceLT, Int.reduceLE, Int.reduceNeg, Int.reduceToNat, Int.cast_ofNat_Int, if_true, if_false, and_self, or_self, ite_self, bI_0, bI_1, bI_01, Bool.false_eq_true, reduceCtorEq, x1, x2, x3, x4, x5, hn, wi]
    rw [e]
  | .inr (rr, e), hp, hs =>
    obtain ⟨hv, hs⟩ := seg_hd hs
    obtain ⟨hv2, hs⟩ := seg_hd hs
    obtain ⟨hs1, hs2⟩ := seg_split hs
    obtain ⟨hv3, hs2⟩ := seg_hd hs2
    have el := seg_len hs2
    simp at el
    have eX := seg_len hs1
    have := hs1.1
    obtain ⟨x1, x2, x3, x4, x5, x6⟩ := h.ix h0 (show i < len by omega)
    have hn : ¬ eS T i = 1 := by have := (eS_row (T := T) (x := i) (by rw [hv]; exact hp.1)).1; omega
    simp only [u_M_behindP_0, u_M_behindP_1, u_M_behindP_4, u_M_behindP_7, u_M_behindP_8, u_M_behindP_9, u_M_behindP_10, u_M_behindP_11, u_M_behindP_12, u_M_behindP_13, u_M_behindP_16, u_M_behindP_17, u_M_behindP_18, u_M_behindP_19, u_M_behindP_20, u_M_behindP_21, u_M_behindP_22, u_M_behindP_23, u_M_behindP_24, u_M_behindP_25, h1_156, gt_156_25, h1_164, h2_164, gt_164, pt_164, ne_eq, not_false_eq_true, not_true_eq_false, true_and, and_true, true_or, or_true, eq_self, Option.toList_some, Option.toList_none, List.cons_append, List.nil_append, tc_0, tc_I, tc_L, tc_A, Nat.reduceAdd, Nat.reduceLeDiff, Nat.reduceEqDiff, Int.reduceEq, Int.reduceLT, Int.reduceLE, Int.reduceNeg, Int.reduceToNat, Int.cast_ofNat_Int, if_true, if_false, and_self, or_self, ite_self, bI_0, bI_1, bI_01, Bool.false_eq_true, reduceCtorEq, x1, x2, x3, x4, x5, hn, wi]
    have hw := kX_b (β := 1) (γ := 0) (o := 1) (by omega) (by omega) (by omega) e hp.2
    have := l_M_behindP (L := L) (d := d) (f := f) (t := t) (Q := Q) (fr := i) h hv3 (91 :: kX e) (i + 1) 0 1 ⟨by simp [bwt], by simpa [bwt] using hw⟩ rfl (seg_cons hv2 hs1) (by omega) (by omega) (by rw [List.length_cons]; omega)
    rw [this, el]
end
