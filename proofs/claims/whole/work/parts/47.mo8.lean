/-! The reference's reader: the recursion of factors -/
section
variable {L d : Nat} {f t g g0 : Mem} {Q : Option TV → Wd → Prop} {y : Int → Int} {n k op : Int} {len N R : Nat}
theorem NRl_name {T : Int → Int} (h : kName (T k) = true) : NRl T N (N ||| 2 ^ (T k - 97).toNat) R R k (k + 1) := by
  unfold kName at h; simp at h
  refine ⟨fun x hx => ?_, fun x hx => ?_⟩ <;> rw [show (k + 1 - k).toNat = 1 by omega]
  · rw [msk_b]; simp only [hasTk, Bool.or_false]
    congr 1; apply decide_eq_decide.mpr; omega
  · simp only [hasTk, Bool.or_false]; rw [decide_eq_false (by omega), Bool.or_false]
theorem NRl_row {T : Int → Int} (h : kRow (T k) = true) : NRl T N N R (R ||| 2 ^ (T k - 65).toNat) k (k + 1) := by
  unfold kRow at h; simp at h
  refine ⟨fun x hx => ?_, fun x hx => ?_⟩ <;> rw [show (k + 1 - k).toNat = 1 by omega]
  · simp only [hasTk, Bool.or_false]; rw [decide_eq_false (by omega), Bool.or_false]
  · rw [msk_b]; simp only [hasTk, Bool.or_false]
    congr 1; apply decide_eq_decide.mpr; omega
theorem FE_op (h : FE g0 g) {v : Int} : FE g0 (mset g 156 16 v) := by
  intro c j hcj; rw [← h c j hcj]; unfold scE at hcj; simp only [rd]; grind
set_option maxHeartbeats 4000000 in
theorem p_M_readF (hL : Lexd y n len) (hn6 : n ≤ 600) : ∀ (b : Nat), b ≤ 8 → ∀ (D : Nat), 4 * b + 10 ≤ D → ∀ (op : Int), op = 8 - b → ∀ (g : Mem) (k : Int) (N R : Nat) (Q : Option TV → Wd → Prop), ME y n len g0 k op N R g → ¬ kEnd (Tk y len (k - 1)) = true → RM y n len g0 f t op Q k N R (pF (Tk y len) b k) → VV L D m_M_readF 0 [some (tA 156), none] [] (WW f t g) Q := by
  intro b
  have hleaf : ∀ (d : Nat) (op : Int) (g : Mem) (k : Int) (N R : Nat) (Q : Option TV → Wd → Prop), ME y n len g0 k op N R g → ¬ Tk y len k = 45 → ¬ Tk y len k = 40 → ¬ kRow (Tk y len k) = true → RM y n len g0 f t op Q k N R (pL (Tk y len) k) → VV L (d + 10) m_M_readF 0 [some (tA 156), none] [] (WW f t g) Q := by
    intro d op g k N R Q h h45 h40 hr hR
    simp only [u_M_readF_0, u_M_readF_1, ne_eq, not_false_eq_true, not_true_eq_false, true_and, and_true, true_or, or_true, eq_self, Option.toList_some, Option.toList_none, List.cons_append, List.nil_append, tc_0, tc_I, tc_L, tc_A, Nat.reduceAdd, Nat.reduceLeDiff, Nat.reduceEqDiff, Int.reduceEq, Int.reduceLT, Int.reduceLE, Int.reduceNeg, Int.reduceToNat, Int.cast_ofNat_Int, if_true, if_false, and_self, or_self, ite_self, bI_0, bI_1, bI_01, Bool.false_eq_true, reduceCtorEq, h1_156]
    refine m_look hL h (fun g1 h1 hl => ?_)
    unfold pL at hR
    by_cases hneg : Tk y len k < 0
    · rw [if_neg (by omega), if_pos (Or.inl (by unfold kNum; simp; exact hneg))] at hR
      simp only [u_M_readF_4, u_M_readF_5, u_M_readF_8, u_M_readF_9, u_M_readF_12, u_M_readF_13, u_M_readF_16, u_M_readF_17, ne_eq, not_false_eq_true, not_true_eq_false, true_and, and_true, true_or, or_true, eq_self, Option.toList_some, Option.toList_none, List.cons_append, List.nil_append, tc_0, tc_I, tc_L, tc_A, Nat.reduceAdd, Nat.reduceLeDiff, Nat.reduceEqDiff, Int.reduceEq, Int.reduceLT, Int.reduceLE, Int.reduceNeg, Int.reduceToNat, Int.cast_ofNat_Int, if_true, if_false, and_self, or_self, ite_self, bI_0, bI_1, bI_01, Bool.false_eq_true, reduceCtorEq, h1_156, gt_156_6, hl.2.1, srt_n hneg]
      refine p_take hL hn6 h1 hl (by omega) h45 (fun g2 h2 => ?_)
      simp only [u_M_readF_16, u_M_readF_17, ne_eq, not_false_eq_true, not_true_eq_false, true_and, and_true, true_or, or_true, eq_self, Option.toList_some, Option.toList_none, List.cons_append, List.nil_append, tc_0, tc_I, tc_L, tc_A, Nat.reduceAdd, Nat.reduceLeDiff, Nat.reduceEqDiff, Int.reduceEq, Int.reduceLT, Int.reduceLE, Int.reduceNeg, Int.reduceToNat, Int.cast_ofNat_Int, if_true, if_false, and_self, or_self, ite_self, bI_0, bI_1, bI_01, Bool.false_eq_true, reduceCtorEq]
      exact hR g2 N R h2 (NRl_one (by omega)) (by rw [show k + 1 - 1 = k by omega]; exact kEnd_n hneg) (by omega)
    · by_cases hnm : kName (Tk y len k) = true
      · have h35 : ¬ Tk y len k = 35 := by unfold kName at hnm; simp at hnm; omega
        have hx : 0 ≤ Tk y len k - 97 ∧ Tk y len k - 97 < 26 := by unfold kName at hnm; simp at hnm; omega
        rw [if_neg h35, if_pos (Or.inr hnm)] at hR
        have hm := msk_or (ME_N1 h1).2 (show (Tk y len k - 97).toNat < 26 by omega)
        rw [show (((Tk y len k - 97).toNat : Nat) : Int) = Tk y len k - 97 by omega] at hm
        simp only [u_M_readF_4, u_M_readF_5, u_M_readF_8, u_M_readF_9, u_M_readF_12, u_M_readF_13, u_M_readF_16, u_M_readF_17, u_M_readF_18, u_M_readF_19, u_M_readF_22, u_M_readF_23, u_M_readF_26, u_M_readF_27, u_M_readF_28, u_M_readF_31, u_M_readF_32, u_M_readF_33, u_M_readF_36, u_M_readF_37, u_M_readF_38, u_M_readF_41, u_M_readF_42, u_M_readF_45, u_M_readF_46, ne_eq, not_false_eq_true, not_true_eq_false, true_and, and_true, true_or, or_true, eq_self, Option.toList_some, Option.toList_none, List.cons_append, List.nil_append, tc_0, tc_I, tc_L, tc_A, Nat.reduceAdd, Nat.reduceLeDiff, Nat.reduceEqDiff, Int.reduceEq, Int.reduceLT, Int.reduceLE, Int.reduceNeg, Int.reduceToNat, Int.cast_ofNat_Int, if_true, if_false, and_self, or_self, ite_self, bI_0, bI_1, bI_01, Bool.false_eq_true, reduceCtorEq, h1_156, gt_156_6, gt_156_7, gt_156_14, pt_156_14, hl.2.1, hl.2.2.1, (srt_a hnm).1, (srt_a hnm).2, (ME_N1 h1).1, hm.1]
        refine p_take hL hn6 (ME_N h1 hm.2) (LKs_m hl (by omega)) (kName_ne hnm) h45 (fun g2 h2 => ?_)
        simp only [u_M_readF_42, u_M_readF_45, u_M_readF_46, ne_eq, not_false_eq_true, not_true_eq_false, true_and, and_true, true_or, or_true, eq_self, Option.toList_some, Option.toList_none, List.cons_append, List.nil_append, tc_0, tc_I, tc_L, tc_A, Nat.reduceAdd, Nat.reduceLeDiff, Nat.reduceEqDiff, Int.reduceEq, Int.reduceLT, Int.reduceLE, Int.reduceNeg, Int.reduceToNat, Int.cast_ofNat_Int, if_true, if_false, and_self, or_self, ite_self, bI_0, bI_1, bI_01, Bool.false_eq_true, reduceCtorEq]
        exact hR g2 _ R h2 (NRl_name hnm) (by rw [show k + 1 - 1 = k by omega]; exact kEnd_a hnm) (by omega)
      · have s1 : ¬ srt (Tk y len k) = 1 := fun h => hnm (srt_iff.1.mp h)
        have s2 : ¬ srt (Tk y len k) = 2 := fun h => hneg (srt_iff.2.1.mp h)
        have s3 : ¬ srt (Tk y len k) = 3 := fun h => hr (srt_iff.2.2.1.mp h)
        by_cases h35 : Tk y len k = 35
        · rw [if_pos h35] at hR
          have hs7 : srt (Tk y len k) = 7 ∧ whc (Tk y len k) = 35 := by rw [h35]; exact ⟨rfl, rfl⟩
          simp only [u_M_readF_4, u_M_readF_5, u_M_readF_8, u_M_readF_9, u_M_readF_12, u_M_readF_13, u_M_readF_16, u_M_readF_17, u_M_readF_18, u_M_readF_19, u_M_readF_22, u_M_readF_23, u_M_readF_26, u_M_readF_27, u_M_readF_28, u_M_readF_31, u_M_readF_32, u_M_readF_33, u_M_readF_36, u_M_readF_37, u_M_readF_38, u_M_readF_41, u_M_readF_42, u_M_readF_45, u_M_readF_46, u_M_readF_47, u_M_readF_48, u_M_readF_51, u_M_readF_52, u_M_readF_55, u_M_readF_56, u_M_readF_57, u_M_readF_60, u_M_readF_61, u_M_readF_62, u_M_readF_65, u_M_readF_66, u_M_readF_67, u_M_readF_70, u_M_readF_71, u_M_readF_74, u_M_readF_75, u_M_readF_78, u_M_readF_79, u_M_readF_82, u_M_readF_84, u_M_readF_87, u_M_readF_88, u_M_readF_91, u_M_readF_93, u_M_readF_96, u_M_readF_97, u_M_readF_98, u_M_readF_99, u_M_readF_102, u_M_readF_105, u_M_readF_106, u_M_readF_107, u_M_readF_110, u_M_readF_113, u_M_readF_114, u_M_readF_117, u_M_readF_120, u_M_readF_121, u_M_readF_124, u_M_readF_125, u_M_readF_126, u_M_readF_127, u_M_readF_130, u_M_readF_132, u_M_readF_135, u_M_readF_136, u_M_readF_139, u_M_readF_141, u_M_readF_144, u_M_readF_145, ne_eq, not_false_eq_true, not_true_eq_false, true_and, and_true, true_or, or_true, eq_self, Option.toList_some, Option.toList_none, List.cons_append, List.nil_append, tc_0, tc_I, tc_L, tc_A, Nat.reduceAdd, Nat.reduceLeDiff, Nat.reduceEqDiff, Int.reduceEq, Int.reduceLT, Int.reduceLE, Int.reduceNeg, Int.reduceToNat, Int.cast_ofNat_Int, if_true, if_false, and_self, or_self, ite_self, bI_0, bI_1, bI_01, Bool.false_eq_true, reduceCtorEq, h1_156, gt_156_6, gt_156_7, hl.2.1, hl.2.2.1, hs7.1, hs7.2]
          refine p_take hL hn6 h1 hl (by omega) h45 (fun g2 h2 => ?_)
          simp only [u_M_readF_148, u_M_readF_149, ne_eq, not_false_eq_true, not_true_eq_false, true_and, and_true, true_or, or_true, eq_self, Option.toList_some, Option.toList_none, List.cons_append, List.nil_append, tc_0, tc_I, tc_L, tc_A, Nat.reduceAdd, Nat.reduceLeDiff, Nat.reduceEqDiff, Int.reduceEq, Int.reduceLT, Int.reduceLE, Int.reduceNeg, Int.reduceToNat, Int.cast_ofNat_Int, if_true, if_false, and_self, or_self, ite_self, bI_0, bI_1, bI_01, Bool.false_eq_true, reduceCtorEq, h1_156]
          refine m_look hL h2 (fun g3 h3 hl3 => ?_)
          by_cases hrow : kRow (Tk y len (k + 1)) = true
          · have hx : 0 ≤ Tk y len (k + 1) - 65 ∧ Tk y len (k + 1) - 65 < 6 := by unfold kRow at hrow; simp at hrow; omega
            have hm := msk_or (ME_R1 h3).2 (show (Tk y len (k + 1) - 65).toNat < 26 by omega)
            rw [show (((Tk y len (k + 1) - 65).toNat : Nat) : Int) = Tk y len (k + 1) - 65 by omega] at hm
            rw [if_pos hrow] at hR
            simp only [u_M_readF_152, u_M_readF_153, u_M_readF_154, u_M_readF_157, u_M_readF_158, u_M_readF_161, u_M_readF_162, u_M_readF_165, u_M_readF_166, u_M_readF_167, u_M_readF_170, u_M_readF_171, u_M_readF_174, u_M_readF_175, u_M_readF_176, u_M_readF_179, u_M_readF_180, u_M_readF_181, u_M_readF_184, ne_eq, not_false_eq_true, not_true_eq_false, true_and, and_true, true_or, or_true, eq_self, Option.toList_some, Option.toList_none, List.cons_append, List.nil_append, tc_0, tc_I, tc_L, tc_A, Nat.reduceAdd, Nat.reduceLeDiff, Nat.reduceEqDiff, Int.reduceEq, Int.reduceLT, Int.reduceLE, Int.reduceNeg, Int.reduceToNat, Int.cast_ofNat_Int, if_true, if_false, and_self, or_self, ite_self, bI_0, bI_1, bI_01, Bool.false_eq_true, reduceCtorEq, h1_156, gt_156_6, gt_156_7, gt_156_15, pt_156_15, hl3.2.1, hl3.2.2.1, (srt_r hrow).1, (srt_r hrow).2, (ME_R1 h3).1, hm.1]
            refine p_wantsS (d := d + 5) hL hn6 (ME_R h3 hm.2) (by omega) (fun _ g4 h4 => ?_) (fun hne => absurd (srt_r hrow).1 hne)
            simp only [u_M_readF_184, ne_eq, not_false_eq_true, not_true_eq_false, true_and, and_true, true_or, or_true, eq_self, Option.toList_some, Option.toList_none, List.cons_append, List.nil_append, tc_0, tc_I, tc_L, tc_A, Nat.reduceAdd, Nat.reduceLeDiff, Nat.reduceEqDiff, Int.reduceEq, Int.reduceLT, Int.reduceLE, Int.reduceNeg, Int.reduceToNat, Int.cast_ofNat_Int, if_true, if_false, and_self, or_self, ite_self, bI_0, bI_1, bI_01, Bool.false_eq_true, reduceCtorEq]
            rw [show k + 1 + 1 = k + 2 by omega] at h4
            refine hR g4 N _ h4 ?_ (by rw [show k + 2 - 1 = k + 1 by omega]; exact kEnd_r hrow) (by omega)
            have q := NRl_row (N := N) (R := R) (T := Tk y len) (k := k + 1) hrow
            rw [show k + 1 + 1 = k + 2 by omega] at q
            exact NRl_skip q (by omega) (by omega)
          · have s3' : ¬ srt (Tk y len (k + 1)) = 3 := fun h => hrow (srt_iff.2.2.1.mp h)
            rw [if_neg hrow] at hR
            have hm0 : o32 (fun x y => x ||| y) (R : Int) 0 = R := by
              have := o32_or (a := R) (b := 0) (by have := (ME_R1 h3).2; omega) (by omega)
              simpa using this
            have hsame : mset g3 156 15 R = g3 := by
              funext c j; simp only [rd]; split
              · rename_i hh; rw [hh.1, hh.2]; exact (ME_R1 h3).1.symm
              · rfl
            simp only [u_M_readF_152, u_M_readF_153, u_M_readF_154, u_M_readF_157, u_M_readF_158, u_M_readF_161, u_M_readF_162, u_M_readF_165, u_M_readF_166, u_M_readF_167, u_M_readF_170, u_M_readF_171, u_M_readF_174, u_M_readF_175, u_M_readF_176, u_M_readF_179, u_M_readF_180, u_M_readF_181, u_M_readF_184, ne_eq, not_false_eq_true, not_true_eq_false, true_and, and_true, true_or, or_true, eq_self, Option.toList_some, Option.toList_none, List.cons_append, List.nil_append, tc_0, tc_I, tc_L, tc_A, Nat.reduceAdd, Nat.reduceLeDiff, Nat.reduceEqDiff, Int.reduceEq, Int.reduceLT, Int.reduceLE, Int.reduceNeg, Int.reduceToNat, Int.cast_ofNat_Int, if_true, if_false, and_self, or_self, ite_self, bI_0, bI_1, bI_01, Bool.false_eq_true, reduceCtorEq, h1_156, gt_156_6, gt_156_7, gt_156_15, pt_156_15, hl3.2.1, hl3.2.2.1, s3', (ME_R1 h3).1, hm0, hsame]
            refine p_wantsS (d := d + 5) hL hn6 h3 (by omega) (fun hh => absurd hh s3') (fun _ g4 a b c => ?_)
            simp only [u_M_readF_184, ne_eq, not_false_eq_true, not_true_eq_false, true_and, and_true, true_or, or_true, eq_self, Option.toList_some, Option.toList_none, List.cons_append, List.nil_append, tc_0, tc_I, tc_L, tc_A, Nat.reduceAdd, Nat.reduceLeDiff, Nat.reduceEqDiff, Int.reduceEq, Int.reduceLT, Int.reduceLE, Int.reduceNeg, Int.reduceToNat, Int.cast_ofNat_Int, if_true, if_false, and_self, or_self, ite_self, bI_0, bI_1, bI_01, Bool.false_eq_true, reduceCtorEq]
            exact hR g4 a b c
        · rw [if_neg h35, if_neg (fun hh => by rcases hh with hh | hh; (unfold kNum at hh; simp at hh; omega); exact hnm hh)] at hR
          simp only [u_M_readF_4, u_M_readF_5, u_M_readF_8, u_M_readF_9, u_M_readF_12, u_M_readF_13, u_M_readF_16, u_M_readF_17, u_M_readF_18, u_M_readF_19, u_M_readF_22, ne_eq, not_false_eq_true, not_true_eq_false, true_and, and_true, true_or, or_true, eq_self, Option.toList_some, Option.toList_none, List.cons_append, List.nil_append, tc_0, tc_I, tc_L, tc_A, Nat.reduceAdd, Nat.reduceLeDiff, Nat.reduceEqDiff, Int.reduceEq, Int.reduceLT, Int.reduceLE, Int.reduceNeg, Int.reduceToNat, Int.cast_ofNat_Int, if_true, if_false, and_self, or_self, ite_self, bI_0, bI_1, bI_01, Bool.false_eq_true, reduceCtorEq, h1_156, gt_156_6, hl.2.1, s1, s2, s3]
          have hfail : ∀ (g1 : Mem), ME y n len g0 k op N R g1 → LKs y len k g1 → VV L (d + 10) m_M_readF 257 [some (tA 156), none] [] (WW f t g1) Q := by
            intro g1 h1 hl
            simp only [u_M_readF_257, u_M_readF_258, u_M_readF_259, u_M_readF_260, u_M_readF_263, u_M_readF_266, ne_eq, not_false_eq_true, not_true_eq_false, true_and, and_true, true_or, or_true, eq_self, Option.toList_some, Option.toList_none, List.cons_append, List.nil_append, tc_0, tc_I, tc_L, tc_A, Nat.reduceAdd, Nat.reduceLeDiff, Nat.reduceEqDiff, Int.reduceEq, Int.reduceLT, Int.reduceLE, Int.reduceNeg, Int.reduceToNat, Int.cast_ofNat_Int, if_true, if_false, and_self, or_self, ite_self, bI_0, bI_1, bI_01, Bool.false_eq_true, reduceCtorEq, h1_156, gt_156_5, hl.1]
            refine m_fails h1.1 (fun g2 a b c => ?_)
            simp only [u_M_readF_266, ne_eq, not_false_eq_true, not_true_eq_false, true_and, and_true, true_or, or_true, eq_self, Option.toList_some, Option.toList_none, List.cons_append, List.nil_append, tc_0, tc_I, tc_L, tc_A, Nat.reduceAdd, Nat.reduceLeDiff, Nat.reduceEqDiff, Int.reduceEq, Int.reduceLT, Int.reduceLE, Int.reduceNeg, Int.reduceToNat, Int.cast_ofNat_Int, if_true, if_false, and_self, or_self, ite_self, bI_0, bI_1, bI_01, Bool.false_eq_true, reduceCtorEq]
            exact hR g2 a b c
          by_cases e7 : srt (Tk y len k) = 7
          · have hw := srt7 e7
            simp only [u_M_readF_23, u_M_readF_26, u_M_readF_27, u_M_readF_28, u_M_readF_31, u_M_readF_32, u_M_readF_33, u_M_readF_36, u_M_readF_37, u_M_readF_38, u_M_readF_41, u_M_readF_42, u_M_readF_45, u_M_readF_46, u_M_readF_47, u_M_readF_48, u_M_readF_51, u_M_readF_52, u_M_readF_55, u_M_readF_56, u_M_readF_57, u_M_readF_60, u_M_readF_61, u_M_readF_62, u_M_readF_65, u_M_readF_66, u_M_readF_67, u_M_readF_70, u_M_readF_71, u_M_readF_74, u_M_readF_75, u_M_readF_78, u_M_readF_79, u_M_readF_82, u_M_readF_84, u_M_readF_87, u_M_readF_88, u_M_readF_91, u_M_readF_93, u_M_readF_96, u_M_readF_97, u_M_readF_98, u_M_readF_99, u_M_readF_102, u_M_readF_105, u_M_readF_106, u_M_readF_107, u_M_readF_110, u_M_readF_113, u_M_readF_114, u_M_readF_117, u_M_readF_120, u_M_readF_121, u_M_readF_124, u_M_readF_125, u_M_readF_126, u_M_readF_127, u_M_readF_130, u_M_readF_132, u_M_readF_135, u_M_readF_136, u_M_readF_139, u_M_readF_141, u_M_readF_144, u_M_readF_145, u_M_readF_148, u_M_readF_149, u_M_readF_152, u_M_readF_153, u_M_readF_154, u_M_readF_157, u_M_readF_158, u_M_readF_161, u_M_readF_162, u_M_readF_165, u_M_readF_166, u_M_readF_167, u_M_readF_170, u_M_readF_171, u_M_readF_174, u_M_readF_175, u_M_readF_176, u_M_readF_179, u_M_readF_180, u_M_readF_181, u_M_readF_184, u_M_readF_185, u_M_readF_186, u_M_readF_189, u_M_readF_191, u_M_readF_194, u_M_readF_195, u_M_readF_198, u_M_readF_200, u_M_readF_203, u_M_readF_204, u_M_readF_207, u_M_readF_210, u_M_readF_211, u_M_readF_212, u_M_readF_213, u_M_readF_215, u_M_readF_218, u_M_readF_219, u_M_readF_222, u_M_readF_223, u_M_readF_226, u_M_readF_227, u_M_readF_228, u_M_readF_229, u_M_readF_232, u_M_readF_233, u_M_readF_234, u_M_readF_237, u_M_readF_238, u_M_readF_239, u_M_readF_240, u_M_readF_243, u_M_readF_245, u_M_readF_248, u_M_readF_249, u_M_readF_252, u_M_readF_254, ne_eq, not_false_eq_true, not_true_eq_false, true_and, and_true, true_or, or_true, eq_self, Option.toList_some, Option.toList_none, List.cons_append, List.nil_append, tc_0, tc_I, tc_L, tc_A, Nat.reduceAdd, Nat.reduceLeDiff, Nat.reduceEqDiff, Int.reduceEq, Int.reduceLT, Int.reduceLE, Int.reduceNeg, Int.reduceToNat, Int.cast_ofNat_Int, if_true, if_false, and_self, or_self, ite_self, bI_0, bI_1, bI_01, Bool.false_eq_true, reduceCtorEq, h1_156, gt_156_6, gt_156_7, hl.2.1, hl.2.2.1, s1, s2, s3, e7, hw, h35, h45, h40]
            exact hfail g1 h1 hl
          · simp only [u_M_readF_23, u_M_readF_26, u_M_readF_27, u_M_readF_28, u_M_readF_31, u_M_readF_32, u_M_readF_33, u_M_readF_36, u_M_readF_37, u_M_readF_38, u_M_readF_41, u_M_readF_42, u_M_readF_45, u_M_readF_46, u_M_readF_47, u_M_readF_48, u_M_readF_51, u_M_readF_52, u_M_readF_55, u_M_readF_56, u_M_readF_57, u_M_readF_60, u_M_readF_61, u_M_readF_62, u_M_readF_65, u_M_readF_66, u_M_readF_67, u_M_readF_70, u_M_readF_71, u_M_readF_74, u_M_readF_75, u_M_readF_78, u_M_readF_79, u_M_readF_82, u_M_readF_84, u_M_readF_87, u_M_readF_88, u_M_readF_91, u_M_readF_93, u_M_readF_96, u_M_readF_97, u_M_readF_98, u_M_readF_99, u_M_readF_102, u_M_readF_105, u_M_readF_106, u_M_readF_107, u_M_readF_110, u_M_readF_113, u_M_readF_114, u_M_readF_117, u_M_readF_120, u_M_readF_121, u_M_readF_124, u_M_readF_125, u_M_readF_126, u_M_readF_127, u_M_readF_130, u_M_readF_132, u_M_readF_135, u_M_readF_136, u_M_readF_139, u_M_readF_141, u_M_readF_144, u_M_readF_145, u_M_readF_148, u_M_readF_149, u_M_readF_152, u_M_readF_153, u_M_readF_154, u_M_readF_157, u_M_readF_158, u_M_readF_161, u_M_readF_162, u_M_readF_165, u_M_readF_166, u_M_readF_167, u_M_readF_170, u_M_readF_171, u_M_readF_174, u_M_readF_175, u_M_readF_176, u_M_readF_179, u_M_readF_180, u_M_readF_181, u_M_readF_184, u_M_readF_185, u_M_readF_186, u_M_readF_189, u_M_readF_191, u_M_readF_194, u_M_readF_195, u_M_readF_198, u_M_readF_200, u_M_readF_203, u_M_readF_204, u_M_readF_207, u_M_readF_210, u_M_readF_211, u_M_readF_212, u_M_readF_213, u_M_readF_215, u_M_readF_218, u_M_readF_219, u_M_readF_222, u_M_readF_223, u_M_readF_226, u_M_readF_227, u_M_readF_228, u_M_readF_229, u_M_readF_232, u_M_readF_233, u_M_readF_234, u_M_readF_237, u_M_readF_238, u_M_readF_239, u_M_readF_240, u_M_readF_243, u_M_readF_245, u_M_readF_248, u_M_readF_249, u_M_readF_252, u_M_readF_254, ne_eq, not_false_eq_true, not_true_eq_false, true_and, and_true, true_or, or_true, eq_self, Option.toList_some, Option.toList_none, List.cons_append, List.nil_append, tc_0, tc_I, tc_L, tc_A, Nat.reduceAdd, Nat.reduceLeDiff, Nat.reduceEqDiff, Int.reduceEq, Int.reduceLT, Int.reduceLE, Int.reduceNeg, Int.reduceToNat, Int.cast_ofNat_Int, if_true, if_false, and_self, or_self, ite_self, bI_0, bI_1, bI_01, Bool.false_eq_true, reduceCtorEq, h1_156, gt_156_6, gt_156_7, hl.2.1, hl.2.2.1, s1, s2, s3, e7]
            exact hfail g1 h1 hl
  have hrowgo : ∀ (d : Nat) (op : Int) (g : Mem) (k : Int) (N R : Nat) (Q : Option TV → Wd → Prop), ME y n len g0 k op N R g → kRow (Tk y len k) = true → (¬ Tk y len (k + 1) = 91 → ∀ g', FE g0 g' → g' 156 12 = 1 → g' 156 13 = sk y (eN y (k + 1).toNat) → Q (some (tI 0)) (WW f t g')) → (Tk y len (k + 1) = 91 → ∀ g' R', ME y n len g0 (k + 1) op N R' g' → NRl (Tk y len) N N R R' k (k + 1) → LKs y len (k + 1) g' → VV L (d + 10) m_M_readF 106 [some (tA 156), none] [] (WW f t g') Q) → VV L (d + 10) m_M_readF 0 [some (tA 156), none] [] (WW f t g) Q := by
    intro d op g k N R Q h hr hN hY
    have hx : 65 ≤ Tk y len k ∧ Tk y len k ≤ 70 := by unfold kRow at hr; simp at hr; omega
    simp only [u_M_readF_0, u_M_readF_1, ne_eq, not_false_eq_true, not_true_eq_false, true_and, and_true, true_or, or_true, eq_self, Option.toList_some, Option.toList_none, List.cons_append, List.nil_append, tc_0, tc_I, tc_L, tc_A, Nat.reduceAdd, Nat.reduceLeDiff, Nat.reduceEqDiff, Int.reduceEq, Int.reduceLT, Int.reduceLE, Int.reduceNeg, Int.reduceToNat, Int.cast_ofNat_Int, if_true, if_false, and_self, or_self, ite_self, bI_0, bI_1, bI_01, Bool.false_eq_true, reduceCtorEq, h1_156]
    refine m_look hL h (fun g1 h1 hl => ?_)
    have hm := msk_or (ME_R1 h1).2 (show (Tk y len k - 65).toNat < 26 by omega)
    rw [show (((Tk y len k - 65).toNat : Nat) : Int) = Tk y len k - 65 by omega] at hm
    simp only [u_M_readF_4, u_M_readF_5, u_M_readF_8, u_M_readF_9, u_M_readF_12, u_M_readF_13, u_M_readF_16, u_M_readF_17, u_M_readF_18, u_M_readF_19, u_M_readF_22, u_M_readF_23, u_M_readF_26, u_M_readF_27, u_M_readF_28, u_M_readF_31, u_M_readF_32, u_M_readF_33, u_M_readF_36, u_M_readF_37, u_M_readF_38, u_M_readF_41, u_M_readF_42, u_M_readF_45, u_M_readF_46, u_M_readF_47, u_M_readF_48, u_M_readF_51, u_M_readF_52, u_M_readF_55, u_M_readF_56, u_M_readF_57, u_M_readF_60, u_M_readF_61, u_M_readF_62, u_M_readF_65, u_M_readF_66, u_M_readF_67, u_M_readF_70, u_M_readF_71, ne_eq, not_false_eq_true, not_true_eq_false, true_and, and_true, true_or, or_true, eq_self, Option.toList_some, Option.toList_none, List.cons_append, List.nil_append, tc_0, tc_I, tc_L, tc_A, Nat.reduceAdd, Nat.reduceLeDiff, Nat.reduceEqDiff, Int.reduceEq, Int.reduceLT, Int.reduceLE, Int.reduceNeg, Int.reduceToNat, Int.cast_ofNat_Int, if_true, if_false, and_self, or_self, ite_self, bI_0, bI_1, bI_01, Bool.false_eq_true, reduceCtorEq, h1_156, gt_156_6, gt_156_7, gt_156_15, pt_156_15, hl.2.1, hl.2.2.1, (srt_r hr).1, (srt_r hr).2, (ME_R1 h1).1, hm.1]
    refine p_take hL hn6 (ME_R h1 hm.2) (LKs_m hl (by omega)) (kRow_ne hr) (by omega) (fun g2 h2 => ?_)
    simp only [u_M_readF_74, u_M_readF_75, ne_eq, not_false_eq_true, not_true_eq_false, true_and, and_true, true_or, or_true, eq_self, Option.toList_some, Option.toList_none, List.cons_append, List.nil_append, tc_0, tc_I, tc_L, tc_A, Nat.reduceAdd, Nat.reduceLeDiff, Nat.reduceEqDiff, Int.reduceEq, Int.reduceLT, Int.reduceLE, Int.reduceNeg, Int.reduceToNat, Int.cast_ofNat_Int, if_true, if_false, and_self, or_self, ite_self, bI_0, bI_1, bI_01, Bool.false_eq_true, reduceCtorEq, h1_156]
    refine m_look hL h2 (fun g3 h3 hl3 => ?_)
    have hi := sg_iff (x := Tk y len (k + 1)) (c := 91) (by decide)
    by_cases e : Tk y len (k + 1) = 91
    · have := hi.mpr e
      simp only [u_M_readF_78, u_M_readF_79, u_M_readF_82, u_M_readF_84, u_M_readF_87, u_M_readF_88, u_M_readF_91, u_M_readF_93, u_M_readF_96, u_M_readF_97, u_M_readF_98, u_M_readF_99, u_M_readF_102, u_M_readF_105, ne_eq, not_false_eq_true, not_true_eq_false, true_and, and_true, true_or, or_true, eq_self, Option.toList_some, Option.toList_none, List.cons_append, List.nil_append, tc_0, tc_I, tc_L, tc_A, Nat.reduceAdd, Nat.reduceLeDiff, Nat.reduceEqDiff, Int.reduceEq, Int.reduceLT, Int.reduceLE, Int.reduceNeg, Int.reduceToNat, Int.cast_ofNat_Int, if_true, if_false, and_self, or_self, ite_self, bI_0, bI_1, bI_01, Bool.false_eq_true, reduceCtorEq, h1_156, gt_156_6, gt_156_7, hl3.2.1, hl3.2.2.1, this.1, this.2]
      exact hY e g3 _ h3 (NRl_row hr) hl3
    · have hfail : VV L (d + 10) m_M_readF 96 [some (tA 156), none] [] (WW f t g3) Q := by
        simp only [u_M_readF_96, u_M_readF_97, u_M_readF_98, u_M_readF_99, u_M_readF_102, u_M_readF_105, ne_eq, not_false_eq_true, not_true_eq_false, true_and, and_true, true_or, or_true, eq_self, Option.toList_some, Option.toList_none, List.cons_append, List.nil_append, tc_0, tc_I, tc_L, tc_A, Nat.reduceAdd, Nat.reduceLeDiff, Nat.reduceEqDiff, Int.reduceEq, Int.reduceLT, Int.reduceLE, Int.reduceNeg, Int.reduceToNat, Int.cast_ofNat_Int, if_true, if_false, and_self, or_self, ite_self, bI_0, bI_1, bI_01, Bool.false_eq_true, reduceCtorEq, h1_156, gt_156_5, hl3.1]
        refine m_fails h3.1 (fun g4 a b c => ?_)
        simp only [u_M_readF_105, ne_eq, not_false_eq_true, not_true_eq_false, true_and, and_true, true_or, or_true, eq_self, Option.toList_some, Option.toList_none, List.cons_append, List.nil_append, tc_0, tc_I, tc_L, tc_A, Nat.reduceAdd, Nat.reduceLeDiff, Nat.reduceEqDiff, Int.reduceEq, Int.reduceLT, Int.reduceLE, Int.reduceNeg, Int.reduceToNat, Int.cast_ofNat_Int, if_true, if_false, and_self, or_self, ite_self, bI_0, bI_1, bI_01, Bool.false_eq_true, reduceCtorEq]
        exact hN e g4 a b c
      by_cases e7 : srt (Tk y len (k + 1)) = 7
      · have e2 : ¬ whc (Tk y len (k + 1)) = 91 := fun hh => e (hi.mp ⟨e7, hh⟩)
        simp only [u_M_readF_78, u_M_readF_79, u_M_readF_82, u_M_readF_84, u_M_readF_87, u_M_readF_88, u_M_readF_91, u_M_readF_93, ne_eq, not_false_eq_true, not_true_eq_false, true_and, and_true, true_or, or_true, eq_self, Option.toList_some, Option.toList_none, List.cons_append, List.nil_append, tc_0, tc_I, tc_L, tc_A, Nat.reduceAdd, Nat.reduceLeDiff, Nat.reduceEqDiff, Int.reduceEq, Int.reduceLT, Int.reduceLE, Int.reduceNeg, Int.reduceToNat, Int.cast_ofNat_Int, if_true, if_false, and_self, or_self, ite_self, bI_0, bI_1, bI_01, Bool.false_eq_true, reduceCtorEq, h1_156, gt_156_6, gt_156_7, hl3.2.1, hl3.2.2.1, e7, e2]
        exact hfail
      · simp only [u_M_readF_78, u_M_readF_79, u_M_readF_82, u_M_readF_84, u_M_readF_87, u_M_readF_88, u_M_readF_91, u_M_readF_93, ne_eq, not_false_eq_true, not_true_eq_false, true_and, and_true, true_or, or_true, eq_self, Option.toList_some, Option.toList_none, List.cons_append, List.nil_append, tc_0, tc_I, tc_L, tc_A, Nat.reduceAdd, Nat.reduceLeDiff, Nat.reduceEqDiff, Int.reduceEq, Int.reduceLT, Int.reduceLE, Int.reduceNeg, Int.reduceToNat, Int.cast_ofNat_Int, if_true, if_false, and_self, or_self, ite_self, bI_0, bI_1, bI_01, Bool.false_eq_true, reduceCtorEq, h1_156, gt_156_6, gt_156_7, hl3.2.1, hl3.2.2.1, e7]
        exact hfail
  have h45go : ∀ (d : Nat) (op : Int) (g : Mem) (k : Int) (N R : Nat) (Q : Option TV → Wd → Prop), ME y n len g0 k op N R g → (Tk y len k = 45 → ∀ g', ME y n len g0 k op N R g' → LKs y len k g' → VV L (d + 10) m_M_readF 203 [some (tA 156), none] [] (WW f t g') Q) → (Tk y len k = 40 → ∀ g', ME y n len g0 k op N R g' → LKs y len k g' → VV L (d + 10) m_M_readF 267 [some (tA 156), none] [] (WW f t g') Q) → Tk y len k = 45 ∨ Tk y len k = 40 → VV L (d + 10) m_M_readF 0 [some (tA 156), none] [] (WW f t g) Q := by
    intro d op g k N R Q h hA hB hor
    simp only [u_M_readF_0, u_M_readF_1, ne_eq, not_false_eq_true, not_true_eq_false, true_and, and_true, true_or, or_true, eq_self, Option.toList_some, Option.toList_none, List.cons_append, List.nil_append, tc_0, tc_I, tc_L, tc_A, Nat.reduceAdd, Nat.reduceLeDiff, Nat.reduceEqDiff, Int.reduceEq, Int.reduceLT, Int.reduceLE, Int.reduceNeg, Int.reduceToNat, Int.cast_ofNat_Int, if_true, if_false, and_self, or_self, ite_self, bI_0, bI_1, bI_01, Bool.false_eq_true, reduceCtorEq, h1_156]
    refine m_look hL h (fun g1 h1 hl => ?_)
    rcases hor with e | e
    · have s7 : srt 45 = 7 := rfl
      have w7 : whc 45 = 45 := rfl
      simp only [u_M_readF_4, u_M_readF_5, u_M_readF_8, u_M_readF_9, u_M_readF_12, u_M_readF_13, u_M_readF_16, u_M_readF_17, u_M_readF_18, u_M_readF_19, u_M_readF_22, u_M_readF_23, u_M_readF_26, u_M_readF_27, u_M_readF_28, u_M_readF_31, u_M_readF_32, u_M_readF_33, u_M_readF_36, u_M_readF_37, u_M_readF_38, u_M_readF_41, u_M_readF_42, u_M_readF_45, u_M_readF_46, u_M_readF_47, u_M_readF_48, u_M_readF_51, u_M_readF_52, u_M_readF_55, u_M_readF_56, u_M_readF_57, u_M_readF_60, u_M_readF_61, u_M_readF_62, u_M_readF_65, u_M_readF_66, u_M_readF_67, u_M_readF_70, u_M_readF_71, u_M_readF_74, u_M_readF_75, u_M_readF_78, u_M_readF_79, u_M_readF_82, u_M_readF_84, u_M_readF_87, u_M_readF_88, u_M_readF_91, u_M_readF_93, u_M_readF_96, u_M_readF_97, u_M_readF_98, u_M_readF_99, u_M_readF_102, u_M_readF_105, u_M_readF_106, u_M_readF_107, u_M_readF_110, u_M_readF_113, u_M_readF_114, u_M_readF_117, u_M_readF_120, u_M_readF_121, u_M_readF_124, u_M_readF_125, u_M_readF_126, u_M_readF_127, u_M_readF_130, u_M_readF_132, u_M_readF_135, u_M_readF_136, u_M_readF_139, u_M_readF_141, u_M_readF_144, u_M_readF_145, u_M_readF_148, u_M_readF_149, u_M_readF_152, u_M_readF_153, u_M_readF_154, u_M_readF_157, u_M_readF_158, u_M_readF_161, u_M_readF_162, u_M_readF_165, u_M_readF_166, u_M_readF_167, u_M_readF_170, u_M_readF_171, u_M_readF_174, u_M_readF_175, u_M_readF_176, u_M_readF_179, u_M_readF_180, u_M_readF_181, u_M_readF_184, u_M_readF_185, u_M_readF_186, u_M_readF_189, u_M_readF_191, u_M_readF_194, u_M_readF_195, u_M_readF_198, u_M_readF_200, ne_eq, not_false_eq_true, not_true_eq_false, true_and, and_true, true_or, or_true, eq_self, Option.toList_some, Option.toList_none, List.cons_append, List.nil_append, tc_0, tc_I, tc_L, tc_A, Nat.reduceAdd, Nat.reduceLeDiff, Nat.reduceEqDiff, Int.reduceEq, Int.reduceLT, Int.reduceLE, Int.reduceNeg, Int.reduceToNat, Int.cast_ofNat_Int, if_true, if_false, and_self, or_self, ite_self, bI_0, bI_1, bI_01, Bool.false_eq_true, reduceCtorEq, h1_156, gt_156_6, gt_156_7, hl.2.1, hl.2.2.1, e, s7, w7]
      exact hA e g1 h1 hl
    · have s7 : srt 40 = 7 := rfl
      have w7 : whc 40 = 40 := rfl
      simp only [u_M_readF_4, u_M_readF_5, u_M_readF_8, u_M_readF_9, u_M_readF_12, u_M_readF_13, u_M_readF_16, u_M_readF_17, u_M_readF_18, u_M_readF_19, u_M_readF_22, u_M_readF_23, u_M_readF_26, u_M_readF_27, u_M_readF_28, u_M_readF_31, u_M_readF_32, u_M_readF_33, u_M_readF_36, u_M_readF_37, u_M_readF_38, u_M_readF_41, u_M_readF_42, u_M_readF_45, u_M_readF_46, u_M_readF_47, u_M_readF_48, u_M_readF_51, u_M_readF_52, u_M_readF_55, u_M_readF_56, u_M_readF_57, u_M_readF_60, u_M_readF_61, u_M_readF_62, u_M_readF_65, u_M_readF_66, u_M_readF_67, u_M_readF_70, u_M_readF_71, u_M_readF_74, u_M_readF_75, u_M_readF_78, u_M_readF_79, u_M_readF_82, u_M_readF_84, u_M_readF_87, u_M_readF_88, u_M_readF_91, u_M_readF_93, u_M_readF_96, u_M_readF_97, u_M_readF_98, u_M_readF_99, u_M_readF_102, u_M_readF_105, u_M_readF_106, u_M_readF_107, u_M_readF_110, u_M_readF_113, u_M_readF_114, u_M_readF_117, u_M_readF_120, u_M_readF_121, u_M_readF_124, u_M_readF_125, u_M_readF_126, u_M_readF_127, u_M_readF_130, u_M_readF_132, u_M_readF_135, u_M_readF_136, u_M_readF_139, u_M_readF_141, u_M_readF_144, u_M_readF_145, u_M_readF_148, u_M_readF_149, u_M_readF_152, u_M_readF_153, u_M_readF_154, u_M_readF_157, u_M_readF_158, u_M_readF_161, u_M_readF_162, u_M_readF_165, u_M_readF_166, u_M_readF_167, u_M_readF_170, u_M_readF_171, u_M_readF_174, u_M_readF_175, u_M_readF_176, u_M_readF_179, u_M_readF_180, u_M_readF_181, u_M_readF_184, u_M_readF_185, u_M_readF_186, u_M_readF_189, u_M_readF_191, u_M_readF_194, u_M_readF_195, u_M_readF_198, u_M_readF_200, u_M_readF_239, u_M_readF_240, u_M_readF_243, u_M_readF_245, u_M_readF_248, u_M_readF_249, u_M_readF_252, u_M_readF_254, ne_eq, not_false_eq_true, not_true_eq_false, true_and, and_true, true_or, or_true, eq_self, Option.toList_some, Option.toList_none, List.cons_append, List.nil_append, tc_0, tc_I, tc_L, tc_A, Nat.reduceAdd, Nat.reduceLeDiff, Nat.reduceEqDiff, Int.reduceEq, Int.reduceLT, Int.reduceLE, Int.reduceNeg, Int.reduceToNat, Int.cast_ofNat_Int, if_true, if_false, and_self, or_self, ite_self, bI_0, bI_1, bI_01, Bool.false_eq_true, reduceCtorEq, h1_156, gt_156_6, gt_156_7, hl.2.1, hl.2.2.1, e, s7, w7]
      exact hB e g1 h1 hl
  induction b with
  | zero =>
    intro hb D hD op hop g k N R Q h hK hR
    obtain ⟨d, rfl⟩ : ∃ d, D = d + 10 := ⟨D - 10, by omega⟩
    have hop8 : op = 8 := by omega
    unfold pF at hR
    by_cases hor : Tk y len k = 45 ∨ Tk y len k = 40
    · rw [if_pos hor] at hR
      refine h45go d op g k N R Q h (fun _ g1 h1 hl => ?_) (fun _ g1 h1 hl => ?_) hor
      · simp only [u_M_readF_203, u_M_readF_204, u_M_readF_207, u_M_readF_210, u_M_readF_211, ne_eq, not_false_eq_true, not_true_eq_false, true_and, and_true, true_or, or_true, eq_self, Option.toList_some, Option.toList_none, List.cons_append, List.nil_append, tc_0, tc_I, tc_L, tc_A, Nat.reduceAdd, Nat.reduceLeDiff, Nat.reduceEqDiff, Int.reduceEq, Int.reduceLT, Int.reduceLE, Int.reduceNeg, Int.reduceToNat, Int.cast_ofNat_Int, if_true, if_false, and_self, or_self, ite_self, bI_0, bI_1, bI_01, Bool.false_eq_true, reduceCtorEq, h1_156]
        refine p_opens h1 hl (by omega) (fun hh => absurd hop8 hh) (fun _ g2 a b c => ?_)
        simp only [u_M_readF_207, u_M_readF_210, u_M_readF_211, ne_eq, not_false_eq_true, not_true_eq_false, true_and, and_true, true_or, or_true, eq_self, Option.toList_some, Option.toList_none, List.cons_append, List.nil_append, tc_0, tc_I, tc_L, tc_A, Nat.reduceAdd, Nat.reduceLeDiff, Nat.reduceEqDiff, Int.reduceEq, Int.reduceLT, Int.reduceLE, Int.reduceNeg, Int.reduceToNat, Int.cast_ofNat_Int, if_true, if_false, and_self, or_self, ite_self, bI_0, bI_1, bI_01, Bool.false_eq_true, reduceCtorEq]
        exact hR g2 a b c
      · simp only [u_M_readF_267, u_M_readF_268, u_M_readF_271, u_M_readF_274, u_M_readF_275, ne_eq, not_false_eq_true, not_true_eq_false, true_and, and_true, true_or, or_true, eq_self, Option.toList_some, Option.toList_none, List.cons_append, List.nil_append, tc_0, tc_I, tc_L, tc_A, Nat.reduceAdd, Nat.reduceLeDiff, Nat.reduceEqDiff, Int.reduceEq, Int.reduceLT, Int.reduceLE, Int.reduceNeg, Int.reduceToNat, Int.cast_ofNat_Int, if_true, if_false, and_self, or_self, ite_self, bI_0, bI_1, bI_01, Bool.false_eq_true, reduceCtorEq, h1_156]
        refine p_opens h1 hl (by omega) (fun hh => absurd hop8 hh) (fun _ g2 a b c => ?_)
        simp only [u_M_readF_271, u_M_readF_274, u_M_readF_275, ne_eq, not_false_eq_true, not_true_eq_false, true_and, and_true, true_or, or_true, eq_self, Option.toList_some, Option.toList_none, List.cons_append, List.nil_append, tc_0, tc_I, tc_L, tc_A, Nat.reduceAdd, Nat.reduceLeDiff, Nat.reduceEqDiff, Int.reduceEq, Int.reduceLT, Int.reduceLE, Int.reduceNeg, Int.reduceToNat, Int.cast_ofNat_Int, if_true, if_false, and_self, or_self, ite_self, bI_0, bI_1, bI_01, Bool.false_eq_true, reduceCtorEq]
        exact hR g2 a b c
    · rw [if_neg hor] at hR
      by_cases hr : kRow (Tk y len k) = true
      · rw [if_pos hr] at hR
        refine hrowgo d op g k N R Q h hr (fun e g' a b c => ?_) (fun e g1 R1 h1 _ hl => ?_)
        · rw [if_neg e] at hR; exact hR g' a b c
        · rw [if_pos e] at hR
          simp only [u_M_readF_106, u_M_readF_107, ne_eq, not_false_eq_true, not_true_eq_false, true_and, and_true, true_or, or_true, eq_self, Option.toList_some, Option.toList_none, List.cons_append, List.nil_append, tc_0, tc_I, tc_L, tc_A, Nat.reduceAdd, Nat.reduceLeDiff, Nat.reduceEqDiff, Int.reduceEq, Int.reduceLT, Int.reduceLE, Int.reduceNeg, Int.reduceToNat, Int.cast_ofNat_Int, if_true, if_false, and_self, or_self, ite_self, bI_0, bI_1, bI_01, Bool.false_eq_true, reduceCtorEq, h1_156]
          refine p_opens h1 hl (by omega) (fun hh => absurd hop8 hh) (fun _ g2 a b c => ?_)
          simp only [u_M_readF_110, u_M_readF_113, u_M_readF_114, u_M_readF_117, u_M_readF_120, u_M_readF_121, u_M_readF_124, u_M_readF_125, ne_eq, not_false_eq_true, not_true_eq_false, true_and, and_true, true_or, or_true, eq_self, Option.toList_some, Option.toList_none, List.cons_append, List.nil_append, tc_0, tc_I, tc_L, tc_A, Nat.reduceAdd, Nat.reduceLeDiff, Nat.reduceEqDiff, Int.reduceEq, Int.reduceLT, Int.reduceLE, Int.reduceNeg, Int.reduceToNat, Int.cast_ofNat_Int, if_true, if_false, and_self, or_self, ite_self, bI_0, bI_1, bI_01, Bool.false_eq_true, reduceCtorEq]
          exact hR g2 a b c
      · rw [if_neg hr] at hR
        exact hleaf d op g k N R Q h (fun e => hor (Or.inl e)) (fun e => hor (Or.inr e)) hr hR
  | succ b ih =>
    intro hb D hD op hop g k N R Q h hK hR
    obtain ⟨d, rfl⟩ : ∃ d, D = d + 10 := ⟨D - 10, by omega⟩
    have hE : ∀ (e : Nat), d + 3 ≤ e → ∀ (g : Mem) (k : Int) (N R : Nat) (Q : Option TV → Wd → Prop), ME y n len g0 k (op + 1) N R g → ¬ kEnd (Tk y len (k - 1)) = true → RM y n len g0 f t (op + 1) Q k N R (pE (Tk y len) (pF (Tk y len) b) k) → VV L (e + 5) m_M_readE 0 [some (tA 156), none] [] (WW f t g) Q := by
      intro e he g k N R Q h hK hR
      obtain ⟨e', rfl⟩ : ∃ e', e = e' + 1 := ⟨e - 1, by omega⟩
      exact p_M_readE (d := e' + 1) hL hn6 (fun g k N R Q h hK hR => p_M_readT (d := e') hL hn6 (fun g k N R Q h hK hR => ih (by omega) (e' + 4) (by omega) (op + 1) (by omega) g k N R Q h hK hR) h hK hR) h hK hR
    have wop : w32 (op + 1 - 1) = op := by rw [w32_id (by omega) (by omega)]; omega
    unfold pF at hR
    by_cases h45 : Tk y len k = 45
    · rw [if_pos h45] at hR
      refine h45go d op g k N R Q h (fun _ g1 h1 hl => ?_) (fun e => by omega) (Or.inl h45)
      simp only [u_M_readF_203, u_M_readF_204, ne_eq, not_false_eq_true, not_true_eq_false, true_and, and_true, true_or, or_true, eq_self, Option.toList_some, Option.toList_none, List.cons_append, List.nil_append, tc_0, tc_I, tc_L, tc_A, Nat.reduceAdd, Nat.reduceLeDiff, Nat.reduceEqDiff, Int.reduceEq, Int.reduceLT, Int.reduceLE, Int.reduceNeg, Int.reduceToNat, Int.cast_ofNat_Int, if_true, if_false, and_self, or_self, ite_self, bI_0, bI_1, bI_01, Bool.false_eq_true, reduceCtorEq, h1_156]
      refine p_opens h1 hl (by omega) (fun _ => ?_) (fun hh => by omega)
      simp only [u_M_readF_207, u_M_readF_210, u_M_readF_211, u_M_readF_212, u_M_readF_213, u_M_readF_215, u_M_readF_218, u_M_readF_219, ne_eq, not_false_eq_true, not_true_eq_false, true_and, and_true, true_or, or_true, eq_self, Option.toList_some, Option.toList_none, List.cons_append, List.nil_append, tc_0, tc_I, tc_L, tc_A, Nat.reduceAdd, Nat.reduceLeDiff, Nat.reduceEqDiff, Int.reduceEq, Int.reduceLT, Int.reduceLE, Int.reduceNeg, Int.reduceToNat, Int.cast_ofNat_Int, if_true, if_false, and_self, or_self, ite_self, bI_0, bI_1, bI_01, Bool.false_eq_true, reduceCtorEq, h1_156, pt_156_6]
      have hlt := Tk_lt (show ¬ Tk y len k = 0 by omega)
      refine m_take0 hL hn6 (ME_so (ME_op h1)) hlt ?_ ?_ ?_ (fun g2 h2 => ?_)
      · unfold eS; rw [if_pos ⟨h45, hK⟩]; rfl
      · exact hl.2.2.1
      · exact hl.2.2.2 hlt
      simp only [u_M_readF_222, u_M_readF_223, ne_eq, not_false_eq_true, not_true_eq_false, true_and, and_true, true_or, or_true, eq_self, Option.toList_some, Option.toList_none, List.cons_append, List.nil_append, tc_0, tc_I, tc_L, tc_A, Nat.reduceAdd, Nat.reduceLeDiff, Nat.reduceEqDiff, Int.reduceEq, Int.reduceLT, Int.reduceLE, Int.reduceNeg, Int.reduceToNat, Int.cast_ofNat_Int, if_true, if_false, and_self, or_self, ite_self, bI_0, bI_1, bI_01, Bool.false_eq_true, reduceCtorEq, h1_156]
      refine ih (by omega) (d + 9) (by omega) (op + 1) (by omega) g2 (k + 1) N R _ h2 ?_ ?_
      · rw [show k + 1 - 1 = k by omega, h45]; decide
      · cases hp : pF (Tk y len) b (k + 1) with
        | error e =>
          obtain ⟨w, i, z⟩ := e
          rw [hp] at hR
          intro g3 a3 b3 c3
          simp only [u_M_readF_226, u_M_readF_227, u_M_readF_228, u_M_readF_229, u_M_readF_232, u_M_readF_233, u_M_readF_234, u_M_readF_237, u_M_readF_238, ne_eq, not_false_eq_true, not_true_eq_false, true_and, and_true, true_or, or_true, eq_self, Option.toList_some, Option.toList_none, List.cons_append, List.nil_append, tc_0, tc_I, tc_L, tc_A, Nat.reduceAdd, Nat.reduceLeDiff, Nat.reduceEqDiff, Int.reduceEq, Int.reduceLT, Int.reduceLE, Int.reduceNeg, Int.reduceToNat, Int.cast_ofNat_Int, if_true, if_false, and_self, or_self, ite_self, bI_0, bI_1, bI_01, Bool.false_eq_true, reduceCtorEq, h1_156, gt_156_16, pt_156_16]
          exact hR _ (FE_op a3) b3 c3
        | ok z =>
          obtain ⟨x, j⟩ := z
          rw [hp] at hR
          intro g3 N3 R3 h3 hN3 hK3 hlt3
          simp only [u_M_readF_226, u_M_readF_227, u_M_readF_228, u_M_readF_229, u_M_readF_232, u_M_readF_233, u_M_readF_234, u_M_readF_237, u_M_readF_238, ne_eq, not_false_eq_true, not_true_eq_false, true_and, and_true, true_or, or_true, eq_self, Option.toList_some, Option.toList_none, List.cons_append, List.nil_append, tc_0, tc_I, tc_L, tc_A, Nat.reduceAdd, Nat.reduceLeDiff, Nat.reduceEqDiff, Int.reduceEq, Int.reduceLT, Int.reduceLE, Int.reduceNeg, Int.reduceToNat, Int.cast_ofNat_Int, if_true, if_false, and_self, or_self, ite_self, bI_0, bI_1, bI_01, Bool.false_eq_true, reduceCtorEq, h1_156, gt_156_16, pt_156_16, ME_op1 h3, wop]
          exact hR _ N3 R3 (ME_op h3) (NRl_skip hN3 (by omega) (by omega)) hK3 (by omega)
    · rw [if_neg h45] at hR
      by_cases h40 : Tk y len k = 40
      · rw [if_pos h40] at hR
        refine h45go d op g k N R Q h (fun e => by omega) (fun _ g1 h1 hl => ?_) (Or.inr h40)
        simp only [u_M_readF_267, u_M_readF_268, ne_eq, not_false_eq_true, not_true_eq_false, true_and, and_true, true_or, or_true, eq_self, Option.toList_some, Option.toList_none, List.cons_append, List.nil_append, tc_0, tc_I, tc_L, tc_A, Nat.reduceAdd, Nat.reduceLeDiff, Nat.reduceEqDiff, Int.reduceEq, Int.reduceLT, Int.reduceLE, Int.reduceNeg, Int.reduceToNat, Int.cast_ofNat_Int, if_true, if_false, and_self, or_self, ite_self, bI_0, bI_1, bI_01, Bool.false_eq_true, reduceCtorEq, h1_156]
        refine p_opens h1 hl (by omega) (fun _ => ?_) (fun hh => by omega)
        simp only [u_M_readF_271, u_M_readF_274, u_M_readF_275, u_M_readF_276, u_M_readF_277, ne_eq, not_false_eq_true, not_true_eq_false, true_and, and_true, true_or, or_true, eq_self, Option.toList_some, Option.toList_none, List.cons_append, List.nil_append, tc_0, tc_I, tc_L, tc_A, Nat.reduceAdd, Nat.reduceLeDiff, Nat.reduceEqDiff, Int.reduceEq, Int.reduceLT, Int.reduceLE, Int.reduceNeg, Int.reduceToNat, Int.cast_ofNat_Int, if_true, if_false, and_self, or_self, ite_self, bI_0, bI_1, bI_01, Bool.false_eq_true, reduceCtorEq, h1_156]
        refine p_take hL hn6 (ME_op h1) (LKs_m hl (by omega)) (by omega) h45 (fun g2 h2 => ?_)
        simp only [u_M_readF_280, u_M_readF_281, ne_eq, not_false_eq_true, not_true_eq_false, true_and, and_true, true_or, or_true, eq_self, Option.toList_some, Option.toList_none, List.cons_append, List.nil_append, tc_0, tc_I, tc_L, tc_A, Nat.reduceAdd, Nat.reduceLeDiff, Nat.reduceEqDiff, Int.reduceEq, Int.reduceLT, Int.reduceLE, Int.reduceNeg, Int.reduceToNat, Int.cast_ofNat_Int, if_true, if_false, and_self, or_self, ite_self, bI_0, bI_1, bI_01, Bool.false_eq_true, reduceCtorEq, h1_156]
        refine hE (d + 4) (by omega) g2 (k + 1) N R _ h2 (by rw [show k + 1 - 1 = k by omega, h40]; decide) ?_
        -- behind the E's: the ) and the answer
        have hend : ∀ (g3 : Mem) (j : Int) (N3 R3 : Nat), ME y n len g0 j (op + 1) N3 R3 g3 → (Tk y len j = 41 → ∀ g', ME y n len g0 (j + 1) op N3 R3 g' → Q (some (tI 1)) (WW f t g')) → (¬ Tk y len j = 41 → ∀ g', FE g0 g' → g' 156 12 = 1 → g' 156 13 = sk y (eN y j.toNat) → Q (some (tI 0)) (WW f t g')) → VV L (d + 10) m_M_readF 324 [some (tA 156), none] [] (WW f t g3) Q := by
          intro g3 j N3 R3 h3 hY hN
          simp only [u_M_readF_324, u_M_readF_325, u_M_readF_326, u_M_readF_329, u_M_readF_330, u_M_readF_331, u_M_readF_334, u_M_readF_335, u_M_readF_337, u_M_readF_339, ne_eq, not_false_eq_true, not_true_eq_false, true_and, and_true, true_or, or_true, eq_self, Option.toList_some, Option.toList_none, List.cons_append, List.nil_append, tc_0, tc_I, tc_L, tc_A, Nat.reduceAdd, Nat.reduceLeDiff, Nat.reduceEqDiff, Int.reduceEq, Int.reduceLT, Int.reduceLE, Int.reduceNeg, Int.reduceToNat, Int.cast_ofNat_Int, if_true, if_false, and_self, or_self, ite_self, bI_0, bI_1, bI_01, Bool.false_eq_true, reduceCtorEq, h1_156, gt_156_16, pt_156_16, ME_op1 h3, wop]
          refine p_wants hL hn6 (ME_op h3) (by decide) (by decide) (fun e g4 h4 => ?_) (fun e g4 a b c => ?_)
          · simp only [u_M_readF_342, ne_eq, not_false_eq_true, not_true_eq_false, true_and, and_true, true_or, or_true, eq_self, Option.toList_some, Option.toList_none, List.cons_append, List.nil_append, tc_0, tc_I, tc_L, tc_A, Nat.reduceAdd, Nat.reduceLeDiff, Nat.reduceEqDiff, Int.reduceEq, Int.reduceLT, Int.reduceLE, Int.reduceNeg, Int.reduceToNat, Int.cast_ofNat_Int, if_true, if_false, and_self, or_self, ite_self, bI_0, bI_1, bI_01, Bool.false_eq_true, reduceCtorEq]; exact hY e g4 h4
          · simp only [u_M_readF_342, ne_eq, not_false_eq_true, not_true_eq_false, true_and, and_true, true_or, or_true, eq_self, Option.toList_some, Option.toList_none, List.cons_append, List.nil_append, tc_0, tc_I, tc_L, tc_A, Nat.reduceAdd, Nat.reduceLeDiff, Nat.reduceEqDiff, Int.reduceEq, Int.reduceLT, Int.reduceLE, Int.reduceNeg, Int.reduceToNat, Int.cast_ofNat_Int, if_true, if_false, and_self, or_self, ite_self, bI_0, bI_1, bI_01, Bool.false_eq_true, reduceCtorEq]; exact hN e g4 a b c
        cases hp : pE (Tk y len) (pF (Tk y len) b) (k + 1) with
        | error e =>
          obtain ⟨w, i, z⟩ := e
          rw [hp] at hR
          intro g3 a3 b3 c3
          simp only [u_M_readF_284, u_M_readF_287, u_M_readF_288, ne_eq, not_false_eq_true, not_true_eq_false, true_and, and_true, true_or, or_true, eq_self, Option.toList_some, Option.toList_none, List.cons_append, List.nil_append, tc_0, tc_I, tc_L, tc_A, Nat.reduceAdd, Nat.reduceLeDiff, Nat.reduceEqDiff, Int.reduceEq, Int.reduceLT, Int.reduceLE, Int.reduceNeg, Int.reduceToNat, Int.cast_ofNat_Int, if_true, if_false, and_self, or_self, ite_self, bI_0, bI_1, bI_01, Bool.false_eq_true, reduceCtorEq]
          exact hR g3 a3 b3 c3
        | ok z =>
          obtain ⟨x, j⟩ := z
          rw [hp] at hR
          dsimp only at hR
          intro g3 N3 R3 h3 hN3 hK3 hlt3
          have hN3' := NRl_skip hN3 (by omega) (show Tk y len k < 65 ∨ 122 < Tk y len k ∨ (70 < Tk y len k ∧ Tk y len k < 97) by omega)
          -- behind a < or =
          have hcmp : Tk y len j = 60 ∨ Tk y len j = 61 → ∀ g4, ME y n len g0 j (op + 1) N3 R3 g4 → LKs y len j g4 → VV L (d + 10) m_M_readF 311 [some (tA 156), none] [] (WW f t g4) Q := by
            intro hor g4 h4 hl4
            rw [if_pos hor] at hR
            simp only [u_M_readF_311, u_M_readF_312, ne_eq, not_false_eq_true, not_true_eq_false, true_and, and_true, true_or, or_true, eq_self, Option.toList_some, Option.toList_none, List.cons_append, List.nil_append, tc_0, tc_I, tc_L, tc_A, Nat.reduceAdd, Nat.reduceLeDiff, Nat.reduceEqDiff, Int.reduceEq, Int.reduceLT, Int.reduceLE, Int.reduceNeg, Int.reduceToNat, Int.cast_ofNat_Int, if_true, if_false, and_self, or_self, ite_self, bI_0, bI_1, bI_01, Bool.false_eq_true, reduceCtorEq, h1_156]
            refine p_take hL hn6 h4 hl4 (by omega) (by omega) (fun g5 h5 => ?_)
            simp only [u_M_readF_315, u_M_readF_316, ne_eq, not_false_eq_true, not_true_eq_false, true_and, and_true, true_or, or_true, eq_self, Option.toList_some, Option.toList_none, List.cons_append, List.nil_append, tc_0, tc_I, tc_L, tc_A, Nat.reduceAdd, Nat.reduceLeDiff, Nat.reduceEqDiff, Int.reduceEq, Int.reduceLT, Int.reduceLE, Int.reduceNeg, Int.reduceToNat, Int.cast_ofNat_Int, if_true, if_false, and_self, or_self, ite_self, bI_0, bI_1, bI_01, Bool.false_eq_true, reduceCtorEq, h1_156]
            refine hE (d + 4) (by omega) g5 (j + 1) N3 R3 _ h5 (by rw [show j + 1 - 1 = j by omega]; rcases hor with e | e <;> rw [e] <;> decide) ?_
            cases hp2 : pE (Tk y len) (pF (Tk y len) b) (j + 1) with
            | error e =>
              obtain ⟨w, i, z⟩ := e
              rw [hp2] at hR
              intro g6 a6 b6 c6
              simp only [u_M_readF_319, u_M_readF_322, u_M_readF_323, ne_eq, not_false_eq_true, not_true_eq_false, true_and, and_true, true_or, or_true, eq_self, Option.toList_some, Option.toList_none, List.cons_append, List.nil_append, tc_0, tc_I, tc_L, tc_A, Nat.reduceAdd, Nat.reduceLeDiff, Nat.reduceEqDiff, Int.reduceEq, Int.reduceLT, Int.reduceLE, Int.reduceNeg, Int.reduceToNat, Int.cast_ofNat_Int, if_true, if_false, and_self, or_self, ite_self, bI_0, bI_1, bI_01, Bool.false_eq_true, reduceCtorEq]
              exact hR g6 a6 b6 c6
            | ok z =>
              obtain ⟨x2, l⟩ := z
              rw [hp2] at hR
              dsimp only at hR
              intro g6 N6 R6 h6 hN6 hK6 hlt6
              simp only [u_M_readF_319, u_M_readF_322, u_M_readF_323, ne_eq, not_false_eq_true, not_true_eq_false, true_and, and_true, true_or, or_true, eq_self, Option.toList_some, Option.toList_none, List.cons_append, List.nil_append, tc_0, tc_I, tc_L, tc_A, Nat.reduceAdd, Nat.reduceLeDiff, Nat.reduceEqDiff, Int.reduceEq, Int.reduceLT, Int.reduceLE, Int.reduceNeg, Int.reduceToNat, Int.cast_ofNat_Int, if_true, if_false, and_self, or_self, ite_self, bI_0, bI_1, bI_01, Bool.false_eq_true, reduceCtorEq]
              have hN6' := NRl_trans hN3' (NRl_skip hN6 (by omega) (show Tk y len j < 65 ∨ 122 < Tk y len j ∨ (70 < Tk y len j ∧ Tk y len j < 97) by omega)) (by omega) (by omega)
              refine hend g6 l N6 R6 h6 (fun e g7 h7 => ?_) (fun e g7 a b c => ?_)
              · rw [if_pos e] at hR
                exact hR g7 N6 R6 h7 (NRl_trans hN6' (NRl_one (by omega)) (by omega) (by omega)) (by rw [show l + 1 - 1 = l by omega, e]; decide) (by omega)
              · rw [if_neg e] at hR
                exact hR g7 a b c
          simp only [u_M_readF_284, u_M_readF_287, u_M_readF_288, u_M_readF_289, u_M_readF_290, u_M_readF_292, u_M_readF_294, ne_eq, not_false_eq_true, not_true_eq_false, true_and, and_true, true_or, or_true, eq_self, Option.toList_some, Option.toList_none, List.cons_append, List.nil_append, tc_0, tc_I, tc_L, tc_A, Nat.reduceAdd, Nat.reduceLeDiff, Nat.reduceEqDiff, Int.reduceEq, Int.reduceLT, Int.reduceLE, Int.reduceNeg, Int.reduceToNat, Int.cast_ofNat_Int, if_true, if_false, and_self, or_self, ite_self, bI_0, bI_1, bI_01, Bool.false_eq_true, reduceCtorEq, h1_156]
          refine m_is (c := 60) hL h3 (by decide) (fun g4 h4 hl4 => ?_)
          by_cases e60 : Tk y len j = 60
          · simp only [e60, decide_true, bB_t, u_M_readF_297, u_M_readF_300, u_M_readF_301, u_M_readF_303, u_M_readF_305, u_M_readF_308, ne_eq, not_false_eq_true, not_true_eq_false, true_and, and_true, true_or, or_true, eq_self, Option.toList_some, Option.toList_none, List.cons_append, List.nil_append, tc_0, tc_I, tc_L, tc_A, Nat.reduceAdd, Nat.reduceLeDiff, Nat.reduceEqDiff, Int.reduceEq, Int.reduceLT, Int.reduceLE, Int.reduceNeg, Int.reduceToNat, Int.cast_ofNat_Int, if_true, if_false, and_self, or_self, ite_self, bI_0, bI_1, bI_01, Bool.false_eq_true, reduceCtorEq]
            exact hcmp (Or.inl e60) g4 h4 hl4
          · simp only [e60, decide_false, bB_f, u_M_readF_297, u_M_readF_300, u_M_readF_301, u_M_readF_303, u_M_readF_305, ne_eq, not_false_eq_true, not_true_eq_false, true_and, and_true, true_or, or_true, eq_self, Option.toList_some, Option.toList_none, List.cons_append, List.nil_append, tc_0, tc_I, tc_L, tc_A, Nat.reduceAdd, Nat.reduceLeDiff, Nat.reduceEqDiff, Int.reduceEq, Int.reduceLT, Int.reduceLE, Int.reduceNeg, Int.reduceToNat, Int.cast_ofNat_Int, if_true, if_false, and_self, or_self, ite_self, bI_0, bI_1, bI_01, Bool.false_eq_true, reduceCtorEq, h1_156]
            refine m_is (c := 61) hL h4 (by decide) (fun g5 h5 hl5 => ?_)
            by_cases e61 : Tk y len j = 61
            · simp only [e61, decide_true, bB_t, u_M_readF_308, ne_eq, not_false_eq_true, not_true_eq_false, true_and, and_true, true_or, or_true, eq_self, Option.toList_some, Option.toList_none, List.cons_append, List.nil_append, tc_0, tc_I, tc_L, tc_A, Nat.reduceAdd, Nat.reduceLeDiff, Nat.reduceEqDiff, Int.reduceEq, Int.reduceLT, Int.reduceLE, Int.reduceNeg, Int.reduceToNat, Int.cast_ofNat_Int, if_true, if_false, and_self, or_self, ite_self, bI_0, bI_1, bI_01, Bool.false_eq_true, reduceCtorEq]
              exact hcmp (Or.inr e61) g5 h5 hl5
            · simp only [e61, decide_false, bB_f, u_M_readF_308, ne_eq, not_false_eq_true, not_true_eq_false, true_and, and_true, true_or, or_true, eq_self, Option.toList_some, Option.toList_none, List.cons_append, List.nil_append, tc_0, tc_I, tc_L, tc_A, Nat.reduceAdd, Nat.reduceLeDiff, Nat.reduceEqDiff, Int.reduceEq, Int.reduceLT, Int.reduceLE, Int.reduceNeg, Int.reduceToNat, Int.cast_ofNat_Int, if_true, if_false, and_self, or_self, ite_self, bI_0, bI_1, bI_01, Bool.false_eq_true, reduceCtorEq]
              rw [if_neg (by omega)] at hR
              refine hend g5 j N3 R3 h5 (fun e g7 h7 => ?_) (fun e g7 a b c => ?_)
              · rw [if_pos e] at hR
                exact hR g7 N3 R3 h7 (NRl_trans hN3' (NRl_one (by omega)) (by omega) (by omega)) (by rw [show j + 1 - 1 = j by omega, e]; decide) (by omega)
              · rw [if_neg e] at hR
                exact hR g7 a b c
      · rw [if_neg h40] at hR
        by_cases hr : kRow (Tk y len k) = true
        · rw [if_pos hr] at hR
          refine hrowgo d op g k N R Q h hr (fun e g' a b c => ?_) (fun e g1 R1 h1 hN1 hl => ?_)
          · rw [if_neg e] at hR; exact hR g' a b c
          · rw [if_pos e] at hR
            simp only [u_M_readF_106, u_M_readF_107, ne_eq, not_false_eq_true, not_true_eq_false, true_and, and_true, true_or, or_true, eq_self, Option.toList_some, Option.toList_none, List.cons_append, List.nil_append, tc_0, tc_I, tc_L, tc_A, Nat.reduceAdd, Nat.reduceLeDiff, Nat.reduceEqDiff, Int.reduceEq, Int.reduceLT, Int.reduceLE, Int.reduceNeg, Int.reduceToNat, Int.cast_ofNat_Int, if_true, if_false, and_self, or_self, ite_self, bI_0, bI_1, bI_01, Bool.false_eq_true, reduceCtorEq, h1_156]
            refine p_opens h1 hl (by omega) (fun _ => ?_) (fun hh => by omega)
            simp only [u_M_readF_110, u_M_readF_113, u_M_readF_114, ne_eq, not_false_eq_true, not_true_eq_false, true_and, and_true, true_or, or_true, eq_self, Option.toList_some, Option.toList_none, List.cons_append, List.nil_append, tc_0, tc_I, tc_L, tc_A, Nat.reduceAdd, Nat.reduceLeDiff, Nat.reduceEqDiff, Int.reduceEq, Int.reduceLT, Int.reduceLE, Int.reduceNeg, Int.reduceToNat, Int.cast_ofNat_Int, if_true, if_false, and_self, or_self, ite_self, bI_0, bI_1, bI_01, Bool.false_eq_true, reduceCtorEq, h1_156]
            simp only [u_M_inBrackets_0, u_M_inBrackets_1, ne_eq, not_false_eq_true, not_true_eq_false, true_and, and_true, true_or, or_true, eq_self, Option.toList_some, Option.toList_none, List.cons_append, List.nil_append, tc_0, tc_I, tc_L, tc_A, Nat.reduceAdd, Nat.reduceLeDiff, Nat.reduceEqDiff, Int.reduceEq, Int.reduceLT, Int.reduceLE, Int.reduceNeg, Int.reduceToNat, Int.cast_ofNat_Int, if_true, if_false, and_self, or_self, ite_self, bI_0, bI_1, bI_01, Bool.false_eq_true, reduceCtorEq, h1_156]
            refine p_take hL hn6 (ME_op h1) (LKs_m hl (by omega)) (by omega) (by omega) (fun g2 h2 => ?_)
            rw [show k + 1 + 1 = k + 2 by omega] at h2
            simp only [u_M_inBrackets_4, u_M_inBrackets_5, ne_eq, not_false_eq_true, not_true_eq_false, true_and, and_true, true_or, or_true, eq_self, Option.toList_some, Option.toList_none, List.cons_append, List.nil_append, tc_0, tc_I, tc_L, tc_A, Nat.reduceAdd, Nat.reduceLeDiff, Nat.reduceEqDiff, Int.reduceEq, Int.reduceLT, Int.reduceLE, Int.reduceNeg, Int.reduceToNat, Int.cast_ofNat_Int, if_true, if_false, and_self, or_self, ite_self, bI_0, bI_1, bI_01, Bool.false_eq_true, reduceCtorEq, h1_156]
            refine hE (d + 3) (by omega) g2 (k + 2) N R1 _ h2 (by rw [show k + 2 - 1 = k + 1 by omega, e]; decide) ?_
            cases hp : pE (Tk y len) (pF (Tk y len) b) (k + 2) with
            | error e =>
              obtain ⟨w, i, z⟩ := e
              rw [hp] at hR
              intro g3 a3 b3 c3
              simp only [u_M_inBrackets_8, u_M_inBrackets_11, u_M_inBrackets_12, u_M_readF_117, u_M_readF_120, u_M_readF_121, u_M_readF_124, u_M_readF_125, ne_eq, not_false_eq_true, not_true_eq_false, true_and, and_true, true_or, or_true, eq_self, Option.toList_some, Option.toList_none, List.cons_append, List.nil_append, tc_0, tc_I, tc_L, tc_A, Nat.reduceAdd, Nat.reduceLeDiff, Nat.reduceEqDiff, Int.reduceEq, Int.reduceLT, Int.reduceLE, Int.reduceNeg, Int.reduceToNat, Int.cast_ofNat_Int, if_true, if_false, and_self, or_self, ite_self, bI_0, bI_1, bI_01, Bool.false_eq_true, reduceCtorEq]
              exact hR g3 a3 b3 c3
            | ok z =>
              obtain ⟨x, j⟩ := z
              rw [hp] at hR
              dsimp only at hR
              intro g3 N3 R3 h3 hN3 hK3 hlt3
              have hq1 : NRl (Tk y len) N N R1 R1 (k + 1) (k + 2) := by
                have := NRl_one (N := N) (R := R1) (T := Tk y len) (k := k + 1) (by omega)
                rw [show k + 1 + 1 = k + 2 by omega] at this; exact this
              have hN3' := NRl_trans hN1 (NRl_trans hq1 hN3 (by omega) (by omega)) (by omega) (by omega)
              simp only [u_M_inBrackets_8, u_M_inBrackets_11, u_M_inBrackets_12, u_M_inBrackets_13, u_M_inBrackets_14, u_M_inBrackets_15, u_M_inBrackets_18, u_M_inBrackets_19, u_M_inBrackets_20, u_M_inBrackets_23, u_M_inBrackets_24, u_M_inBrackets_26, u_M_inBrackets_28, ne_eq, not_false_eq_true, not_true_eq_false, true_and, and_true, true_or, or_true, eq_self, Option.toList_some, Option.toList_none, List.cons_append, List.nil_append, tc_0, tc_I, tc_L, tc_A, Nat.reduceAdd, Nat.reduceLeDiff, Nat.reduceEqDiff, Int.reduceEq, Int.reduceLT, Int.reduceLE, Int.reduceNeg, Int.reduceToNat, Int.cast_ofNat_Int, if_true, if_false, and_self, or_self, ite_self, bI_0, bI_1, bI_01, Bool.false_eq_true, reduceCtorEq, h1_156, gt_156_16, pt_156_16, ME_op1 h3, wop]
              refine p_wants hL hn6 (ME_op h3) (by decide) (by decide) (fun e g4 h4 => ?_) (fun e g4 a b c => ?_)
              · rw [if_pos e] at hR
                simp only [u_M_inBrackets_31, u_M_readF_117, u_M_readF_120, u_M_readF_121, u_M_readF_124, u_M_readF_125, ne_eq, not_false_eq_true, not_true_eq_false, true_and, and_true, true_or, or_true, eq_self, Option.toList_some, Option.toList_none, List.cons_append, List.nil_append, tc_0, tc_I, tc_L, tc_A, Nat.reduceAdd, Nat.reduceLeDiff, Nat.reduceEqDiff, Int.reduceEq, Int.reduceLT, Int.reduceLE, Int.reduceNeg, Int.reduceToNat, Int.cast_ofNat_Int, if_true, if_false, and_self, or_self, ite_self, bI_0, bI_1, bI_01, Bool.false_eq_true, reduceCtorEq]
                exact hR g4 N3 R3 h4 (NRl_trans hN3' (NRl_one (by omega)) (by omega) (by omega)) (by rw [show j + 1 - 1 = j by omega, e]; decide) (by omega)
              · rw [if_neg e] at hR
                simp only [u_M_inBrackets_31, u_M_readF_117, u_M_readF_120, u_M_readF_121, u_M_readF_124, u_M_readF_125, ne_eq, not_false_eq_true, not_true_eq_false, true_and, and_true, true_or, or_true, eq_self, Option.toList_some, Option.toList_none, List.cons_append, List.nil_append, tc_0, tc_I, tc_L, tc_A, Nat.reduceAdd, Nat.reduceLeDiff, Nat.reduceEqDiff, Int.reduceEq, Int.reduceLT, Int.reduceLE, Int.reduceNeg, Int.reduceToNat, Int.cast_ofNat_Int, if_true, if_false, and_self, or_self, ite_self, bI_0, bI_1, bI_01, Bool.false_eq_true, reduceCtorEq]
                exact hR g4 a b c
        · rw [if_neg hr] at hR
          refine hleaf d op g k N R Q h h45 h40 hr ?_
          revert hR
          cases pL (Tk y len) k with
          | error e => obtain ⟨w, i, z⟩ := e; intro hR; exact hR
          | ok z => obtain ⟨x, j⟩ := z; intro hR; exact hR
end
