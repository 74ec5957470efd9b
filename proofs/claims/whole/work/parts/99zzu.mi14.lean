/-! mirror of both -/
theorem B_mirror {k kt : Int} : Both tI m_T_mirror [some (tA 1), some (tI k), some (tI kt)] m_M_mirror [some (tA 156), some (tI k), some (tI kt)] := by
  refine Both_of (fun L d X TH f t g Q hR hQ => ?_)
  by_cases hk : (0 ≤ k ∧ k ≤ 9) ∧ (0 ≤ kt ∧ kt ≤ 9)
  · obtain ⟨hk, hkt⟩ := hk
    have hk' : 0 ≤ k ∧ k < 10 := by omega
    have hkt' : 0 ≤ kt ∧ kt < 10 := by omega
    obtain ⟨r, rfl⟩ : ∃ n : Nat, k = (n : Int) := ⟨k.toNat, by omega⟩
    obtain ⟨q, rfl⟩ : ∃ n : Nat, kt = (n : Int) := ⟨kt.toNat, by omega⟩
    have hr : r < 10 := by omega
    have hq : q < 10 := by omega
    have hT := hR.tx.tc.tt r hr
    have b0 := xT_0 hT
    have hra : (f 3 r).toNat = aT f r := rfl
    have tha := hR.tx.tm.th r hr
    by_cases hv : t (aT f r) 15 = 1 ∧ kOrd (tok t (aT f r) 0) = false
    · obtain ⟨hv1, hv2⟩ := hv
      have hx := hR.tx.tc.ok r hr hv1
      have hy := hR.tx.tm.ok r hr hv1
      have hz := hR.tx.tk r hr hv1
      have ho : (X r).2.1 = false := by rw [← hx.od]; exact hv2
      have hxw := hx.w
      rw [ho] at hxw
      obtain ⟨m1, m2, m3, m4⟩ := mB_w 6 (X r).2.2 hxw
      have ln := hx.ln
      have l1 := hx.l1
      have hn4 := hx.n40
      have hwt := hz.w
      have hsp := hR.tx.sp
      have a0 := xT_0 hsp
      have hne : ¬ aT f r = (f 1 3).toNat := hR.tx.sd r hr
      have h9 : t (aT f r) 9 ≤ 40 := by rw [hx.f9]; omega
      have M1 := fun D Q => s_Sh_mB (c := (X r).1) (L := L) (d := D) (a := (f 1 3).toNat) (b := aT f r) (f := mset (mset f 18 0 (aT f r)) 18 1 (f 1 3).toNat) (t := t) (g := g) hsp hT hne (by rw [rd, if_neg (by omega), rd, if_pos (by simp), Int.toNat_natCast]) (by rw [rd, if_pos (by simp), Int.toNat_natCast]) l1 h9 6 0 (by omega) (X r).2.2 hxw 0 (t (aT f r) 1) 0 (by omega) (by omega) (by rw [hx.f9]; omega) hx.sg hx.tb [] Q (by rw [m2]; simp only [List.length_nil]; omega)
      rw [List.nil_append, Int.zero_add, ← hx.f9] at M1
      have z0 : ((0 : Nat) : Int) = 0 := rfl
      rw [z0] at M1
      have s9 : PSt ((f 1 3).toNat + 1) (f 1 3).toNat 1 t [] (aT f r) 9 = t (aT f r) 9 := PT_far (n := 0) hsp hT hne (by omega)
      have M2 := M1 (d + 184)
      rw [show d + 184 + 2 * 6 + 2 = d + 198 by omega] at M2
      simp only [u_T_mirror_0, u_T_mirror_1, u_T_mirror_4, u_T_mirror_7, u_T_mirror_8, u_T_mirror_11, u_T_mirror_14, u_T_mirror_15, u_T_mirror_16, u_T_mirror_17, u_T_mirror_18, u_T_mirror_21, u_T_mirror_24, u_T_mirror_26, u_T_mirror_27, u_T_mirror_28, u_T_mirror_31, u_T_mirror_32, u_T_mirror_35, u_T_mirror_36, u_T_mirror_37, u_T_mirror_38, u_T_mirror_41, u_Sh_writeMirror_0, u_Sh_writeMirror_1, u_Sh_writeMirror_2, u_Sh_writeMirror_5, u_Sh_writeMirror_6, u_Sh_writeMirror_7, u_Sh_writeMirror_10, u_Sh_writeMirror_11, u_Sh_writeMirror_14, u_Sh_writeMirror_17, u_Sh_writeMirror_18, u_Sh_writeMirror_19, u_Sh_writeMirror_20, u_Sh_writeMirror_23, u_Sh_writeMirror_26, u_Sh_writeMirror_27, h1_1, gt_1_2, gt_1_3, gt_1_6, h1_3, h2_3, gt_3, pt_3, h1_18, gt_18_0, gt_18_1, pt_18_0, pt_18_1, xT_h1, ne_eq, not_false_eq_true, not_true_eq_false, true_and, and_true, true_or, or_true, eq_self, Option.toList_some, Option.toList_none, List.cons_append, List.nil_append, tc_0, tc_I, tc_L, tc_A, Nat.reduceAdd, Nat.reduceLeDiff, Nat.reduceEqDiff, Int.reduceEq, Int.reduceLT, Int.reduceLE, Int.reduceNeg, Int.reduceToNat, Int.cast_ofNat_Int, if_true, if_false, and_self, or_self, ite_self, bI_0, bI_1, bI_01, Bool.false_eq_true, reduceCtorEq, s_T_isRoutine, hk', hkt', hv1, hv2, s_T_isReversible hR.tx.tc hr, and_self, decide_true, bB_t, Int.toNat_natCast, hra, b0, a0, hT, hsp, rd, false_and, s_Tx_clearP hsp, s_Tx_size hT, s9]
      simp only [M2, u_Sh_writeMirror_30, u_T_mirror_44, u_T_mirror_45, u_T_mirror_46, h1_1, ne_eq, not_false_eq_true, not_true_eq_false, true_and, and_true, true_or, or_true, eq_self, Option.toList_some, Option.toList_none, List.cons_append, List.nil_append, tc_0, tc_I, tc_L, tc_A, Nat.reduceAdd, Nat.reduceLeDiff, Nat.reduceEqDiff, Int.reduceEq, Int.reduceLT, Int.reduceLE, Int.reduceNeg, Int.reduceToNat, Int.cast_ofNat_Int, if_true, if_false, and_self, or_self, ite_self, bI_0, bI_1, bI_01, Bool.false_eq_true, reduceCtorEq]
      refine bec_both (d := d + 194) (mB 6 (X r).2.2) hx.c11 m1 (by omega) (by omega) (by omega) hR hq (fun b j hb => by rw [rd, if_neg (by omega), rd, if_neg (by omega)]) (fun v f' t' hM => ?_)
      simp only [u_T_mirror_49, ne_eq, not_false_eq_true, not_true_eq_false, true_and, and_true, true_or, or_true, eq_self, Option.toList_some, Option.toList_none, List.cons_append, List.nil_append, tc_0, tc_I, tc_L, tc_A, Nat.reduceAdd, Nat.reduceLeDiff, Nat.reduceEqDiff, Int.reduceEq, Int.reduceLT, Int.reduceLE, Int.reduceNeg, Int.reduceToNat, Int.cast_ofNat_Int, if_true, if_false, and_self, or_self, ite_self, bI_0, bI_1, bI_01, Bool.false_eq_true, reduceCtorEq]
      refine hQ v f' t' (fun L d Q hq2 => ?_)
      have hrt := hy.rt
      have hsg := hx.sg
      rw [ln] at hsg
      have R1 := fun D Q => s_M_mB (c := (X r).1) (L := L) (d := D) (f := f') (t := t') hrt 6 (X r).2.2 hxw 0 ((kB 6 (X r).2.2).length : Int) [] Q (by omega) (by omega) hsg (by rw [m2]; simp only [List.length_nil]; omega)
      rw [List.nil_append] at R1
      have e161 : g 161 r = 1 := by rw [← tha]; exact hv1
      have e162 : g 162 r = 0 := by rw [hy.od, ho]; rfl
      have e163 : emM g [] 163 r = ((kB 6 (X r).2.2).length : Int) := by rw [emM_o (by omega)]; exact hrt.l
      have R2 := R1 (d + 186)
      rw [show d + 186 + 2 * 6 + 1 = d + 199 by omega] at R2
      simp only [u_M_mirror_0, u_M_mirror_1, u_M_mirror_4, u_M_mirror_7, u_M_mirror_8, u_M_mirror_11, u_M_mirror_14, u_M_mirror_15, u_M_mirror_16, u_M_mirror_17, u_M_mirror_20, u_M_mirror_21, u_M_mirror_22, u_M_mirror_25, u_M_mirror_26, u_M_mirror_29, u_M_mirror_30, u_M_mirror_31, u_M_mirror_34, u_M_mirror_36, u_M_mirror_37, u_M_mirror_38, u_M_mirror_39, h1_156, gt_156_22, gt_156_23, pt_156_11, h1_161, h2_161, gt_161, pt_161, h1_162, h2_162, gt_162, pt_162, ne_eq, not_false_eq_true, not_true_eq_false, true_and, and_true, true_or, or_true, eq_self, Option.toList_some, Option.toList_none, List.cons_append, List.nil_append, tc_0, tc_I, tc_L, tc_A, Nat.reduceAdd, Nat.reduceLeDiff, Nat.reduceEqDiff, Int.reduceEq, Int.reduceLT, Int.reduceLE, Int.reduceNeg, Int.reduceToNat, Int.cast_ofNat_Int, if_true, if_false, and_self, or_self, ite_self, bI_0, bI_1, bI_01, Bool.false_eq_true, reduceCtorEq, s_M_isRoutine, hk, hkt, hk', and_self, decide_true, bB_t, Int.toNat_natCast, e161, e162]
      rw [emM_0]
      simp only [u_M_mirror_42, u_M_mirror_43, u_M_mirror_44, u_M_mirror_45, u_M_mirror_46, u_M_mirror_49, u_M_mirror_50, u_M_mirror_51, h1_156, gt_156_24, h1_163, h2_163, gt_163, pt_163, ne_eq, not_false_eq_true, not_true_eq_false, true_and, and_true, true_or, or_true, eq_self, Option.toList_some, Option.toList_none, List.cons_append, List.nil_append, tc_0, tc_I, tc_L, tc_A, Nat.reduceAdd, Nat.reduceLeDiff, Nat.reduceEqDiff, Int.reduceEq, Int.reduceLT, Int.reduceLE, Int.reduceNeg, Int.reduceToNat, Int.cast_ofNat_Int, if_true, if_false, and_self, or_self, ite_self, bI_0, bI_1, bI_01, Bool.false_eq_true, reduceCtorEq, hk', Int.toNat_natCast, e163, R2]
      simp only [u_M_mirror_54, u_M_mirror_55, u_M_mirror_56, u_M_mirror_57, h1_156, ne_eq, not_false_eq_true, not_true_eq_false, true_and, and_true, true_or, or_true, eq_self, Option.toList_some, Option.toList_none, List.cons_append, List.nil_append, tc_0, tc_I, tc_L, tc_A, Nat.reduceAdd, Nat.reduceLeDiff, Nat.reduceEqDiff, Int.reduceEq, Int.reduceLT, Int.reduceLE, Int.reduceNeg, Int.reduceToNat, Int.cast_ofNat_Int, if_true, if_false, and_self, or_self, ite_self, bI_0, bI_1, bI_01, Bool.false_eq_true, reduceCtorEq]
      refine hM L (d + 185) _ (fun g' h1 h2 => ?_)
      simp only [u_M_mirror_60, ne_eq, not_false_eq_true, not_true_eq_false, true_and, and_true, true_or, or_true, eq_self, Option.toList_some, Option.toList_none, List.cons_append, List.nil_append, tc_0, tc_I, tc_L, tc_A, Nat.reduceAdd, Nat.reduceLeDiff, Nat.reduceEqDiff, Int.reduceEq, Int.reduceLT, Int.reduceLE, Int.reduceNeg, Int.reduceToNat, Int.cast_ofNat_Int, if_true, if_false, and_self, or_self, ite_self, bI_0, bI_1, bI_01, Bool.false_eq_true, reduceCtorEq]
      exact hq2 g' h1 h2
    · have hst : VV L (d + 200) m_T_mirror 0 [some (tA 1), some (tI r), some (tI q)] [] (WW f t g) Q = Q (some (tI (-2))) (WW f t g) := by
        simp only [u_T_mirror_0, u_T_mirror_1, u_T_mirror_4, u_T_mirror_7, u_T_mirror_8, u_T_mirror_11, u_T_mirror_14, u_T_mirror_15, u_T_mirror_16, u_T_mirror_17, u_T_mirror_18, u_T_mirror_21, u_T_mirror_24, u_T_mirror_26, h1_1, ne_eq, not_false_eq_true, not_true_eq_false, true_and, and_true, true_or, or_true, eq_self, Option.toList_some, Option.toList_none, List.cons_append, List.nil_append, tc_0, tc_I, tc_L, tc_A, Nat.reduceAdd, Nat.reduceLeDiff, Nat.reduceEqDiff, Int.reduceEq, Int.reduceLT, Int.reduceLE, Int.reduceNeg, Int.reduceToNat, Int.cast_ofNat_Int, if_true, if_false, and_self, or_self, ite_self, bI_0, bI_1, bI_01, Bool.false_eq_true, reduceCtorEq, s_T_isRoutine, hk', hkt', s_T_isReversible hR.tx.tc hr, hv, and_self, decide_true, decide_false, bB_t, bB_f]
      rw [hst]
      refine hQ _ f t (RefP_0 hR (fun L d Q => ?_))
      rcases hR.tx.tc.th r hr with h | h
      · rw [h] at tha
        simp only [u_M_mirror_0, u_M_mirror_1, u_M_mirror_4, u_M_mirror_7, u_M_mirror_8, u_M_mirror_11, u_M_mirror_14, u_M_mirror_15, u_M_mirror_16, u_M_mirror_17, u_M_mirror_20, u_M_mirror_21, u_M_mirror_22, u_M_mirror_25, u_M_mirror_26, u_M_mirror_29, u_M_mirror_30, u_M_mirror_31, u_M_mirror_34, u_M_mirror_36, h1_156, gt_156_22, gt_156_23, h1_161, h2_161, gt_161, pt_161, h1_162, h2_162, gt_162, pt_162, ne_eq, not_false_eq_true, not_true_eq_false, true_and, and_true, true_or, or_true, eq_self, Option.toList_some, Option.toList_none, List.cons_append, List.nil_append, tc_0, tc_I, tc_L, tc_A, Nat.reduceAdd, Nat.reduceLeDiff, Nat.reduceEqDiff, Int.reduceEq, Int.reduceLT, Int.reduceLE, Int.reduceNeg, Int.reduceToNat, Int.cast_ofNat_Int, if_true, if_false, and_self, or_self, ite_self, bI_0, bI_1, bI_01, Bool.false_eq_true, reduceCtorEq, s_M_isRoutine, hk, hkt, hk', and_self, decide_true, bB_t, Int.toNat_natCast, ← tha]
      · have hx := hR.tx.tc.ok r hr h
        have hy := hR.tx.tm.ok r hr h
        rw [h] at tha
        have ho : (X r).2.1 = true := by
          rw [← hx.od]
          cases hb : kOrd (tok t (aT f r) 0) with
          | true => rfl
          | false => exact absurd ⟨h, hb⟩ hv
        have e162 : g 162 r = 1 := by rw [hy.od, ho]; rfl
        simp only [u_M_mirror_0, u_M_mirror_1, u_M_mirror_4, u_M_mirror_7, u_M_mirror_8, u_M_mirror_11, u_M_mirror_14, u_M_mirror_15, u_M_mirror_16, u_M_mirror_17, u_M_mirror_20, u_M_mirror_21, u_M_mirror_22, u_M_mirror_25, u_M_mirror_26, u_M_mirror_29, u_M_mirror_30, u_M_mirror_31, u_M_mirror_34, u_M_mirror_36, h1_156, gt_156_22, gt_156_23, h1_161, h2_161, gt_161, pt_161, h1_162, h2_162, gt_162, pt_162, ne_eq, not_false_eq_true, not_true_eq_false, true_and, and_true, true_or, or_true, eq_self, Option.toList_some, Option.toList_none, List.cons_append, List.nil_append, tc_0, tc_I, tc_L, tc_A, Nat.reduceAdd, Nat.reduceLeDiff, Nat.reduceEqDiff, Int.reduceEq, Int.reduceLT, Int.reduceLE, Int.reduceNeg, Int.reduceToNat, Int.cast_ofNat_Int, if_true, if_false, and_self, or_self, ite_self, bI_0, bI_1, bI_01, Bool.false_eq_true, reduceCtorEq, s_M_isRoutine, hk, hkt, hk', and_self, decide_true, bB_t, Int.toNat_natCast, ← tha, e162]
  · have hst : VV L (d + 200) m_T_mirror 0 [some (tA 1), some (tI k), some (tI kt)] [] (WW f t g) Q = Q (some (tI (-1))) (WW f t g) := by
      by_cases h1 : 0 ≤ k ∧ k < 10
      · have h2 : ¬ (0 ≤ kt ∧ kt < 10) := by omega
        simp only [u_T_mirror_0, u_T_mirror_1, u_T_mirror_4, u_T_mirror_7, u_T_mirror_8, u_T_mirror_11, u_T_mirror_14, u_T_mirror_15, ne_eq, not_false_eq_true, not_true_eq_false, true_and, and_true, true_or, or_true, eq_self, Option.toList_some, Option.toList_none, List.cons_append, List.nil_append, tc_0, tc_I, tc_L, tc_A, Nat.reduceAdd, Nat.reduceLeDiff, Nat.reduceEqDiff, Int.reduceEq, Int.reduceLT, Int.reduceLE, Int.reduceNeg, Int.reduceToNat, Int.cast_ofNat_Int, if_true, if_false, and_self, or_self, ite_self, bI_0, bI_1, bI_01, Bool.false_eq_true, reduceCtorEq, s_T_isRoutine, h1, h2, and_self, decide_true, decide_false, bB_t, bB_f]
      · simp only [u_T_mirror_0, u_T_mirror_1, u_T_mirror_4, u_T_mirror_7, u_T_mirror_8, u_T_mirror_11, u_T_mirror_14, u_T_mirror_15, ne_eq, not_false_eq_true, not_true_eq_false, true_and, and_true, true_or, or_true, eq_self, Option.toList_some, Option.toList_none, List.cons_append, List.nil_append, tc_0, tc_I, tc_L, tc_A, Nat.reduceAdd, Nat.reduceLeDiff, Nat.reduceEqDiff, Int.reduceEq, Int.reduceLT, Int.reduceLE, Int.reduceNeg, Int.reduceToNat, Int.cast_ofNat_Int, if_true, if_false, and_self, or_self, ite_self, bI_0, bI_1, bI_01, Bool.false_eq_true, reduceCtorEq, s_T_isRoutine, h1, decide_false, bB_f]
    rw [hst]
    refine hQ _ f t (RefP_0 hR (fun L d Q => ?_))
    by_cases h1 : 0 ≤ k ∧ k ≤ 9
    · have h2 : ¬ (0 ≤ kt ∧ kt ≤ 9) := by omega
      simp only [u_M_mirror_0, u_M_mirror_1, u_M_mirror_4, u_M_mirror_7, u_M_mirror_8, u_M_mirror_11, u_M_mirror_14, u_M_mirror_15, ne_eq, not_false_eq_true, not_true_eq_false, true_and, and_true, true_or, or_true, eq_self, Option.toList_some, Option.toList_none, List.cons_append, List.nil_append, tc_0, tc_I, tc_L, tc_A, Nat.reduceAdd, Nat.reduceLeDiff, Nat.reduceEqDiff, Int.reduceEq, Int.reduceLT, Int.reduceLE, Int.reduceNeg, Int.reduceToNat, Int.cast_ofNat_Int, if_true, if_false, and_self, or_self, ite_self, bI_0, bI_1, bI_01, Bool.false_eq_true, reduceCtorEq, s_M_isRoutine, h1, h2, and_self, decide_true, decide_false, bB_t, bB_f]
    · simp only [u_M_mirror_0, u_M_mirror_1, u_M_mirror_4, u_M_mirror_7, u_M_mirror_8, u_M_mirror_11, u_M_mirror_14, u_M_mirror_15, ne_eq, not_false_eq_true, not_true_eq_false, true_and, and_true, true_or, or_true, eq_self, Option.toList_some, Option.toList_none, List.cons_append, List.nil_append, tc_0, tc_I, tc_L, tc_A, Nat.reduceAdd, Nat.reduceLeDiff, Nat.reduceEqDiff, Int.reduceEq, Int.reduceLT, Int.reduceLE, Int.reduceNeg, Int.reduceToNat, Int.cast_ofNat_Int, if_true, if_false, and_self, or_self, ite_self, bI_0, bI_1, bI_01, Bool.false_eq_true, reduceCtorEq, s_M_isRoutine, h1, decide_false, bB_f]
