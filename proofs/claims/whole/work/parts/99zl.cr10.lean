/-! Calls: same -/
section
variable {L d ra rb len lb : Nat} {F t g : Mem} {T T' : Int → Int} {Q : Option TV → Wd → Prop}
theorem l_sameM (hA : RT g ra T len) (hB : RT g rb T' len) (hoA : ∀ k : Int, 0 ≤ k → k < len → okT (T k)) (hoB : ∀ k : Int, 0 ≤ k → k < len → okT (T' k)) : ∀ (m k : Nat), k + m = len → sqN T T' k = true → VV L (d + 1) m_M_same 61 [some (tA 156), some (tI ra), some (tI rb), some (tI 1), some (tI k)] [] (WW F t g) Q = Q (some (tI (bB (sqN T T' len)))) (WW F t g) := by
  have hm1 : T (-1) = T' (-1) := by rw [hA.z (-1) (by omega), hB.z (-1) (by omega)]
  obtain ⟨r0, r1, r2⟩ := hA.ir
  have l1 := hA.l1
  intro m
  induction m with
  | zero =>
    intro k hk hp
    obtain rfl : k = len := by omega
    rw [u_M_same_61]
    simp only [u_M_same_63, u_M_same_64, u_M_same_67, u_M_same_68, u_M_same_69, u_M_same_146, u_M_same_147, u_M_same_150, u_M_same_151, u_M_same_154, u_M_same_155, h1_156, gt_156_24, h1_163, h2_163, gt_163, pt_163, ne_eq, not_false_eq_true, not_true_eq_false, true_and, and_true, true_or, or_true, eq_self, Option.toList_some, Option.toList_none, List.cons_append, List.nil_append, tc_0, tc_I, tc_L, tc_A, Nat.reduceAdd, Nat.reduceLeDiff, Nat.reduceEqDiff, Int.reduceEq, Int.reduceLT, Int.reduceLE, Int.reduceNeg, Int.reduceToNat, Int.cast_ofNat_Int, if_true, if_false, and_self, or_self, ite_self, bI_0, bI_1, bI_01, Bool.false_eq_true, reduceCtorEq, r0, r1, r2, show (k : Int) ≤ k by omega, hp, bB_t]
  | succ m ih =>
    intro k hk hp
    have wk : w32 ((k : Int) + 1) = ((k + 1 : Nat) : Int) := by rw [w32_id (by omega) (by omega)]; omega
    have k0 : (0 : Int) ≤ k := Int.natCast_nonneg k
    have kln : k < len := by omega
    have kl : (k : Int) < len := Int.ofNat_lt.mpr kln
    obtain ⟨x1, x2, x3, x4, x5, x6⟩ := hA.ix k0 kl
    obtain ⟨y1, y2, y3, y4, y5, y6⟩ := hB.ix k0 kl
    have hpr := sqN_pr hm1 k hp
    have nl : ¬ (len : Int) ≤ k := Int.not_le.mpr kl
    rw [u_M_same_61]
    by_cases h : T k = T' k
    · obtain ⟨e1, e2⟩ := eS_eq h hpr
      simp only [u_M_same_63, u_M_same_64, u_M_same_67, u_M_same_68, u_M_same_69, u_M_same_72, u_M_same_73, u_M_same_76, u_M_same_77, u_M_same_80, u_M_same_83, u_M_same_84, u_M_same_85, u_M_same_87, u_M_same_88, u_M_same_89, u_M_same_90, u_M_same_93, u_M_same_96, u_M_same_97, u_M_same_98, u_M_same_100, u_M_same_101, u_M_same_102, u_M_same_105, u_M_same_106, u_M_same_109, u_M_same_112, u_M_same_113, u_M_same_114, u_M_same_116, u_M_same_117, u_M_same_118, u_M_same_119, u_M_same_122, u_M_same_125, u_M_same_126, u_M_same_127, u_M_same_129, u_M_same_130, u_M_same_131, u_M_same_134, u_M_same_135, u_M_same_138, u_M_same_139, u_M_same_140, u_M_same_143, h1_156, gt_156_24, gt_156_25, gt_156_26, h1_163, h2_163, gt_163, pt_163, h1_164, h2_164, gt_164, pt_164, h1_165, h2_165, gt_165, pt_165, ne_eq, not_false_eq_true, not_true_eq_false, true_and, and_true, true_or, or_true, eq_self, Option.toList_some, Option.toList_none, List.cons_append, List.nil_append, tc_0, tc_I, tc_L, tc_A, Nat.reduceAdd, Nat.reduceLeDiff, Nat.reduceEqDiff, Int.reduceEq, Int.reduceLT, Int.reduceLE, Int.reduceNeg, Int.reduceToNat, Int.cast_ofNat_Int, if_true, if_false, and_self, or_self, ite_self, bI_0, bI_1, bI_01, Bool.false_eq_true, reduceCtorEq, r0, r1, r2, nl, x1, x2, x3, x4, x5, x6, y1, y2, y3, y4, y5, y6, e1, e2, wk]
      exact ih (k + 1) (by omega) (by rw [sqN, hp, decide_eq_true h]; rfl)
    · rw [sqN_no len k (by omega) h, bB_f]
      have last : VV L (d + 1) m_M_same 61 [some (tA 156), some (tI ra), some (tI rb), some (tI 0), some (tI ((k + 1 : Nat) : Int))] [] (WW F t g) Q = Q (some (tI 0)) (WW F t g) := by
        rw [u_M_same_61]
        by_cases hh : (len : Int) ≤ ((k + 1 : Nat) : Int)
        · simp only [u_M_same_63, u_M_same_64, u_M_same_67, u_M_same_68, u_M_same_69, u_M_same_72, u_M_same_73, u_M_same_146, u_M_same_147, u_M_same_150, u_M_same_151, u_M_same_154, u_M_same_155, h1_156, gt_156_24, h1_163, h2_163, gt_163, pt_163, ne_eq, not_false_eq_true, not_true_eq_false, true_and, and_true, true_or, or_true, eq_self, Option.toList_some, Option.toList_none, List.cons_append, List.nil_append, tc_0, tc_I, tc_L, tc_A, Nat.reduceAdd, Nat.reduceLeDiff, Nat.reduceEqDiff, Int.reduceEq, Int.reduceLT, Int.reduceLE, Int.reduceNeg, Int.reduceToNat, Int.cast_ofNat_Int, if_true, if_false, and_self, or_self, ite_self, bI_0, bI_1, bI_01, Bool.false_eq_true, reduceCtorEq, r0, r1, r2, hh]
        · simp only [u_M_same_63, u_M_same_64, u_M_same_67, u_M_same_68, u_M_same_69, u_M_same_72, u_M_same_73, u_M_same_146, u_M_same_147, u_M_same_150, u_M_same_151, u_M_same_154, u_M_same_155, h1_156, gt_156_24, h1_163, h2_163, gt_163, pt_163, ne_eq, not_false_eq_true, not_true_eq_false, true_and, and_true, true_or, or_true, eq_self, Option.toList_some, Option.toList_none, List.cons_append, List.nil_append, tc_0, tc_I, tc_L, tc_A, Nat.reduceAdd, Nat.reduceLeDiff, Nat.reduceEqDiff, Int.reduceEq, Int.reduceLT, Int.reduceLE, Int.reduceNeg, Int.reduceToNat, Int.cast_ofNat_Int, if_true, if_false, and_self, or_self, ite_self, bI_0, bI_1, bI_01, Bool.false_eq_true, reduceCtorEq, r0, r1, r2, hh]
      by_cases h1 : eS T k = eS T' k
      · have h2 : ¬ whc (T k) = whc (T' k) := fun h2 => h (eS_inj (hoA k k0 kl) (hoB k k0 kl) h1 h2)
        simp only [u_M_same_63, u_M_same_64, u_M_same_67, u_M_same_68, u_M_same_69, u_M_same_72, u_M_same_73, u_M_same_76, u_M_same_77, u_M_same_80, u_M_same_83, u_M_same_84, u_M_same_85, u_M_same_87, u_M_same_88, u_M_same_89, u_M_same_90, u_M_same_93, u_M_same_96, u_M_same_97, u_M_same_98, u_M_same_100, u_M_same_101, u_M_same_102, u_M_same_105, u_M_same_106, u_M_same_109, u_M_same_112, u_M_same_113, u_M_same_114, u_M_same_116, u_M_same_117, u_M_same_118, u_M_same_119, u_M_same_122, u_M_same_125, u_M_same_126, u_M_same_127, u_M_same_129, u_M_same_130, u_M_same_131, u_M_same_134, u_M_same_135, u_M_same_138, u_M_same_139, u_M_same_140, u_M_same_143, h1_156, gt_156_24, gt_156_25, gt_156_26, h1_163, h2_163, gt_163, pt_163, h1_164, h2_164, gt_164, pt_164, h1_165, h2_165, gt_165, pt_165, ne_eq, not_false_eq_true, not_true_eq_false, true_and, and_true, true_or, or_true, eq_self, Option.toList_some, Option.toList_none, List.cons_append, List.nil_append, tc_0, tc_I, tc_L, tc_A, Nat.reduceAdd, Nat.reduceLeDiff, Nat.reduceEqDiff, Int.reduceEq, Int.reduceLT, Int.reduceLE, Int.reduceNeg, Int.reduceToNat, Int.cast_ofNat_Int, if_true, if_false, and_self, or_self, ite_self, bI_0, bI_1, bI_01, Bool.false_eq_true, reduceCtorEq, r0, r1, r2, nl, x1, x2, x3, x4, x5, x6, y1, y2, y3, y4, y5, y6, h1, h2, wk]
        exact last
      · simp only [u_M_same_63, u_M_same_64, u_M_same_67, u_M_same_68, u_M_same_69, u_M_same_72, u_M_same_73, u_M_same_76, u_M_same_77, u_M_same_80, u_M_same_83, u_M_same_84, u_M_same_85, u_M_same_87, u_M_same_88, u_M_same_89, u_M_same_90, u_M_same_93, u_M_same_96, u_M_same_97, u_M_same_98, u_M_same_100, u_M_same_101, u_M_same_102, u_M_same_105, u_M_same_106, u_M_same_109, u_M_same_112, u_M_same_113, u_M_same_114, u_M_same_116, u_M_same_117, u_M_same_118, u_M_same_119, u_M_same_122, u_M_same_125, u_M_same_126, u_M_same_127, u_M_same_129, u_M_same_130, u_M_same_131, u_M_same_134, u_M_same_135, u_M_same_138, u_M_same_139, u_M_same_140, u_M_same_143, h1_156, gt_156_24, gt_156_25, gt_156_26, h1_163, h2_163, gt_163, pt_163, h1_164, h2_164, gt_164, pt_164, h1_165, h2_165, gt_165, pt_165, ne_eq, not_false_eq_true, not_true_eq_false, true_and, and_true, true_or, or_true, eq_self, Option.toList_some, Option.toList_none, List.cons_append, List.nil_append, tc_0, tc_I, tc_L, tc_A, Nat.reduceAdd, Nat.reduceLeDiff, Nat.reduceEqDiff, Int.reduceEq, Int.reduceLT, Int.reduceLE, Int.reduceNeg, Int.reduceToNat, Int.cast_ofNat_Int, if_true, if_false, and_self, or_self, ite_self, bI_0, bI_1, bI_01, Bool.false_eq_true, reduceCtorEq, r0, r1, r2, nl, x1, x2, x3, x4, x5, x6, y1, y2, y3, y4, y5, y6, h1, wk]
        exact last
theorem B_same {a b : Int} : Both tI m_T_same [some (tA 1), some (tI a), some (tI b)] m_M_same [some (tA 156), some (tI a), some (tI b), none, none] := by
  refine Both_of (fun L d X TH f t g Q hR hQ => ?_)
  by_cases hk : (0 ≤ a ∧ a ≤ 9) ∧ (0 ≤ b ∧ b ≤ 9)
  · obtain ⟨ha, hb⟩ := hk
    have ha' : 0 ≤ a ∧ a < 10 := by omega
    have hb' : 0 ≤ b ∧ b < 10 := by omega
    obtain ⟨r, rfl⟩ : ∃ n : Nat, a = (n : Int) := ⟨a.toNat, by omega⟩
    obtain ⟨s, rfl⟩ : ∃ n : Nat, b = (n : Int) := ⟨b.toNat, by omega⟩
    have hr : r < 10 := by omega
    have hs : s < 10 := by omega
    have hTa := hR.tx.tc.tt r hr
    have hTb := hR.tx.tc.tt s hs
    have a0 := xT_0 hTa
    have b0 := xT_0 hTb
    have hra : (f 3 r).toNat = aT f r := rfl
    have hrb : (f 3 s).toNat = aT f s := rfl
    have tha := hR.tx.tm.th r hr
    have thb := hR.tx.tm.th s hs
    by_cases hv : t (aT f r) 15 = 1 ∧ t (aT f s) 15 = 1
    · obtain ⟨v1, v2⟩ := hv
      rw [v1] at tha
      rw [v2] at thb
      have hxa := hR.tx.tc.ok r hr v1
      have hxb := hR.tx.tc.ok s hs v2
      have hya := hR.tx.tm.ok r hr v1
      have hyb := hR.tx.tm.ok s hs v2
      have lna := hxa.ln
      have lnb := hxb.ln
      have hst : VV L (d + 200) m_T_same 0 [some (tA 1), some (tI r), some (tI s)] [] (WW f t g) Q = Q (some (tI (bB (decide (t (aT f r) 1 = t (aT f s) 1) && sqN (tok t (aT f r)) (tok t (aT f s)) (t (aT f r) 1).toNat)))) (WW f t g) := by
        cases hb : (decide (t (aT f r) 1 = t (aT f s) 1) && sqN (tok t (aT f r)) (tok t (aT f s)) (t (aT f r) 1).toNat) <;>
          simp only [u_T_same_0, u_T_same_1, u_T_same_4, u_T_same_7, u_T_same_8, u_T_same_11, u_T_same_14, u_T_same_15, u_T_same_16, u_T_same_17, u_T_same_20, u_T_same_21, u_T_same_22, u_T_same_25, u_T_same_28, u_T_same_29, u_T_same_32, u_T_same_33, u_T_same_34, u_T_same_37, u_T_same_40, u_T_same_42, u_T_same_43, u_T_same_44, u_T_same_47, u_T_same_48, u_T_same_49, u_T_same_50, u_T_same_53, u_T_same_54, u_T_same_55, u_T_same_58, u_T_same_61, u_T_same_62, u_T_same_65, u_T_same_66, h1_1, gt_1_2, h1_3, h2_3, gt_3, pt_3, xT_h1, ne_eq, not_false_eq_true, not_true_eq_false, true_and, and_true, true_or, or_true, eq_self, Option.toList_some, Option.toList_none, List.cons_append, List.nil_append, tc_0, tc_I, tc_L, tc_A, Nat.reduceAdd, Nat.reduceLeDiff, Nat.reduceEqDiff, Int.reduceEq, Int.reduceLT, Int.reduceLE, Int.reduceNeg, Int.reduceToNat, Int.cast_ofNat_Int, if_true, if_false, and_self, or_self, ite_self, bI_0, bI_1, bI_01, Bool.false_eq_true, reduceCtorEq, s_T_isRoutine, ha', hb', and_self, decide_true, bB_t, bB_f, Int.toNat_natCast, hra, hrb, a0, b0, hTa, hTb, s_Tx_isThere hTa (Or.inr v1), s_Tx_isThere hTb (Or.inr v2), v1, v2, s_Tx_hasTokensOf hTa hTb (by rw [lna]; exact Int.natCast_nonneg _) hxa.l1, hb]
      rw [hst]
      refine hQ _ f t (RefP_0 hR (fun L d Q => ?_))
      obtain ⟨ra0, ra1, ra2⟩ := hya.rt.ir
      obtain ⟨rb0, rb1, rb2⟩ := hyb.rt.ir
      by_cases hl : t (aT f r) 1 = t (aT f s) 1
      · have hlen : (kB 6 (X s).2.2).length = (kB 6 (X r).2.2).length := by omega
        have hyb' := hyb.rt
        rw [hlen] at hyb' rb2
        rw [decide_eq_true hl, Bool.true_and, lna, Int.toNat_natCast]
        have := l_sameM (L := L) (d := d + 199) (F := f) (t := t) (Q := Q) hya.rt hyb' (fun k h0 h1 => TCo_ok hxa h0 (by rw [lna]; exact h1)) (fun k h0 h1 => TCo_ok hxb h0 (by rw [← hl, lna]; exact h1)) _ 0 (Nat.zero_add _) rfl
        rw [← this]
        simp only [u_M_same_0, u_M_same_1, u_M_same_4, u_M_same_7, u_M_same_8, u_M_same_11, u_M_same_14, u_M_same_15, u_M_same_16, u_M_same_17, u_M_same_20, u_M_same_21, u_M_same_22, u_M_same_25, u_M_same_26, u_M_same_29, u_M_same_30, u_M_same_31, u_M_same_34, u_M_same_36, u_M_same_37, u_M_same_38, u_M_same_41, u_M_same_42, u_M_same_43, u_M_same_44, u_M_same_47, u_M_same_48, u_M_same_49, u_M_same_52, u_M_same_53, u_M_same_56, u_M_same_57, u_M_same_58, u_M_same_59, h1_156, gt_156_22, gt_156_24, h1_161, h2_161, gt_161, pt_161, h1_163, h2_163, gt_163, pt_163, ne_eq, not_false_eq_true, not_true_eq_false, true_and, and_true, true_or, or_true, eq_self, Option.toList_some, Option.toList_none, List.cons_append, List.nil_append, tc_0, tc_I, tc_L, tc_A, Nat.reduceAdd, Nat.reduceLeDiff, Nat.reduceEqDiff, Int.reduceEq, Int.reduceLT, Int.reduceLE, Int.reduceNeg, Int.reduceToNat, Int.cast_ofNat_Int, if_true, if_false, and_self, or_self, ite_self, bI_0, bI_1, bI_01, Bool.false_eq_true, reduceCtorEq, s_M_isRoutine, ha, hb, ha', hb', and_self, decide_true, bB_t, Int.toNat_natCast, ← tha, ← thb, ra0, ra1, rb0, rb1, hya.rt.l, hyb'.l]
      · have hlen : ¬ ((kB 6 (X r).2.2).length : Int) = ((kB 6 (X s).2.2).length : Int) := by rw [← lna, ← lnb]; exact hl
        rw [decide_eq_false hl, Bool.false_and, bB_f]
        have hst2 : VV L (d + 200) m_M_same 0 [some (tA 156), some (tI r), some (tI s), none, none] [] (WW f t g) Q = VV L (d + 200) m_M_same 61 [some (tA 156), some (tI r), some (tI s), some (tI 0), some (tI 0)] [] (WW f t g) Q := by
          simp only [u_M_same_0, u_M_same_1, u_M_same_4, u_M_same_7, u_M_same_8, u_M_same_11, u_M_same_14, u_M_same_15, u_M_same_16, u_M_same_17, u_M_same_20, u_M_same_21, u_M_same_22, u_M_same_25, u_M_same_26, u_M_same_29, u_M_same_30, u_M_same_31, u_M_same_34, u_M_same_36, u_M_same_37, u_M_same_38, u_M_same_41, u_M_same_42, u_M_same_43, u_M_same_44, u_M_same_47, u_M_same_48, u_M_same_49, u_M_same_52, u_M_same_53, u_M_same_56, u_M_same_57, u_M_same_58, u_M_same_59, h1_156, gt_156_22, gt_156_24, h1_161, h2_161, gt_161, pt_161, h1_163, h2_163, gt_163, pt_163, ne_eq, not_false_eq_true, not_true_eq_false, true_and, and_true, true_or, or_true, eq_self, Option.toList_some, Option.toList_none, List.cons_append, List.nil_append, tc_0, tc_I, tc_L, tc_A, Nat.reduceAdd, Nat.reduceLeDiff, Nat.reduceEqDiff, Int.reduceEq, Int.reduceLT, Int.reduceLE, Int.reduceNeg, Int.reduceToNat, Int.cast_ofNat_Int, if_true, if_false, and_self, or_self, ite_self, bI_0, bI_1, bI_01, Bool.false_eq_true, reduceCtorEq, s_M_isRoutine, ha, hb, ha', hb', and_self, decide_true, bB_t, Int.toNat_natCast, ← tha, ← thb, ra0, ra1, rb0, rb1, hya.rt.l, hyb.rt.l, hlen]
        rw [hst2, u_M_same_61]
        by_cases hh : ((kB 6 (X r).2.2).length : Int) ≤ 0
        · simp only [u_M_same_63, u_M_same_64, u_M_same_67, u_M_same_68, u_M_same_69, u_M_same_72, u_M_same_73, u_M_same_146, u_M_same_147, u_M_same_150, u_M_same_151, u_M_same_154, u_M_same_155, h1_156, gt_156_24, h1_163, h2_163, gt_163, pt_163, ne_eq, not_false_eq_true, not_true_eq_false, true_and, and_true, true_or, or_true, eq_self, Option.toList_some, Option.toList_none, List.cons_append, List.nil_append, tc_0, tc_I, tc_L, tc_A, Nat.reduceAdd, Nat.reduceLeDiff, Nat.reduceEqDiff, Int.reduceEq, Int.reduceLT, Int.reduceLE, Int.reduceNeg, Int.reduceToNat, Int.cast_ofNat_Int, if_true, if_false, and_self, or_self, ite_self, bI_0, bI_1, bI_01, Bool.false_eq_true, reduceCtorEq, ra0, ra1, Int.toNat_natCast, hya.rt.l, hh]
        · simp only [u_M_same_63, u_M_same_64, u_M_same_67, u_M_same_68, u_M_same_69, u_M_same_72, u_M_same_73, u_M_same_146, u_M_same_147, u_M_same_150, u_M_same_151, u_M_same_154, u_M_same_155, h1_156, gt_156_24, h1_163, h2_163, gt_163, pt_163, ne_eq, not_false_eq_true, not_true_eq_false, true_and, and_true, true_or, or_true, eq_self, Option.toList_some, Option.toList_none, List.cons_append, List.nil_append, tc_0, tc_I, tc_L, tc_A, Nat.reduceAdd, Nat.reduceLeDiff, Nat.reduceEqDiff, Int.reduceEq, Int.reduceLT, Int.reduceLE, Int.reduceNeg, Int.reduceToNat, Int.cast_ofNat_Int, if_true, if_false, and_self, or_self, ite_self, bI_0, bI_1, bI_01, Bool.false_eq_true, reduceCtorEq, ra0, ra1, Int.toNat_natCast, hya.rt.l, hh]
    · have hst : VV L (d + 200) m_T_same 0 [some (tA 1), some (tI r), some (tI s)] [] (WW f t g) Q = Q (some (tI (-2))) (WW f t g) := by
        rcases hR.tx.tc.th r hr with h | h
        · simp only [u_T_same_0, u_T_same_1, u_T_same_4, u_T_same_7, u_T_same_8, u_T_same_11, u_T_same_14, u_T_same_15, u_T_same_16, u_T_same_17, u_T_same_20, u_T_same_21, u_T_same_22, u_T_same_25, u_T_same_28, u_T_same_29, u_T_same_32, u_T_same_33, u_T_same_34, u_T_same_37, u_T_same_40, u_T_same_42, u_T_same_43, u_T_same_44, u_T_same_47, u_T_same_48, u_T_same_49, u_T_same_50, u_T_same_53, u_T_same_54, u_T_same_55, u_T_same_58, u_T_same_61, u_T_same_62, u_T_same_65, u_T_same_66, h1_1, gt_1_2, h1_3, h2_3, gt_3, pt_3, xT_h1, ne_eq, not_false_eq_true, not_true_eq_false, true_and, and_true, true_or, or_true, eq_self, Option.toList_some, Option.toList_none, List.cons_append, List.nil_append, tc_0, tc_I, tc_L, tc_A, Nat.reduceAdd, Nat.reduceLeDiff, Nat.reduceEqDiff, Int.reduceEq, Int.reduceLT, Int.reduceLE, Int.reduceNeg, Int.reduceToNat, Int.cast_ofNat_Int, if_true, if_false, and_self, or_self, ite_self, bI_0, bI_1, bI_01, Bool.false_eq_true, reduceCtorEq, s_T_isRoutine, ha', hb', and_self, decide_true, bB_t, Int.toNat_natCast, hra, hrb, a0, b0, hTa, hTb, s_Tx_isThere hTa (Or.inl h), h]
        · have h2 : t (aT f s) 15 = 0 := (hR.tx.tc.th s hs).resolve_right (fun h2 => hv ⟨h, h2⟩)
          simp only [u_T_same_0, u_T_same_1, u_T_same_4, u_T_same_7, u_T_same_8, u_T_same_11, u_T_same_14, u_T_same_15, u_T_same_16, u_T_same_17, u_T_same_20, u_T_same_21, u_T_same_22, u_T_same_25, u_T_same_28, u_T_same_29, u_T_same_32, u_T_same_33, u_T_same_34, u_T_same_37, u_T_same_40, u_T_same_42, u_T_same_43, u_T_same_44, u_T_same_47, u_T_same_48, u_T_same_49, u_T_same_50, u_T_same_53, u_T_same_54, u_T_same_55, u_T_same_58, u_T_same_61, u_T_same_62, u_T_same_65, u_T_same_66, h1_1, gt_1_2, h1_3, h2_3, gt_3, pt_3, xT_h1, ne_eq, not_false_eq_true, not_true_eq_false, true_and, and_true, true_or, or_true, eq_self, Option.toList_some, Option.toList_none, List.cons_append, List.nil_append, tc_0, tc_I, tc_L, tc_A, Nat.reduceAdd, Nat.reduceLeDiff, Nat.reduceEqDiff, Int.reduceEq, Int.reduceLT, Int.reduceLE, Int.reduceNeg, Int.reduceToNat, Int.cast_ofNat_Int, if_true, if_false, and_self, or_self, ite_self, bI_0, bI_1, bI_01, Bool.false_eq_true, reduceCtorEq, s_T_isRoutine, ha', hb', and_self, decide_true, bB_t, Int.toNat_natCast, hra, hrb, a0, b0, hTa, hTb, s_Tx_isThere hTa (Or.inr h), h, s_Tx_isThere hTb (Or.inl h2), h2]
      rw [hst]
      refine hQ _ f t (RefP_0 hR (fun L d Q => ?_))
      rcases hR.tx.tc.th r hr with h | h
      · rw [h] at tha
        simp only [u_M_same_0, u_M_same_1, u_M_same_4, u_M_same_7, u_M_same_8, u_M_same_11, u_M_same_14, u_M_same_15, u_M_same_16, u_M_same_17, u_M_same_20, u_M_same_21, u_M_same_22, u_M_same_25, u_M_same_26, u_M_same_29, u_M_same_30, u_M_same_31, u_M_same_34, u_M_same_36, h1_156, gt_156_22, h1_161, h2_161, gt_161, pt_161, ne_eq, not_false_eq_true, not_true_eq_false, true_and, and_true, true_or, or_true, eq_self, Option.toList_some, Option.toList_none, List.cons_append, List.nil_append, tc_0, tc_I, tc_L, tc_A, Nat.reduceAdd, Nat.reduceLeDiff, Nat.reduceEqDiff, Int.reduceEq, Int.reduceLT, Int.reduceLE, Int.reduceNeg, Int.reduceToNat, Int.cast_ofNat_Int, if_true, if_false, and_self, or_self, ite_self, bI_0, bI_1, bI_01, Bool.false_eq_true, reduceCtorEq, s_M_isRoutine, ha, hb, ha', hb', and_self, decide_true, bB_t, Int.toNat_natCast, ← tha]
      · have h2 : t (aT f s) 15 = 0 := (hR.tx.tc.th s hs).resolve_right (fun h2 => hv ⟨h, h2⟩)
        rw [h] at tha
        rw [h2] at thb
        simp only [u_M_same_0, u_M_same_1, u_M_same_4, u_M_same_7, u_M_same_8, u_M_same_11, u_M_same_14, u_M_same_15, u_M_same_16, u_M_same_17, u_M_same_20, u_M_same_21, u_M_same_22, u_M_same_25, u_M_same_26, u_M_same_29, u_M_same_30, u_M_same_31, u_M_same_34, u_M_same_36, h1_156, gt_156_22, h1_161, h2_161, gt_161, pt_161, ne_eq, not_false_eq_true, not_true_eq_false, true_and, and_true, true_or, or_true, eq_self, Option.toList_some, Option.toList_none, List.cons_append, List.nil_append, tc_0, tc_I, tc_L, tc_A, Nat.reduceAdd, Nat.reduceLeDiff, Nat.reduceEqDiff, Int.reduceEq, Int.reduceLT, Int.reduceLE, Int.reduceNeg, Int.reduceToNat, Int.cast_ofNat_Int, if_true, if_false, and_self, or_self, ite_self, bI_0, bI_1, bI_01, Bool.false_eq_true, reduceCtorEq, s_M_isRoutine, ha, hb, ha', hb', and_self, decide_true, bB_t, Int.toNat_natCast, ← tha, ← thb]
  · have hst : VV L (d + 200) m_T_same 0 [some (tA 1), some (tI a), some (tI b)] [] (WW f t g) Q = Q (some (tI (-1))) (WW f t g) := by
      by_cases h1 : 0 ≤ a ∧ a < 10
      · have h2 : ¬ (0 ≤ b ∧ b < 10) := by omega
        simp only [u_T_same_0, u_T_same_1, u_T_same_4, u_T_same_7, u_T_same_8, u_T_same_11, u_T_same_14, u_T_same_15, u_T_same_16, u_T_same_17, u_T_same_20, u_T_same_21, u_T_same_22, u_T_same_25, u_T_same_28, u_T_same_29, u_T_same_32, u_T_same_33, u_T_same_34, u_T_same_37, u_T_same_40, u_T_same_42, u_T_same_43, u_T_same_44, u_T_same_47, u_T_same_48, u_T_same_49, u_T_same_50, u_T_same_53, u_T_same_54, u_T_same_55, u_T_same_58, u_T_same_61, u_T_same_62, u_T_same_65, u_T_same_66, ne_eq, not_false_eq_true, not_true_eq_false, true_and, and_true, true_or, or_true, eq_self, Option.toList_some, Option.toList_none, List.cons_append, List.nil_append, tc_0, tc_I, tc_L, tc_A, Nat.reduceAdd, Nat.reduceLeDiff, Nat.reduceEqDiff, Int.reduceEq, Int.reduceLT, Int.reduceLE, Int.reduceNeg, Int.reduceToNat, Int.cast_ofNat_Int, if_true, if_false, and_self, or_self, ite_self, bI_0, bI_1, bI_01, Bool.false_eq_true, reduceCtorEq, s_T_isRoutine, h1, h2, and_self, decide_true, decide_false, bB_t, bB_f]
      · simp only [u_T_same_0, u_T_same_1, u_T_same_4, u_T_same_7, u_T_same_8, u_T_same_11, u_T_same_14, u_T_same_15, u_T_same_16, u_T_same_17, u_T_same_20, u_T_same_21, u_T_same_22, u_T_same_25, u_T_same_28, u_T_same_29, u_T_same_32, u_T_same_33, u_T_same_34, u_T_same_37, u_T_same_40, u_T_same_42, u_T_same_43, u_T_same_44, u_T_same_47, u_T_same_48, u_T_same_49, u_T_same_50, u_T_same_53, u_T_same_54, u_T_same_55, u_T_same_58, u_T_same_61, u_T_same_62, u_T_same_65, u_T_same_66, ne_eq, not_false_eq_true, not_true_eq_false, true_and, and_true, true_or, or_true, eq_self, Option.toList_some, Option.toList_none, List.cons_append, List.nil_append, tc_0, tc_I, tc_L, tc_A, Nat.reduceAdd, Nat.reduceLeDiff, Nat.reduceEqDiff, Int.reduceEq, Int.reduceLT, Int.reduceLE, Int.reduceNeg, Int.reduceToNat, Int.cast_ofNat_Int, if_true, if_false, and_self, or_self, ite_self, bI_0, bI_1, bI_01, Bool.false_eq_true, reduceCtorEq, s_T_isRoutine, h1, decide_false, bB_f]
    rw [hst]
    refine hQ _ f t (RefP_0 hR (fun L d Q => ?_))
    by_cases h1 : 0 ≤ a ∧ a ≤ 9
    · have h2 : ¬ (0 ≤ b ∧ b ≤ 9) := by omega
      simp only [u_M_same_0, u_M_same_1, u_M_same_4, u_M_same_7, u_M_same_8, u_M_same_11, u_M_same_14, u_M_same_15, ne_eq, not_false_eq_true, not_true_eq_false, true_and, and_true, true_or, or_true, eq_self, Option.toList_some, Option.toList_none, List.cons_append, List.nil_append, tc_0, tc_I, tc_L, tc_A, Nat.reduceAdd, Nat.reduceLeDiff, Nat.reduceEqDiff, Int.reduceEq, Int.reduceLT, Int.reduceLE, Int.reduceNeg, Int.reduceToNat, Int.cast_ofNat_Int, if_true, if_false, and_self, or_self, ite_self, bI_0, bI_1, bI_01, Bool.false_eq_true, reduceCtorEq, s_M_isRoutine, h1, h2, and_self, decide_true, decide_false, bB_t, bB_f]
    · simp only [u_M_same_0, u_M_same_1, u_M_same_4, u_M_same_7, u_M_same_8, u_M_same_11, u_M_same_14, u_M_same_15, ne_eq, not_false_eq_true, not_true_eq_false, true_and, and_true, true_or, or_true, eq_self, Option.toList_some, Option.toList_none, List.cons_append, List.nil_append, tc_0, tc_I, tc_L, tc_A, Nat.reduceAdd, Nat.reduceLeDiff, Nat.reduceEqDiff, Int.reduceEq, Int.reduceLT, Int.reduceLE, Int.reduceNeg, Int.reduceToNat, Int.cast_ofNat_Int, if_true, if_false, and_self, or_self, ite_self, bI_0, bI_1, bI_01, Bool.false_eq_true, reduceCtorEq, s_M_isRoutine, h1, decide_false, bB_f]
end
