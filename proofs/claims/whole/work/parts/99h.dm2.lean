/-! Doing a step, the reference: let, unlet, push, pop -/
def FZ (g g' : Mem) : Prop := ∀ b j, ¬ ((174 ≤ b ∧ b ≤ 181) ∨ (b = 156 ∧ (j = 35 ∨ (44 ≤ j ∧ j ≤ 53)))) → g' b j = g b j
theorem FZ_Y {g g' : Mem} (h : FY g g') : FZ g g' := fun b j hh => h b j (by omega)
theorem FZ_tr {f f1 f2 : Mem} (h : FZ f f1) (h' : FZ f1 f2) : FZ f f2 := fun b j hh => (h' b j hh).trans (h b j hh)
theorem FZ_m {g : Mem} {b j : Nat} {v : Int} (h : (174 ≤ b ∧ b ≤ 181) ∨ (b = 156 ∧ (j = 35 ∨ (44 ≤ j ∧ j ≤ 53)))) : FZ g (mset g b j v) := fun b' j' hh => by rw [rd, if_neg (by omega)]
section
variable {L d r len c q k s : Nat} {F f f' t g : Mem} {T : Int → Int} {Q : Option TV → Wd → Prop} {TH : Nat} {o b j n code : Int}
theorem bit_nm (hS : RSt f g TH) (hk : k < 26) : TH.testBit k = decide (f 20 k = 1) := by
  rcases hS.nm k hk with x | x
  · rw [x.2, x.1]; rfl
  · rw [x.2.1, x.1]; rfl
theorem RT_s0 (hR : RT g r T len) : RT (sn0 g) r T len := RT_fr2 hR (fun c k h1 h2 => FY_0 c k (by omega))
/-- where the step's subject stands -/
theorem ix_o (hr : r < 10) (hq : q < 40) (ho : g 168 (40 * r + q) = o) : 0 ≤ (40 * (r : Int) + q) ∧ (40 * (r : Int) + q) < 400 ∧ sn0 g 168 (40 * (r : Int) + q).toNat = o := by
  refine ⟨by omega, by omega, ?_⟩
  rw [show (40 * (r : Int) + q).toNat = 40 * r + q by omega, FY_0 168 _ (by omega)]; exact ho
theorem ix_e (hr : r < 10) (hq : q < 40) (ho : g 169 (40 * r + q) = b) : sn0 g 169 (40 * (r : Int) + q).toNat = b := by
  rw [show (40 * (r : Int) + q).toNat = 40 * r + q by omega, FY_0 169 _ (by omega)]; exact ho
theorem p_M_doLet (hR : RT g r T len) (hS : RSt f g TH) (hq : q < 40) (ho : g 168 (40 * r + q) = o) (he9 : g 169 (40 * r + q) = b) (ho0 : 0 ≤ o) (hn : T o = n) (hkn : kName n = true) (hk : k = (n - 97).toNat) (e : EE c) (he : wX e) (hb : 0 ≤ b) (hK : ¬ kEnd (T (b - 1)) = true) (hs : seg T b j (kX e)) (hj : T j = 59) (hSt : if f 20 k = 1 then code = 14 ∧ FX f f' else match vE (vF (envC f brN) c) e with
    | .error w => code = w ∧ ¬ w = 0 ∧ FX f f'
    | .ok (v, _) => code = 0 ∧ FX (bgN f k (w32 v)) f') (hQ : ∀ g' TH', FZ g g' → RSt f' g' TH' → Q (some (tI code)) (WW F t g')) : VV L (d + 3 * c + 7) m_M_doLet 0 [some (tA 156), some (tI r), some (tI (40 * (r : Int) + q)), none, none, none] [] (WW F t (sn0 g)) Q := by
  have hr := hR.r10
  have hl1 := hR.l1
  have hb2 : 97 ≤ n ∧ n ≤ 122 := by unfold kName at hkn; simpa using hkn
  have hk26 : k < 26 := by omega
  have hlt := T_in hR (show ¬ T o = 0 by omega)
  obtain ⟨i1, i2, i3⟩ := ix_o hr hq ho
  have i4 := ix_e hr hq he9
  obtain ⟨x1, x2, x3, x4, x5, x6⟩ := (RT_s0 hR).ix ho0 hlt
  have hw : whc (T o) = (k : Int) := by rw [hn, (srt_name hkn).2]; omega
  rw [hw] at x6
  have e35 : sn0 g 156 35 = (TH : Int) := by rw [FY_0 156 35 (by omega)]; exact hS.th
  have hbit : o32 (fun x y => x &&& y) (o32 (fun x y => x >>> (y &&& 31)) (TH : Int) (k : Int)) 1 = bB (TH.testBit k) := o32_bit (by have := hS.tl; omega) (by omega)
  rw [bit_nm hS hk26] at hbit
  by_cases h1 : f 20 k = 1
  · rw [if_pos h1] at hSt
    simp only [u_M_doLet_0, u_M_doLet_1, u_M_doLet_4, u_M_doLet_7, u_M_doLet_8, u_M_doLet_9, u_M_doLet_10, u_M_doLet_13, u_M_doLet_14, u_M_doLet_15, u_M_doLet_16, u_M_doLet_17, u_M_doLet_18, u_M_doLet_19, u_M_doLet_22, u_M_doLet_23, u_M_doLet_24, u_M_doLet_25, u_M_doLet_26, u_M_doLet_27, u_M_doLet_30, u_M_doLet_32, h1_156, gt_156_26, gt_156_29, gt_156_35, h1_165, h2_165, gt_165, pt_165, h1_168, h2_168, gt_168, pt_168, ne_eq, not_false_eq_true, not_true_eq_false, true_and, and_true, true_or, or_true, eq_self, Option.toList_some, Option.toList_none, List.cons_append, List.nil_append, tc_0, tc_I, tc_L, tc_A, Nat.reduceAdd, Nat.reduceLeDiff, Nat.reduceEqDiff, Int.reduceEq, Int.reduceLT, Int.reduceLE, Int.reduceNeg, Int.reduceToNat, Int.cast_ofNat_Int, if_true, if_false, and_self, or_self, ite_self, bI_0, bI_1, bI_01, Bool.false_eq_true, reduceCtorEq, i1, i2, i3, x1, x2, x3, x4, x6, e35, hbit, h1, decide_true, bB_t]
    rw [← hSt.1]
    exact hQ _ TH (FZ_Y FY_0) (RSt_fr hS hSt.2 FY_0)
  · rw [if_neg h1] at hSt
    simp only [u_M_doLet_0, u_M_doLet_1, u_M_doLet_4, u_M_doLet_7, u_M_doLet_8, u_M_doLet_9, u_M_doLet_10, u_M_doLet_13, u_M_doLet_14, u_M_doLet_15, u_M_doLet_16, u_M_doLet_17, u_M_doLet_18, u_M_doLet_19, u_M_doLet_22, u_M_doLet_23, u_M_doLet_24, u_M_doLet_25, u_M_doLet_26, u_M_doLet_27, u_M_doLet_30, u_M_doLet_32, u_M_doLet_33, u_M_doLet_34, u_M_doLet_35, u_M_doLet_36, u_M_doLet_39, u_M_doLet_40, u_M_doLet_41, h1_156, gt_156_26, gt_156_29, gt_156_30, gt_156_35, h1_165, h2_165, gt_165, pt_165, h1_168, h2_168, gt_168, pt_168, h1_169, h2_169, gt_169, pt_169, ne_eq, not_false_eq_true, not_true_eq_false, true_and, and_true, true_or, or_true, eq_self, Option.toList_some, Option.toList_none, List.cons_append, List.nil_append, tc_0, tc_I, tc_L, tc_A, Nat.reduceAdd, Nat.reduceLeDiff, Nat.reduceEqDiff, Int.reduceEq, Int.reduceLT, Int.reduceLE, Int.reduceNeg, Int.reduceToNat, Int.cast_ofNat_Int, if_true, if_false, and_self, or_self, ite_self, bI_0, bI_1, bI_01, Bool.false_eq_true, reduceCtorEq, i1, i2, i3, i4, x1, x2, x3, x4, x6, e35, hbit, h1, decide_false, bB_f]
    refine p_M_reckon (D := d + 3 * c + 3) (by omega) e he (RT_s0 hR) (EnM_0 hS) WM_0 hb hK hs (by rw [hj]; decide) (by rw [hj]; decide) ?_
    cases hv : vE (vF (envC f brN) c) e with
    | error w =>
      rw [hv] at hSt
      intro g1 u a1 a2 a3
      simp only [u_M_doLet_44, u_M_doLet_46, u_M_doLet_47, u_M_doLet_50, u_M_doLet_53, u_M_doLet_54, u_M_doLet_55, u_M_doLet_58, u_M_doLet_59, u_M_doLet_60, u_M_doLet_61, u_M_doLet_62, u_M_doLet_65, u_M_doLet_66, u_M_doLet_69, u_M_doLet_70, u_M_doLet_72, u_M_doLet_73, u_M_doLet_74, u_M_doLet_75, u_M_doLet_78, h1_156, gt_156_46, ne_eq, not_false_eq_true, not_true_eq_false, true_and, and_true, true_or, or_true, eq_self, Option.toList_some, Option.toList_none, List.cons_append, List.nil_append, tc_0, tc_I, tc_L, tc_A, Nat.reduceAdd, Nat.reduceLeDiff, Nat.reduceEqDiff, Int.reduceEq, Int.reduceLT, Int.reduceLE, Int.reduceNeg, Int.reduceToNat, Int.cast_ofNat_Int, if_true, if_false, and_self, or_self, ite_self, bI_0, bI_1, bI_01, Bool.false_eq_true, reduceCtorEq, a2, a3]
      rw [← hSt.1]
      have hy := FY_tr FY_0 (FY_5 a1)
      exact hQ _ TH (FZ_Y hy) (RSt_fr hS hSt.2.2 hy)
    | ok z =>
      obtain ⟨v, q'⟩ := z
      rw [hv] at hSt
      obtain ⟨hc0, hfx⟩ := hSt
      intro g1 a1 a2 a3
      have hy := FY_tr FY_0 (FY_5 a1)
      have f35 : g1 156 35 = (TH : Int) := by rw [hy 156 35 (by omega)]; exact hS.th
      have f46 : (mset (mset g1 156 35 ((TH ||| 2 ^ k : Nat) : Int)) 174 k (w32 v)) 156 46 = 0 := by rw [rd, if_neg (by omega), rd, if_neg (by omega)]; exact a2
      simp only [u_M_doLet_44, u_M_doLet_46, u_M_doLet_47, u_M_doLet_50, u_M_doLet_53, u_M_doLet_54, u_M_doLet_55, u_M_doLet_58, u_M_doLet_59, u_M_doLet_60, u_M_doLet_61, u_M_doLet_62, u_M_doLet_65, u_M_doLet_66, u_M_doLet_69, u_M_doLet_70, u_M_doLet_72, u_M_doLet_73, u_M_doLet_74, u_M_doLet_75, u_M_doLet_78, h1_156, gt_156_46, gt_156_35, pt_156_35, gt_156_36, h1_174, h2_174, gt_174, pt_174, ne_eq, not_false_eq_true, not_true_eq_false, true_and, and_true, true_or, or_true, eq_self, Option.toList_some, Option.toList_none, List.cons_append, List.nil_append, tc_0, tc_I, tc_L, tc_A, Nat.reduceAdd, Nat.reduceLeDiff, Nat.reduceEqDiff, Int.reduceEq, Int.reduceLT, Int.reduceLE, Int.reduceNeg, Int.reduceToNat, Int.cast_ofNat_Int, if_true, if_false, and_self, or_self, ite_self, bI_0, bI_1, bI_01, Bool.false_eq_true, reduceCtorEq, a2, f35, o32_shl1 (show k < 31 by omega), o32_or (show TH < 2147483648 by have := hS.tl; omega) (p2_31 (show k < 31 by omega)), show 0 ≤ (k : Int) by omega, show (k : Int) < 26 by omega, Int.toNat_natCast, f46]
      subst hc0
      refine hQ _ (TH ||| 2 ^ k) (FZ_tr (FZ_Y hy) (FZ_tr (FZ_m (by omega)) (FZ_m (by omega)))) (RSt_fr (RSt_bring (v := w32 v) hS hk26) hfx (fun b j hh => ?_))
      simp only [rd]
      rw [hy b j hh]
theorem p_M_doUnlet (hR : RT g r T len) (hS : RSt f g TH) (hq : q < 40) (ho : g 168 (40 * r + q) = o) (he9 : g 169 (40 * r + q) = b) (ho0 : 0 ≤ o) (hn : T o = n) (hkn : kName n = true) (hk : k = (n - 97).toNat) (e : EE c) (he : wX e) (hb : 0 ≤ b) (hK : ¬ kEnd (T (b - 1)) = true) (hs : seg T b j (kX e)) (hj : T j = 59) (hSt : if f 20 k = 1 then (match vE (vF (envC f brN) c) e with
    | .error w => code = w ∧ ¬ w = 0 ∧ FX f f'
    | .ok (v, _) => if f 21 k = w32 v then code = 0 ∧ FX (mset f 20 k 0) f' else code = 8 ∧ FX f f') else code = 1 ∧ FX f f') (hQ : ∀ g' TH', FZ g g' → RSt f' g' TH' → Q (some (tI code)) (WW F t g')) : VV L (d + 3 * c + 7) m_M_doUnlet 0 [some (tA 156), some (tI r), some (tI (40 * (r : Int) + q)), none, none, none] [] (WW F t (sn0 g)) Q := by
  have hr := hR.r10
  have hl1 := hR.l1
  have hb2 : 97 ≤ n ∧ n ≤ 122 := by unfold kName at hkn; simpa using hkn
  have hk26 : k < 26 := by omega
  have hlt := T_in hR (show ¬ T o = 0 by omega)
  obtain ⟨i1, i2, i3⟩ := ix_o hr hq ho
  have i4 := ix_e hr hq he9
  obtain ⟨x1, x2, x3, x4, x5, x6⟩ := (RT_s0 hR).ix ho0 hlt
  have hw : whc (T o) = (k : Int) := by rw [hn, (srt_name hkn).2]; omega
  rw [hw] at x6
  have e35 : sn0 g 156 35 = (TH : Int) := by rw [FY_0 156 35 (by omega)]; exact hS.th
  have hbit : o32 (fun x y => x &&& y) (o32 (fun x y => x >>> (y &&& 31)) (TH : Int) (k : Int)) 1 = bB (TH.testBit k) := o32_bit (by have := hS.tl; omega) (by omega)
  rw [bit_nm hS hk26] at hbit
  by_cases h1 : f 20 k = 1
  · rw [if_pos h1] at hSt
    simp only [u_M_doUnlet_0, u_M_doUnlet_1, u_M_doUnlet_4, u_M_doUnlet_7, u_M_doUnlet_8, u_M_doUnlet_9, u_M_doUnlet_10, u_M_doUnlet_13, u_M_doUnlet_14, u_M_doUnlet_15, u_M_doUnlet_16, u_M_doUnlet_17, u_M_doUnlet_18, u_M_doUnlet_19, u_M_doUnlet_22, u_M_doUnlet_23, u_M_doUnlet_24, u_M_doUnlet_25, u_M_doUnlet_26, u_M_doUnlet_29, u_M_doUnlet_30, u_M_doUnlet_31, u_M_doUnlet_32, u_M_doUnlet_33, u_M_doUnlet_34, u_M_doUnlet_37, u_M_doUnlet_38, u_M_doUnlet_39, h1_156, gt_156_26, gt_156_29, gt_156_30, gt_156_35, h1_165, h2_165, gt_165, pt_165, h1_168, h2_168, gt_168, pt_168, h1_169, h2_169, gt_169, pt_169, ne_eq, not_false_eq_true, not_true_eq_false, true_and, and_true, true_or, or_true, eq_self, Option.toList_some, Option.toList_none, List.cons_append, List.nil_append, tc_0, tc_I, tc_L, tc_A, Nat.reduceAdd, Nat.reduceLeDiff, Nat.reduceEqDiff, Int.reduceEq, Int.reduceLT, Int.reduceLE, Int.reduceNeg, Int.reduceToNat, Int.cast_ofNat_Int, if_true, if_false, and_self, or_self, ite_self, bI_0, bI_1, bI_01, Bool.false_eq_true, reduceCtorEq, i1, i2, i3, i4, x1, x2, x3, x4, x6, e35, hbit, h1, decide_true, bB_t]
    refine p_M_reckon (D := d + 3 * c + 3) (by omega) e he (RT_s0 hR) (EnM_0 hS) WM_0 hb hK hs (by rw [hj]; decide) (by rw [hj]; decide) ?_
    cases hv : vE (vF (envC f brN) c) e with
    | error w =>
      rw [hv] at hSt
      intro g1 u a1 a2 a3
      simp only [u_M_doUnlet_42, u_M_doUnlet_44, u_M_doUnlet_45, u_M_doUnlet_48, u_M_doUnlet_51, u_M_doUnlet_52, u_M_doUnlet_55, h1_156, gt_156_46, ne_eq, not_false_eq_true, not_true_eq_false, true_and, and_true, true_or, or_true, eq_self, Option.toList_some, Option.toList_none, List.cons_append, List.nil_append, tc_0, tc_I, tc_L, tc_A, Nat.reduceAdd, Nat.reduceLeDiff, Nat.reduceEqDiff, Int.reduceEq, Int.reduceLT, Int.reduceLE, Int.reduceNeg, Int.reduceToNat, Int.cast_ofNat_Int, if_true, if_false, and_self, or_self, ite_self, bI_0, bI_1, bI_01, Bool.false_eq_true, reduceCtorEq, a2, a3]
      rw [← hSt.1]
      have hy := FY_tr FY_0 (FY_5 a1)
      exact hQ _ TH (FZ_Y hy) (RSt_fr hS hSt.2.2 hy)
    | ok z =>
      obtain ⟨v, q'⟩ := z
      rw [hv] at hSt
      dsimp only at hSt
      intro g1 a1 a2 a3
      have hy := FY_tr FY_0 (FY_5 a1)
      have f35 : g1 156 35 = (TH : Int) := by rw [hy 156 35 (by omega)]; exact hS.th
      have f174 : g1 174 k = f 21 k := by
        rw [hy 174 k (by omega)]
        rcases hS.nm k hk26 with x | x
        · omega
        · exact x.2.2.symm
      by_cases h2 : f 21 k = w32 v
      · rw [if_pos h2] at hSt
        obtain ⟨hc0, hfx⟩ := hSt
        simp only [u_M_doUnlet_42, u_M_doUnlet_44, u_M_doUnlet_45, u_M_doUnlet_48, u_M_doUnlet_51, u_M_doUnlet_52, u_M_doUnlet_55, u_M_doUnlet_56, u_M_doUnlet_57, u_M_doUnlet_60, u_M_doUnlet_61, u_M_doUnlet_62, u_M_doUnlet_64, u_M_doUnlet_65, u_M_doUnlet_68, u_M_doUnlet_70, u_M_doUnlet_71, u_M_doUnlet_72, u_M_doUnlet_73, u_M_doUnlet_76, u_M_doUnlet_77, u_M_doUnlet_78, u_M_doUnlet_79, u_M_doUnlet_80, u_M_doUnlet_81, u_M_doUnlet_82, u_M_doUnlet_85, u_M_doUnlet_86, u_M_doUnlet_89, u_M_doUnlet_90, u_M_doUnlet_91, u_M_doUnlet_92, u_M_doUnlet_93, h1_156, gt_156_46, gt_156_35, pt_156_35, gt_156_36, h1_174, h2_174, gt_174, pt_174, ne_eq, not_false_eq_true, not_true_eq_false, true_and, and_true, true_or, or_true, eq_self, Option.toList_some, Option.toList_none, List.cons_append, List.nil_append, tc_0, tc_I, tc_L, tc_A, Nat.reduceAdd, Nat.reduceLeDiff, Nat.reduceEqDiff, Int.reduceEq, Int.reduceLT, Int.reduceLE, Int.reduceNeg, Int.reduceToNat, Int.cast_ofNat_Int, if_true, if_false, and_self, or_self, ite_self, bI_0, bI_1, bI_01, Bool.false_eq_true, reduceCtorEq, a2, f35, f174, h2, clr_bit hS.tl hk26, show 0 ≤ (k : Int) by omega, show (k : Int) < 26 by omega, Int.toNat_natCast]
        subst hc0
        refine hQ _ (TH &&& (2 ^ k ^^^ 4294967295)) (FZ_tr (FZ_Y hy) (FZ_tr (FZ_m (by omega)) (FZ_m (by omega)))) (RSt_fr (RSt_remove (v := 0) hS hk26) hfx (fun b j hh => ?_))
        simp only [rd]
        rw [hy b j hh]
      · rw [if_neg h2] at hSt
        simp only [u_M_doUnlet_42, u_M_doUnlet_44, u_M_doUnlet_45, u_M_doUnlet_48, u_M_doUnlet_51, u_M_doUnlet_52, u_M_doUnlet_55, u_M_doUnlet_56, u_M_doUnlet_57, u_M_doUnlet_60, u_M_doUnlet_61, u_M_doUnlet_62, u_M_doUnlet_64, u_M_doUnlet_65, u_M_doUnlet_68, u_M_doUnlet_70, h1_156, gt_156_46, gt_156_36, h1_174, h2_174, gt_174, pt_174, ne_eq, not_false_eq_true, not_true_eq_false, true_and, and_true, true_or, or_true, eq_self, Option.toList_some, Option.toList_none, List.cons_append, List.nil_append, tc_0, tc_I, tc_L, tc_A, Nat.reduceAdd, Nat.reduceLeDiff, Nat.reduceEqDiff, Int.reduceEq, Int.reduceLT, Int.reduceLE, Int.reduceNeg, Int.reduceToNat, Int.cast_ofNat_Int, if_true, if_false, and_self, or_self, ite_self, bI_0, bI_1, bI_01, Bool.false_eq_true, reduceCtorEq, a2, f174, h2, show 0 ≤ (k : Int) by omega, show (k : Int) < 26 by omega, Int.toNat_natCast]
        rw [← hSt.1]
        exact hQ _ TH (FZ_Y hy) (RSt_fr hS hSt.2 hy)
  · rw [if_neg h1] at hSt
    simp only [u_M_doUnlet_0, u_M_doUnlet_1, u_M_doUnlet_4, u_M_doUnlet_7, u_M_doUnlet_8, u_M_doUnlet_9, u_M_doUnlet_10, u_M_doUnlet_13, u_M_doUnlet_14, u_M_doUnlet_15, u_M_doUnlet_16, u_M_doUnlet_17, u_M_doUnlet_18, u_M_doUnlet_19, u_M_doUnlet_22, u_M_doUnlet_23, u_M_doUnlet_24, u_M_doUnlet_25, u_M_doUnlet_26, u_M_doUnlet_29, u_M_doUnlet_30, h1_156, gt_156_26, gt_156_29, gt_156_35, h1_165, h2_165, gt_165, pt_165, h1_168, h2_168, gt_168, pt_168, ne_eq, not_false_eq_true, not_true_eq_false, true_and, and_true, true_or, or_true, eq_self, Option.toList_some, Option.toList_none, List.cons_append, List.nil_append, tc_0, tc_I, tc_L, tc_A, Nat.reduceAdd, Nat.reduceLeDiff, Nat.reduceEqDiff, Int.reduceEq, Int.reduceLT, Int.reduceLE, Int.reduceNeg, Int.reduceToNat, Int.cast_ofNat_Int, if_true, if_false, and_self, or_self, ite_self, bI_0, bI_1, bI_01, Bool.false_eq_true, reduceCtorEq, i1, i2, i3, x1, x2, x3, x4, x6, e35, hbit, h1, decide_false, bB_f]
    rw [← hSt.1]
    exact hQ _ TH (FZ_Y FY_0) (RSt_fr hS hSt.2 FY_0)
theorem p_M_doPush {z : Int} (hR : RT g r T len) (hS : RSt f g TH) (hq : q < 40) (ho : g 168 (40 * r + q) = o) (ho0 : 0 ≤ o) (hn : T o = n) (hkn : kName n = true) (hk : k = (n - 97).toNat) (hz : T (o + 1) = z) (hkz : kStk z = true) (hsz : s = (z - 83).toNat) (hSt : if f 20 k = 1 then (if f 27 s = 30 then code = 9 ∧ FX f f' else code = 0 ∧ FX (puC f k s) f') else code = 1 ∧ FX f f') (hQ : ∀ g' TH', FZ g g' → RSt f' g' TH' → Q (some (tI code)) (WW F t g')) : VV L d m_M_doPush 0 [some (tA 156), some (tI r), some (tI (40 * (r : Int) + q)), none, none] [] (WW F t (sn0 g)) Q := by
  have hr := hR.r10
  have hl1 := hR.l1
  have hb2 : 97 ≤ n ∧ n ≤ 122 := by unfold kName at hkn; simpa using hkn
  have hz2 : 83 ≤ z ∧ z ≤ 86 := by unfold kStk at hkz; simpa using hkz
  have hk26 : k < 26 := by omega
  have hs4 : s < 4 := by omega
  have hlt := T_in hR (show ¬ T o = 0 by omega)
  have hlt2 := T_in hR (show ¬ T (o + 1) = 0 by omega)
  obtain ⟨i1, i2, i3⟩ := ix_o hr hq ho
  obtain ⟨x1, x2, x3, x4, x5, x6⟩ := (RT_s0 hR).ix ho0 hlt
  obtain ⟨_, y2, y3, y4, y5, y6⟩ := (RT_s0 hR).ix (show 0 ≤ o + 1 by omega) hlt2
  rw [← Int.add_assoc] at y2 y3 y4 y5 y6
  have hw : whc (T o) = (k : Int) := by rw [hn, (srt_name hkn).2]; omega
  rw [hw] at x6
  have hwz : whc (T (o + 1)) = (s : Int) := by
    rw [hz]; unfold whc kName kRow kStk; simp; omega
  rw [hwz] at y6
  have e35 : sn0 g 156 35 = (TH : Int) := by rw [FY_0 156 35 (by omega)]; exact hS.th
  have e179 : sn0 g 179 s = g 179 s := FY_0 179 s (by omega)
  have e174 : sn0 g 174 k = g 174 k := FY_0 174 k (by omega)
  have hbit : o32 (fun x y => x &&& y) (o32 (fun x y => x >>> (y &&& 31)) (TH : Int) (k : Int)) 1 = bB (TH.testBit k) := o32_bit (by have := hS.tl; omega) (by omega)
  rw [bit_nm hS hk26] at hbit
  have hh := hS.hg s hs4
  by_cases h1 : f 20 k = 1
  · rw [if_pos h1] at hSt
    by_cases h2 : f 27 s = 30
    · rw [if_pos h2] at hSt
      have g30 : g 179 s = 30 := by omega
      simp only [u_M_doPush_0, u_M_doPush_1, u_M_doPush_4, u_M_doPush_7, u_M_doPush_8, u_M_doPush_9, u_M_doPush_10, u_M_doPush_13, u_M_doPush_14, u_M_doPush_15, u_M_doPush_16, u_M_doPush_17, u_M_doPush_18, u_M_doPush_19, u_M_doPush_22, u_M_doPush_25, u_M_doPush_26, u_M_doPush_27, u_M_doPush_28, u_M_doPush_31, u_M_doPush_32, u_M_doPush_33, u_M_doPush_34, u_M_doPush_35, u_M_doPush_36, u_M_doPush_37, u_M_doPush_39, u_M_doPush_40, u_M_doPush_43, u_M_doPush_44, u_M_doPush_45, u_M_doPush_46, u_M_doPush_47, u_M_doPush_50, u_M_doPush_51, u_M_doPush_52, u_M_doPush_53, u_M_doPush_56, u_M_doPush_58, u_M_doPush_59, u_M_doPush_61, u_M_doPush_64, u_M_doPush_66, h1_156, gt_156_26, gt_156_29, gt_156_35, gt_156_42, h1_165, h2_165, gt_165, pt_165, h1_168, h2_168, gt_168, pt_168, h1_179, h2_179, gt_179, pt_179, ne_eq, not_false_eq_true, not_true_eq_false, true_and, and_true, true_or, or_true, eq_self, Option.toList_some, Option.toList_none, List.cons_append, List.nil_append, tc_0, tc_I, tc_L, tc_A, Nat.reduceAdd, Nat.reduceLeDiff, Nat.reduceEqDiff, Int.reduceEq, Int.reduceLT, Int.reduceLE, Int.reduceNeg, Int.reduceToNat, Int.cast_ofNat_Int, if_true, if_false, and_self, or_self, ite_self, bI_0, bI_1, bI_01, Bool.false_eq_true, reduceCtorEq, i1, i2, i3, x1, x2, x3, x4, x6, y2, y3, y4, y6, e35, hbit, h1, decide_true, bB_t, show 0 ≤ (s : Int) by omega, show (s : Int) < 4 by omega, Int.toNat_natCast, e179, g30]
      rw [← hSt.1]
      exact hQ _ TH (FZ_Y FY_0) (RSt_fr hS hSt.2 FY_0)
    · rw [if_neg h2] at hSt
      have g30 : ¬ g 179 s = 30 := by omega
      have w1 : w32 (30 * (s : Int)) = 30 * s := w32_id (by omega) (by omega)
      have w2 : w32 (30 * (s : Int) + g 179 s) = 30 * s + g 179 s := w32_id (by omega) (by omega)
      have w3 : w32 (g 179 s + 1) = g 179 s + 1 := w32_id (by omega) (by omega)
      have e3 : (30 * (s : Int) + g 179 s).toNat = 30 * s + (g 179 s).toNat := by omega
      simp only [u_M_doPush_0, u_M_doPush_1, u_M_doPush_4, u_M_doPush_7, u_M_doPush_8, u_M_doPush_9, u_M_doPush_10, u_M_doPush_13, u_M_doPush_14, u_M_doPush_15, u_M_doPush_16, u_M_doPush_17, u_M_doPush_18, u_M_doPush_19, u_M_doPush_22, u_M_doPush_25, u_M_doPush_26, u_M_doPush_27, u_M_doPush_28, u_M_doPush_31, u_M_doPush_32, u_M_doPush_33, u_M_doPush_34, u_M_doPush_35, u_M_doPush_36, u_M_doPush_37, u_M_doPush_39, u_M_doPush_40, u_M_doPush_43, u_M_doPush_44, u_M_doPush_45, u_M_doPush_46, u_M_doPush_47, u_M_doPush_50, u_M_doPush_51, u_M_doPush_52, u_M_doPush_53, u_M_doPush_56, u_M_doPush_58, u_M_doPush_59, u_M_doPush_61, u_M_doPush_64, u_M_doPush_66, u_M_doPush_67, u_M_doPush_68, u_M_doPush_71, u_M_doPush_73, u_M_doPush_75, u_M_doPush_76, u_M_doPush_77, u_M_doPush_80, u_M_doPush_82, u_M_doPush_83, u_M_doPush_84, u_M_doPush_85, u_M_doPush_88, u_M_doPush_89, u_M_doPush_90, u_M_doPush_91, u_M_doPush_92, u_M_doPush_95, u_M_doPush_97, u_M_doPush_98, u_M_doPush_99, u_M_doPush_100, u_M_doPush_101, u_M_doPush_102, u_M_doPush_103, u_M_doPush_106, u_M_doPush_107, u_M_doPush_108, u_M_doPush_109, u_M_doPush_110, h1_156, gt_156_26, gt_156_29, gt_156_35, gt_156_42, gt_156_43, gt_156_36, h1_165, h2_165, gt_165, pt_165, h1_168, h2_168, gt_168, pt_168, h1_179, h2_179, gt_179, pt_179, h1_180, h2_180, gt_180, pt_180, h1_174, h2_174, gt_174, pt_174, ne_eq, not_false_eq_true, not_true_eq_false, true_and, and_true, true_or, or_true, eq_self, Option.toList_some, Option.toList_none, List.cons_append, List.nil_append, tc_0, tc_I, tc_L, tc_A, Nat.reduceAdd, Nat.reduceLeDiff, Nat.reduceEqDiff, Int.reduceEq, Int.reduceLT, Int.reduceLE, Int.reduceNeg, Int.reduceToNat, Int.cast_ofNat_Int, if_true, if_false, and_self, or_self, ite_self, bI_0, bI_1, bI_01, Bool.false_eq_true, reduceCtorEq, i1, i2, i3, x1, x2, x3, x4, x6, y2, y3, y4, y6, e35, hbit, h1, decide_true, bB_t, show 0 ≤ (s : Int) by omega, show (s : Int) < 4 by omega, show 0 ≤ (k : Int) by omega, show (k : Int) < 26 by omega, Int.toNat_natCast, e179, e174, g30, w1, w2, w3, e3, show 0 ≤ 30 * (s : Int) + g 179 s by omega, show 30 * (s : Int) + g 179 s < 120 by omega, rd, false_and]
      obtain ⟨hc0, hfx⟩ := hSt
      subst hc0
      refine hQ _ TH (FZ_tr (FZ_Y FY_0) (FZ_tr (FZ_m (by omega)) (FZ_tr (FZ_m (by omega)) (FZ_m (by omega))))) (RSt_fr (RSt_push hS hk26 hs4 h1 h2) hfx (fun b j hh => ?_))
      unfold puM
      simp only [rd]
      rw [FY_0 b j hh]
  · rw [if_neg h1] at hSt
    simp only [u_M_doPush_0, u_M_doPush_1, u_M_doPush_4, u_M_doPush_7, u_M_doPush_8, u_M_doPush_9, u_M_doPush_10, u_M_doPush_13, u_M_doPush_14, u_M_doPush_15, u_M_doPush_16, u_M_doPush_17, u_M_doPush_18, u_M_doPush_19, u_M_doPush_22, u_M_doPush_25, u_M_doPush_26, u_M_doPush_27, u_M_doPush_28, u_M_doPush_31, u_M_doPush_32, u_M_doPush_33, u_M_doPush_34, u_M_doPush_35, u_M_doPush_36, u_M_doPush_37, u_M_doPush_39, u_M_doPush_40, u_M_doPush_43, u_M_doPush_44, u_M_doPush_45, u_M_doPush_46, u_M_doPush_47, u_M_doPush_50, u_M_doPush_51, h1_156, gt_156_26, gt_156_29, gt_156_35, h1_165, h2_165, gt_165, pt_165, h1_168, h2_168, gt_168, pt_168, ne_eq, not_false_eq_true, not_true_eq_false, true_and, and_true, true_or, or_true, eq_self, Option.toList_some, Option.toList_none, List.cons_append, List.nil_append, tc_0, tc_I, tc_L, tc_A, Nat.reduceAdd, Nat.reduceLeDiff, Nat.reduceEqDiff, Int.reduceEq, Int.reduceLT, Int.reduceLE, Int.reduceNeg, Int.reduceToNat, Int.cast_ofNat_Int, if_true, if_false, and_self, or_self, ite_self, bI_0, bI_1, bI_01, Bool.false_eq_true, reduceCtorEq, i1, i2, i3, x1, x2, x3, x4, x6, y2, y3, y4, y6, e35, hbit, h1, decide_false, bB_f]
    rw [← hSt.1]
    exact hQ _ TH (FZ_Y FY_0) (RSt_fr hS hSt.2 FY_0)
theorem p_M_doPop {z : Int} (hR : RT g r T len) (hS : RSt f g TH) (hq : q < 40) (ho : g 168 (40 * r + q) = o) (ho0 : 0 ≤ o) (hn : T o = n) (hkn : kName n = true) (hk : k = (n - 97).toNat) (hz : T (o + 1) = z) (hkz : kStk z = true) (hsz : s = (z - 83).toNat) (hSt : if f 20 k = 1 then (if f 21 k = 0 then (if f 27 s = 0 then code = 5 ∧ FX f f' else code = 0 ∧ FX (poC f k s) f') else code = 8 ∧ FX f f') else code = 1 ∧ FX f f') (hQ : ∀ g' TH', FZ g g' → RSt f' g' TH' → Q (some (tI code)) (WW F t g')) : VV L d m_M_doPop 0 [some (tA 156), some (tI r), some (tI (40 * (r : Int) + q)), none, none] [] (WW F t (sn0 g)) Q := by
  have hr := hR.r10
  have hl1 := hR.l1
  have hb2 : 97 ≤ n ∧ n ≤ 122 := by unfold kName at hkn; simpa using hkn
  have hz2 : 83 ≤ z ∧ z ≤ 86 := by unfold kStk at hkz; simpa using hkz
  have hk26 : k < 26 := by omega
  have hs4 : s < 4 := by omega
  have hlt := T_in hR (show ¬ T o = 0 by omega)
  have hlt2 := T_in hR (show ¬ T (o + 1) = 0 by omega)
  obtain ⟨i1, i2, i3⟩ := ix_o hr hq ho
  obtain ⟨x1, x2, x3, x4, x5, x6⟩ := (RT_s0 hR).ix ho0 hlt
  obtain ⟨_, y2, y3, y4, y5, y6⟩ := (RT_s0 hR).ix (show 0 ≤ o + 1 by omega) hlt2
  rw [← Int.add_assoc] at y2 y3 y4 y5 y6
  have hw : whc (T o) = (k : Int) := by rw [hn, (srt_name hkn).2]; omega
  rw [hw] at x6
  have hwz : whc (T (o + 1)) = (s : Int) := by
    rw [hz]; unfold whc kName kRow kStk; simp; omega
  rw [hwz] at y6
  have e35 : sn0 g 156 35 = (TH : Int) := by rw [FY_0 156 35 (by omega)]; exact hS.th
  have e179 : sn0 g 179 s = g 179 s := FY_0 179 s (by omega)
  have e174 : sn0 g 174 k = g 174 k := FY_0 174 k (by omega)
  have hbit : o32 (fun x y => x &&& y) (o32 (fun x y => x >>> (y &&& 31)) (TH : Int) (k : Int)) 1 = bB (TH.testBit k) := o32_bit (by have := hS.tl; omega) (by omega)
  rw [bit_nm hS hk26] at hbit
  have hh := hS.hg s hs4
  by_cases h1 : f 20 k = 1
  · rw [if_pos h1] at hSt
    have hv : f 21 k = g 174 k := by
      rcases hS.nm k hk26 with x | x
      · omega
      · exact x.2.2
    by_cases h3 : f 21 k = 0
    · rw [if_pos h3] at hSt
      have g0 : g 174 k = 0 := by omega
      by_cases h2 : f 27 s = 0
      · rw [if_pos h2] at hSt
        have g30 : g 179 s = 0 := by omega
        simp only [u_M_doPop_0, u_M_doPop_1, u_M_doPop_4, u_M_doPop_7, u_M_doPop_8, u_M_doPop_9, u_M_doPop_10, u_M_doPop_13, u_M_doPop_14, u_M_doPop_15, u_M_doPop_16, u_M_doPop_17, u_M_doPop_18, u_M_doPop_19, u_M_doPop_22, u_M_doPop_25, u_M_doPop_26, u_M_doPop_27, u_M_doPop_28, u_M_doPop_31, u_M_doPop_32, u_M_doPop_33, u_M_doPop_34, u_M_doPop_35, u_M_doPop_36, u_M_doPop_37, u_M_doPop_39, u_M_doPop_40, u_M_doPop_43, u_M_doPop_44, u_M_doPop_45, u_M_doPop_46, u_M_doPop_47, u_M_doPop_50, u_M_doPop_51, u_M_doPop_52, u_M_doPop_53, u_M_doPop_56, u_M_doPop_57, u_M_doPop_58, u_M_doPop_61, u_M_doPop_63, u_M_doPop_64, u_M_doPop_65, u_M_doPop_68, u_M_doPop_70, u_M_doPop_71, u_M_doPop_74, u_M_doPop_75, h1_156, gt_156_26, gt_156_29, gt_156_35, gt_156_36, gt_156_42, h1_165, h2_165, gt_165, pt_165, h1_168, h2_168, gt_168, pt_168, h1_174, h2_174, gt_174, pt_174, h1_179, h2_179, gt_179, pt_179, ne_eq, not_false_eq_true, not_true_eq_false, true_and, and_true, true_or, or_true, eq_self, Option.toList_some, Option.toList_none, List.cons_append, List.nil_append, tc_0, tc_I, tc_L, tc_A, Nat.reduceAdd, Nat.reduceLeDiff, Nat.reduceEqDiff, Int.reduceEq, Int.reduceLT, Int.reduceLE, Int.reduceNeg, Int.reduceToNat, Int.cast_ofNat_Int, if_true, if_false, and_self, or_self, ite_self, bI_0, bI_1, bI_01, Bool.false_eq_true, reduceCtorEq, i1, i2, i3, x1, x2, x3, x4, x6, y2, y3, y4, y6, e35, hbit, h1, decide_true, bB_t, show 0 ≤ (s : Int) by omega, show (s : Int) < 4 by omega, show 0 ≤ (k : Int) by omega, show (k : Int) < 26 by omega, Int.toNat_natCast, e179, e174, g0, g30]
        rw [← hSt.1]
        exact hQ _ TH (FZ_Y FY_0) (RSt_fr hS hSt.2 FY_0)
      · rw [if_neg h2] at hSt
        have g30 : ¬ g 179 s = 0 := by omega
        have w1 : w32 (30 * (s : Int)) = 30 * s := w32_id (by omega) (by omega)
        have w2 : w32 (30 * (s : Int) + (g 179 s - 1)) = 30 * s + (g 179 s - 1) := w32_id (by omega) (by omega)
        have w3 : w32 (g 179 s - 1) = g 179 s - 1 := w32_id (by omega) (by omega)
        have e3 : (30 * (s : Int) + (g 179 s - 1)).toNat = 30 * s + (g 179 s - 1).toNat := by omega
        have e180 : sn0 g 180 (30 * s + (g 179 s - 1).toNat) = g 180 (30 * s + (g 179 s - 1).toNat) := FY_0 180 _ (by omega)
        have e179' : (mset (sn0 g) 179 s (g 179 s - 1)) 179 s = g 179 s - 1 := by rw [rd, if_pos (by simp)]
        have e180' : (mset (sn0 g) 179 s (g 179 s - 1)) 180 (30 * s + (g 179 s - 1).toNat) = g 180 (30 * s + (g 179 s - 1).toNat) := by rw [rd, if_neg (by omega), e180]
        simp only [u_M_doPop_0, u_M_doPop_1, u_M_doPop_4, u_M_doPop_7, u_M_doPop_8, u_M_doPop_9, u_M_doPop_10, u_M_doPop_13, u_M_doPop_14, u_M_doPop_15, u_M_doPop_16, u_M_doPop_17, u_M_doPop_18, u_M_doPop_19, u_M_doPop_22, u_M_doPop_25, u_M_doPop_26, u_M_doPop_27, u_M_doPop_28, u_M_doPop_31, u_M_doPop_32, u_M_doPop_33, u_M_doPop_34, u_M_doPop_35, u_M_doPop_36, u_M_doPop_37, u_M_doPop_39, u_M_doPop_40, u_M_doPop_43, u_M_doPop_44, u_M_doPop_45, u_M_doPop_46, u_M_doPop_47, u_M_doPop_50, u_M_doPop_51, u_M_doPop_52, u_M_doPop_53, u_M_doPop_56, u_M_doPop_57, u_M_doPop_58, u_M_doPop_61, u_M_doPop_63, u_M_doPop_64, u_M_doPop_65, u_M_doPop_68, u_M_doPop_70, u_M_doPop_71, u_M_doPop_74, u_M_doPop_75, u_M_doPop_76, u_M_doPop_77, u_M_doPop_80, u_M_doPop_82, u_M_doPop_83, u_M_doPop_84, u_M_doPop_85, u_M_doPop_86, u_M_doPop_87, u_M_doPop_88, u_M_doPop_91, u_M_doPop_92, u_M_doPop_93, u_M_doPop_96, u_M_doPop_98, u_M_doPop_100, u_M_doPop_101, u_M_doPop_102, u_M_doPop_105, u_M_doPop_107, u_M_doPop_108, u_M_doPop_109, u_M_doPop_110, u_M_doPop_111, u_M_doPop_112, h1_156, gt_156_26, gt_156_29, gt_156_35, gt_156_42, gt_156_43, gt_156_36, h1_165, h2_165, gt_165, pt_165, h1_168, h2_168, gt_168, pt_168, h1_179, h2_179, gt_179, pt_179, h1_180, h2_180, gt_180, pt_180, h1_174, h2_174, gt_174, pt_174, ne_eq, not_false_eq_true, not_true_eq_false, true_and, and_true, true_or, or_true, eq_self, Option.toList_some, Option.toList_none, List.cons_append, List.nil_append, tc_0, tc_I, tc_L, tc_A, Nat.reduceAdd, Nat.reduceLeDiff, Nat.reduceEqDiff, Int.reduceEq, Int.reduceLT, Int.reduceLE, Int.reduceNeg, Int.reduceToNat, Int.cast_ofNat_Int, if_true, if_false, and_self, or_self, ite_self, bI_0, bI_1, bI_01, Bool.false_eq_true, reduceCtorEq, i1, i2, i3, x1, x2, x3, x4, x6, y2, y3, y4, y6, e35, hbit, h1, decide_true, bB_t, show 0 ≤ (s : Int) by omega, show (s : Int) < 4 by omega, show 0 ≤ (k : Int) by omega, show (k : Int) < 26 by omega, Int.toNat_natCast, e179, e174, g0, g30, w1, w2, w3, e3, show 0 ≤ 30 * (s : Int) + (g 179 s - 1) by omega, show 30 * (s : Int) + (g 179 s - 1) < 120 by omega, e179', e180']
        obtain ⟨hc0, hfx⟩ := hSt
        subst hc0
        refine hQ _ TH (FZ_tr (FZ_Y FY_0) (FZ_tr (FZ_m (by omega)) (FZ_m (by omega)))) (RSt_fr (RSt_pop hS hk26 hs4 h1 h2) hfx (fun b j hh => ?_))
        unfold poM
        simp only [rd]
        rw [FY_0 b j hh]
    · rw [if_neg h3] at hSt
      have g0 : ¬ g 174 k = 0 := by omega
      simp only [u_M_doPop_0, u_M_doPop_1, u_M_doPop_4, u_M_doPop_7, u_M_doPop_8, u_M_doPop_9, u_M_doPop_10, u_M_doPop_13, u_M_doPop_14, u_M_doPop_15, u_M_doPop_16, u_M_doPop_17, u_M_doPop_18, u_M_doPop_19, u_M_doPop_22, u_M_doPop_25, u_M_doPop_26, u_M_doPop_27, u_M_doPop_28, u_M_doPop_31, u_M_doPop_32, u_M_doPop_33, u_M_doPop_34, u_M_doPop_35, u_M_doPop_36, u_M_doPop_37, u_M_doPop_39, u_M_doPop_40, u_M_doPop_43, u_M_doPop_44, u_M_doPop_45, u_M_doPop_46, u_M_doPop_47, u_M_doPop_50, u_M_doPop_51, u_M_doPop_52, u_M_doPop_53, u_M_doPop_56, u_M_doPop_57, u_M_doPop_58, u_M_doPop_61, u_M_doPop_63, h1_156, gt_156_26, gt_156_29, gt_156_35, gt_156_36, h1_165, h2_165, gt_165, pt_165, h1_168, h2_168, gt_168, pt_168, h1_174, h2_174, gt_174, pt_174, ne_eq, not_false_eq_true, not_true_eq_false, true_and, and_true, true_or, or_true, eq_self, Option.toList_some, Option.toList_none, List.cons_append, List.nil_append, tc_0, tc_I, tc_L, tc_A, Nat.reduceAdd, Nat.reduceLeDiff, Nat.reduceEqDiff, Int.reduceEq, Int.reduceLT, Int.reduceLE, Int.reduceNeg, Int.reduceToNat, Int.cast_ofNat_Int, if_true, if_false, and_self, or_self, ite_self, bI_0, bI_1, bI_01, Bool.false_eq_true, reduceCtorEq, i1, i2, i3, x1, x2, x3, x4, x6, y2, y3, y4, y6, e35, hbit, h1, decide_true, bB_t, show 0 ≤ (k : Int) by omega, show (k : Int) < 26 by omega, Int.toNat_natCast, e174, g0]
      rw [← hSt.1]
      exact hQ _ TH (FZ_Y FY_0) (RSt_fr hS hSt.2 FY_0)
  · rw [if_neg h1] at hSt
    simp only [u_M_doPop_0, u_M_doPop_1, u_M_doPop_4, u_M_doPop_7, u_M_doPop_8, u_M_doPop_9, u_M_doPop_10, u_M_doPop_13, u_M_doPop_14, u_M_doPop_15, u_M_doPop_16, u_M_doPop_17, u_M_doPop_18, u_M_doPop_19, u_M_doPop_22, u_M_doPop_25, u_M_doPop_26, u_M_doPop_27, u_M_doPop_28, u_M_doPop_31, u_M_doPop_32, u_M_doPop_33, u_M_doPop_34, u_M_doPop_35, u_M_doPop_36, u_M_doPop_37, u_M_doPop_39, u_M_doPop_40, u_M_doPop_43, u_M_doPop_44, u_M_doPop_45, u_M_doPop_46, u_M_doPop_47, u_M_doPop_50, u_M_doPop_51, h1_156, gt_156_26, gt_156_29, gt_156_35, h1_165, h2_165, gt_165, pt_165, h1_168, h2_168, gt_168, pt_168, ne_eq, not_false_eq_true, not_true_eq_false, true_and, and_true, true_or, or_true, eq_self, Option.toList_some, Option.toList_none, List.cons_append, List.nil_append, tc_0, tc_I, tc_L, tc_A, Nat.reduceAdd, Nat.reduceLeDiff, Nat.reduceEqDiff, Int.reduceEq, Int.reduceLT, Int.reduceLE, Int.reduceNeg, Int.reduceToNat, Int.cast_ofNat_Int, if_true, if_false, and_self, or_self, ite_self, bI_0, bI_1, bI_01, Bool.false_eq_true, reduceCtorEq, i1, i2, i3, x1, x2, x3, x4, x6, y2, y3, y4, y6, e35, hbit, h1, decide_false, bB_f]
    rw [← hSt.1]
    exact hQ _ TH (FZ_Y FY_0) (RSt_fr hS hSt.2 FY_0)
end
