/-! Doing a step, the reference: new, end -/
section
variable {L d r len c q k s : Nat} {F f f' t g : Mem} {T : Int → Int} {Q : Option TV → Wd → Prop} {TH : Nat} {o b j n code : Int}
theorem lc_le {x y : Int} : (zlcmp x y ≤ 0) = (x ≤ y) := by unfold zlcmp; (repeat' split) <;> simp <;> omega
theorem h_lt {w m : Nat} {C : Int} (h : (w : Int) + ((m + 1 : Nat) : Int) = C) (hC : C ≤ 12) : (w : Int) < C ∧ ¬ C ≤ (w : Int) ∧ ((w + 1 : Nat) : Int) + (m : Int) = C ∧ w32 ((w : Int) + 1) = ((w + 1 : Nat) : Int) := by
  refine ⟨by omega, by omega, by omega, ?_⟩
  rw [w32_id (by omega) (by omega)]; omega
theorem h_12 {x C : Int} {w : Nat} (h0 : 0 ≤ x) (h1 : x < 15) (hw : (w : Int) < C) (hC : C ≤ 12) : w32 (12 * x) = 12 * x ∧ w32 (12 * x + w) = 12 * x + w ∧ 0 ≤ 12 * x + (w : Int) ∧ 12 * x + (w : Int) < 192 ∧ (12 * x + (w : Int)).toNat = 12 * x.toNat + w ∧ x < 16 := by
  refine ⟨w32_id (by omega) (by omega), w32_id (by omega) (by omega), by omega, by omega, by omega, by omega⟩
theorem whc_row {x : Int} (h : kRow x = true) : whc x = x - 65 := by
  unfold kRow at h; simp at h; unfold whc kName kRow kStk; simp; omega
theorem whc_kind {x : Int} (h : kKind x = true) : whc x = x - 200 := by
  unfold kKind at h; simp at h; exact (key_w (by omega) (by omega)).2
theorem p_M_doNew {z : Int} (hR : RT g r T len) (hS : RSt f g TH) (hq : q < 40) (ho : g 168 (40 * r + q) = o) (he9 : g 169 (40 * r + q) = b) (ho0 : 0 ≤ o) (hn : T o = n) (hkn : kRow n = true) (hk : k = (n - 65).toNat) (hz : T (o + 1) = z) (hkz : kKind z = true) (e : EE c) (he : wX e) (hb : 0 ≤ b) (hK : ¬ kEnd (T (b - 1)) = true) (hs : seg T b j (kX e)) (hj : T j = 59) (hSt : if f 29 k = -1 then (match vE (vF (envC f brN) c) e with
      | .error w => code = w ∧ ¬ w = 0 ∧ FX f f'
      | .ok (v, _) => if v < 0 ∨ 12 < v then code = 7 ∧ FX f f' else code = 0 ∧ ∃ n : Nat, n < 15 ∧ (∀ h : Nat, h < 14 → ¬ hC f h = n) ∧ FX (mset (mkC f n (z - 217) v) 29 k n) f') else code = 14 ∧ FX f f') (hQ : ∀ g' TH', FZ g g' → RSt f' g' TH' → Q (some (tI code)) (WW F t g')) : VV L (d + 3 * c + 7) m_M_doNew 0 [some (tA 156), some (tI r), some (tI (40 * (r : Int) + q)), none, none, none] [] (WW F t (sn0 g)) Q := by
  have hr := hR.r10
  have hl1 := hR.l1
  have hb2 : 65 ≤ n ∧ n ≤ 70 := by unfold kRow at hkn; simpa using hkn
  have hz2 : 217 ≤ z ∧ z ≤ 221 := by unfold kKind at hkz; simpa using hkz
  have hk6 : k < 6 := by omega
  have hlt := T_in hR (show ¬ T o = 0 by omega)
  have hlt2 := T_in hR (show ¬ T (o + 1) = 0 by omega)
  obtain ⟨i1, i2, i3⟩ := ix_o hr hq ho
  have i4 := ix_e hr hq he9
  obtain ⟨x1, x2, x3, x4, x5, x6⟩ := (RT_s0 hR).ix ho0 hlt
  have hw : whc (T o) = (k : Int) := by rw [hn, whc_row hkn]; omega
  rw [hw] at x6
  have e175 : sn0 g 175 k = g 175 k := FY_0 175 k (by omega)
  have hrw := hS.rw k (by omega)
  rw [hC_r hk6] at hrw
  by_cases h1 : f 29 k = -1
  · rw [if_pos h1] at hSt
    have g1' : g 175 k < 0 := by omega
    simp only [u_M_doNew_0, u_M_doNew_1, u_M_doNew_4, u_M_doNew_7, u_M_doNew_8, u_M_doNew_9, u_M_doNew_10, u_M_doNew_13, u_M_doNew_14, u_M_doNew_15, u_M_doNew_16, u_M_doNew_17, u_M_doNew_18, u_M_doNew_19, u_M_doNew_22, u_M_doNew_23, u_M_doNew_24, u_M_doNew_27, u_M_doNew_29, u_M_doNew_30, u_M_doNew_31, u_M_doNew_32, u_M_doNew_33, u_M_doNew_36, u_M_doNew_37, u_M_doNew_38, h1_156, gt_156_26, gt_156_29, gt_156_30, gt_156_37, h1_165, h2_165, gt_165, pt_165, h1_168, h2_168, gt_168, pt_168, h1_169, h2_169, gt_169, pt_169, h1_175, h2_175, gt_175, pt_175, ne_eq, not_false_eq_true, not_true_eq_false, true_and, and_true, true_or, or_true, eq_self, Option.toList_some, Option.toList_none, List.cons_append, List.nil_append, tc_0, tc_I, tc_L, tc_A, Nat.reduceAdd, Nat.reduceLeDiff, Nat.reduceEqDiff, Int.reduceEq, Int.reduceLT, Int.reduceLE, Int.reduceNeg, Int.reduceToNat, Int.cast_ofNat_Int, if_true, if_false, and_self, or_self, ite_self, bI_0, bI_1, bI_01, Bool.false_eq_true, reduceCtorEq, i1, i2, i3, i4, x1, x2, x3, x4, x6, show 0 ≤ (k : Int) by omega, show (k : Int) < 14 by omega, Int.toNat_natCast, e175, g1']
    refine p_M_reckon (D := d + 3 * c + 3) (by omega) e he (RT_s0 hR) (EnM_0 hS) WM_0 hb hK hs (by rw [hj]; decide) (by rw [hj]; decide) ?_
    cases hv : vE (vF (envC f brN) c) e with
    | error w =>
      rw [hv] at hSt
      intro g1 u a1 a2 a3
      simp only [u_M_doNew_41, u_M_doNew_43, u_M_doNew_44, u_M_doNew_47, u_M_doNew_50, u_M_doNew_51, u_M_doNew_54, h1_156, gt_156_46, ne_eq, not_false_eq_true, not_true_eq_false, true_and, and_true, true_or, or_true, eq_self, Option.toList_some, Option.toList_none, List.cons_append, List.nil_append, tc_0, tc_I, tc_L, tc_A, Nat.reduceAdd, Nat.reduceLeDiff, Nat.reduceEqDiff, Int.reduceEq, Int.reduceLT, Int.reduceLE, Int.reduceNeg, Int.reduceToNat, Int.cast_ofNat_Int, if_true, if_false, and_self, or_self, ite_self, bI_0, bI_1, bI_01, Bool.false_eq_true, reduceCtorEq, a2, a3]
      rw [← hSt.1]
      have hy := FY_tr FY_0 (FY_5 a1)
      exact hQ _ TH (FZ_Y hy) (RSt_fr hS hSt.2.2 hy)
    | ok zz =>
      obtain ⟨v, q'⟩ := zz
      rw [hv] at hSt
      dsimp only at hSt
      intro g1 a1 a2 a3
      have hy := FY_tr FY_0 (FY_5 a1)
      by_cases h2 : v < 0
      · rw [if_pos (Or.inl h2)] at hSt
        simp only [u_M_doNew_41, u_M_doNew_43, u_M_doNew_44, u_M_doNew_47, u_M_doNew_50, u_M_doNew_51, u_M_doNew_54, u_M_doNew_55, u_M_doNew_57, u_M_doNew_58, u_M_doNew_59, u_M_doNew_62, u_M_doNew_64, u_M_doNew_67, u_M_doNew_68, u_M_doNew_71, u_M_doNew_73, h1_156, gt_156_46, ne_eq, not_false_eq_true, not_true_eq_false, true_and, and_true, true_or, or_true, eq_self, Option.toList_some, Option.toList_none, List.cons_append, List.nil_append, tc_0, tc_I, tc_L, tc_A, Nat.reduceAdd, Nat.reduceLeDiff, Nat.reduceEqDiff, Int.reduceEq, Int.reduceLT, Int.reduceLE, Int.reduceNeg, Int.reduceToNat, Int.cast_ofNat_Int, if_true, if_false, and_self, or_self, ite_self, bI_0, bI_1, bI_01, Bool.false_eq_true, reduceCtorEq, a2, lc_lt, h2]
        rw [← hSt.1]
        exact hQ _ TH (FZ_Y hy) (RSt_fr hS hSt.2 hy)
      · by_cases h3 : v ≤ 12
        · rw [if_neg (by omega)] at hSt
          obtain ⟨hc0, n0, hn0, hfree, hfx⟩ := hSt
          subst hc0
          have hR1 : RT g1 r T len := RT_fr2 hR (fun c k h1 h2 => hy c k (by omega))
          obtain ⟨_, y2, y3, y4, y5, y6⟩ := hR1.ix (show 0 ≤ o + 1 by omega) hlt2
          rw [← Int.add_assoc] at y2 y3 y4 y5 y6
          obtain ⟨_, z2, z3, z4, _, _⟩ := hR1.ix ho0 hlt
          have hwz : whc (T (o + 1)) = z - 200 := by rw [hz]; exact whc_kind hkz
          rw [hwz] at y6
          have i3' : g1 168 (40 * (r : Int) + q).toNat = o := by
            rw [show (40 * (r : Int) + q).toNat = 40 * r + q by omega, hy 168 _ (by omega)]; exact ho
          have wz : w32 (z - 200 - 17) = z - 217 := by rw [w32_id (by omega) (by omega)]; omega
          have wv : w32 v = v := w32_id (by omega) (by omega)
          simp only [u_M_doNew_41, u_M_doNew_43, u_M_doNew_44, u_M_doNew_47, u_M_doNew_50, u_M_doNew_51, u_M_doNew_54, u_M_doNew_55, u_M_doNew_57, u_M_doNew_58, u_M_doNew_59, u_M_doNew_62, u_M_doNew_64, u_M_doNew_67, u_M_doNew_68, u_M_doNew_71, u_M_doNew_73, u_M_doNew_74, u_M_doNew_75, u_M_doNew_78, u_M_doNew_79, u_M_doNew_80, u_M_doNew_81, u_M_doNew_84, u_M_doNew_87, u_M_doNew_88, u_M_doNew_89, u_M_doNew_90, u_M_doNew_93, u_M_doNew_94, u_M_doNew_95, u_M_doNew_96, u_M_doNew_97, u_M_doNew_98, u_M_doNew_99, u_M_doNew_101, u_M_doNew_102, u_M_doNew_104, u_M_doNew_105, h1_156, gt_156_46, gt_156_37, gt_156_26, gt_156_29, h1_165, h2_165, gt_165, pt_165, h1_168, h2_168, gt_168, pt_168, ne_eq, not_false_eq_true, not_true_eq_false, true_and, and_true, true_or, or_true, eq_self, Option.toList_some, Option.toList_none, List.cons_append, List.nil_append, tc_0, tc_I, tc_L, tc_A, Nat.reduceAdd, Nat.reduceLeDiff, Nat.reduceEqDiff, Int.reduceEq, Int.reduceLT, Int.reduceLE, Int.reduceNeg, Int.reduceToNat, Int.cast_ofNat_Int, if_true, if_false, and_self, or_self, ite_self, bI_0, bI_1, bI_01, Bool.false_eq_true, reduceCtorEq, a2, lc_lt, h2, lc_le, h3, i1, i2, i3', x1, z2, y2, y3, y4, y6, wz, wv]
          refine p_M_newRow (fun m hm hh => ?_)
          simp only [u_M_doNew_108, u_M_doNew_109, u_M_doNew_110, h1_156, h1_175, h2_175, pt_175, ne_eq, not_false_eq_true, not_true_eq_false, true_and, and_true, true_or, or_true, eq_self, Option.toList_some, Option.toList_none, List.cons_append, List.nil_append, tc_0, tc_I, tc_L, tc_A, Nat.reduceAdd, Nat.reduceLeDiff, Nat.reduceEqDiff, Int.reduceEq, Int.reduceLT, Int.reduceLE, Int.reduceNeg, Int.reduceToNat, Int.cast_ofNat_Int, if_true, if_false, and_self, or_self, ite_self, bI_0, bI_1, bI_01, Bool.false_eq_true, reduceCtorEq, show 0 ≤ (k : Int) by omega, show (k : Int) < 14 by omega, Int.toNat_natCast]
          have hfm : ∀ h, h < 14 → ¬ h = k → ¬ g 175 h = m := fun h h1 _ => by rw [← hy 175 h (by omega)]; exact hh h h1
          have hN := RSt_new (h := k) (n := n0) (m := m) (kd := z - 217) (ct := v) hS (by omega) hn0 hm (by omega) (by omega) (fun h h1 _ => hfree h h1) hfm
          have hset : setH (mkC f n0 (z - 217) v) k n0 = mset (mkC f n0 (z - 217) v) 29 k n0 := by unfold setH; rw [if_pos hk6]
          rw [hset] at hN
          refine hQ _ TH (fun b j hh => ?_) (RSt_fr hN hfx (fun b j hh => ?_))
          · rw [rd, if_neg (by omega)]; unfold mkM; rw [if_neg (by omega), rd, if_neg (by omega), rd, if_neg (by omega)]; exact FZ_Y hy b j hh
          · unfold mkM; simp only [rd]; rw [hy b j hh]
        · rw [if_pos (Or.inr (by omega))] at hSt
          simp only [u_M_doNew_41, u_M_doNew_43, u_M_doNew_44, u_M_doNew_47, u_M_doNew_50, u_M_doNew_51, u_M_doNew_54, u_M_doNew_55, u_M_doNew_57, u_M_doNew_58, u_M_doNew_59, u_M_doNew_62, u_M_doNew_64, u_M_doNew_67, u_M_doNew_68, u_M_doNew_71, u_M_doNew_73, h1_156, gt_156_46, ne_eq, not_false_eq_true, not_true_eq_false, true_and, and_true, true_or, or_true, eq_self, Option.toList_some, Option.toList_none, List.cons_append, List.nil_append, tc_0, tc_I, tc_L, tc_A, Nat.reduceAdd, Nat.reduceLeDiff, Nat.reduceEqDiff, Int.reduceEq, Int.reduceLT, Int.reduceLE, Int.reduceNeg, Int.reduceToNat, Int.cast_ofNat_Int, if_true, if_false, and_self, or_self, ite_self, bI_0, bI_1, bI_01, Bool.false_eq_true, reduceCtorEq, a2, lc_lt, h2, lc_le, h3]
          rw [← hSt.1]
          exact hQ _ TH (FZ_Y hy) (RSt_fr hS hSt.2 hy)
  · rw [if_neg h1] at hSt
    have g1' : ¬ g 175 k < 0 := by omega
    simp only [u_M_doNew_0, u_M_doNew_1, u_M_doNew_4, u_M_doNew_7, u_M_doNew_8, u_M_doNew_9, u_M_doNew_10, u_M_doNew_13, u_M_doNew_14, u_M_doNew_15, u_M_doNew_16, u_M_doNew_17, u_M_doNew_18, u_M_doNew_19, u_M_doNew_22, u_M_doNew_23, u_M_doNew_24, u_M_doNew_27, u_M_doNew_29, h1_156, gt_156_26, gt_156_29, gt_156_37, h1_165, h2_165, gt_165, pt_165, h1_168, h2_168, gt_168, pt_168, h1_175, h2_175, gt_175, pt_175, ne_eq, not_false_eq_true, not_true_eq_false, true_and, and_true, true_or, or_true, eq_self, Option.toList_some, Option.toList_none, List.cons_append, List.nil_append, tc_0, tc_I, tc_L, tc_A, Nat.reduceAdd, Nat.reduceLeDiff, Nat.reduceEqDiff, Int.reduceEq, Int.reduceLT, Int.reduceLE, Int.reduceNeg, Int.reduceToNat, Int.cast_ofNat_Int, if_true, if_false, and_self, or_self, ite_self, bI_0, bI_1, bI_01, Bool.false_eq_true, reduceCtorEq, i1, i2, i3, x1, x2, x3, x4, x6, show 0 ≤ (k : Int) by omega, show (k : Int) < 14 by omega, Int.toNat_natCast, e175, g1']
    rw [← hSt.1]
    exact hQ _ TH (FZ_Y FY_0) (RSt_fr hS hSt.2 FY_0)
theorem p_M_doEnd {z : Int} (hR : RT g r T len) (hS : RSt f g TH) (hq : q < 40) (ho : g 168 (40 * r + q) = o) (he9 : g 169 (40 * r + q) = b) (ho0 : 0 ≤ o) (hn : T o = n) (hkn : kRow n = true) (hk : k = (n - 65).toNat) (hz : T (o + 1) = z) (hkz : kKind z = true) (e : EE c) (he : wX e) (hb : 0 ≤ b) (hK : ¬ kEnd (T (b - 1)) = true) (hs : seg T b j (kX e)) (hj : T j = 59) (hSt : if f 29 k = -1 then code = 2 ∧ FX f f' else if f 31 (f 29 k).toNat = z - 217 then (match vE (vF (envC f brN) c) e with
      | .error w => code = w ∧ ¬ w = 0 ∧ FX f f'
      | .ok (v, _) => (code = 0 ∧ v = f 32 (f 29 k).toNat ∧ (∀ i : Nat, (i : Int) < f 32 (f 29 k).toNat → f (34 + (f 29 k).toNat) i = 0) ∧ FX (mset f 29 k (-1)) f') ∨ (code = 8 ∧ (v = f 32 (f 29 k).toNat → ∃ i : Nat, (i : Int) < f 32 (f 29 k).toNat ∧ ¬ f (34 + (f 29 k).toNat) i = 0) ∧ FX f f')) else code = 10 ∧ FX f f') (hQ : ∀ g' TH', FZ g g' → RSt f' g' TH' → Q (some (tI code)) (WW F t g')) : VV L (d + 3 * c + 7) m_M_doEnd 0 [some (tA 156), some (tI r), some (tI (40 * (r : Int) + q)), none, none, none, none, none, none] [] (WW F t (sn0 g)) Q := by
  have hr := hR.r10
  have hl1 := hR.l1
  have hb2 : 65 ≤ n ∧ n ≤ 70 := by unfold kRow at hkn; simpa using hkn
  have hz2 : 217 ≤ z ∧ z ≤ 221 := by unfold kKind at hkz; simpa using hkz
  have hk6 : k < 6 := by omega
  have hlt := T_in hR (show ¬ T o = 0 by omega)
  have hlt2 := T_in hR (show ¬ T (o + 1) = 0 by omega)
  obtain ⟨i1, i2, i3⟩ := ix_o hr hq ho
  have i4 := ix_e hr hq he9
  obtain ⟨x1, x2, x3, x4, x5, x6⟩ := (RT_s0 hR).ix ho0 hlt
  obtain ⟨_, y2, y3, y4, y5, y6⟩ := (RT_s0 hR).ix (show 0 ≤ o + 1 by omega) hlt2
  rw [← Int.add_assoc] at y2 y3 y4 y5 y6
  have hw : whc (T o) = (k : Int) := by rw [hn, whc_row hkn]; omega
  rw [hw] at x6
  have hwz : whc (T (o + 1)) = z - 200 := by rw [hz]; exact whc_kind hkz
  rw [hwz] at y6
  have wz : w32 (z - 200 - 17) = z - 217 := by rw [w32_id (by omega) (by omega)]; omega
  have e175 : sn0 g 175 k = g 175 k := FY_0 175 k (by omega)
  have hrw := hS.rw k (by omega)
  rw [hC_r hk6] at hrw
  by_cases h1 : f 29 k = -1
  · rw [if_pos h1] at hSt
    have g1' : ¬ 0 ≤ g 175 k := by omega
    simp only [u_M_doEnd_0, u_M_doEnd_1, u_M_doEnd_4, u_M_doEnd_7, u_M_doEnd_8, u_M_doEnd_9, u_M_doEnd_10, u_M_doEnd_13, u_M_doEnd_14, u_M_doEnd_15, u_M_doEnd_16, u_M_doEnd_17, u_M_doEnd_18, u_M_doEnd_19, u_M_doEnd_22, u_M_doEnd_23, u_M_doEnd_24, u_M_doEnd_26, u_M_doEnd_28, u_M_doEnd_31, u_M_doEnd_32, h1_156, gt_156_26, gt_156_29, gt_156_37, h1_165, h2_165, gt_165, pt_165, h1_168, h2_168, gt_168, pt_168, h1_175, h2_175, gt_175, pt_175, ne_eq, not_false_eq_true, not_true_eq_false, true_and, and_true, true_or, or_true, eq_self, Option.toList_some, Option.toList_none, List.cons_append, List.nil_append, tc_0, tc_I, tc_L, tc_A, Nat.reduceAdd, Nat.reduceLeDiff, Nat.reduceEqDiff, Int.reduceEq, Int.reduceLT, Int.reduceLE, Int.reduceNeg, Int.reduceToNat, Int.cast_ofNat_Int, if_true, if_false, and_self, or_self, ite_self, bI_0, bI_1, bI_01, Bool.false_eq_true, reduceCtorEq, i1, i2, i3, x1, x2, x3, x4, x6, show 0 ≤ (k : Int) by omega, show (k : Int) < 14 by omega, Int.toNat_natCast, e175, g1']
    rw [← hSt.1]
    exact hQ _ TH (FZ_Y FY_0) (RSt_fr hS hSt.2 FY_0)
  · rw [if_neg h1] at hSt
    have hrw := hrw.resolve_left (fun q => h1 q.1)
    obtain ⟨q1, q2, q3, q4, q5, q6, q7, q8⟩ := hrw
    have e176 : sn0 g 176 (g 175 k).toNat = f 31 (f 29 k).toNat := by rw [FY_0 176 _ (by omega)]; exact q5.symm
    by_cases h2 : f 31 (f 29 k).toNat = z - 217
    · rw [if_pos h2] at hSt
      simp only [u_M_doEnd_0, u_M_doEnd_1, u_M_doEnd_4, u_M_doEnd_7, u_M_doEnd_8, u_M_doEnd_9, u_M_doEnd_10, u_M_doEnd_13, u_M_doEnd_14, u_M_doEnd_15, u_M_doEnd_16, u_M_doEnd_17, u_M_doEnd_18, u_M_doEnd_19, u_M_doEnd_22, u_M_doEnd_23, u_M_doEnd_24, u_M_doEnd_26, u_M_doEnd_28, u_M_doEnd_31, u_M_doEnd_32, u_M_doEnd_33, u_M_doEnd_34, u_M_doEnd_37, u_M_doEnd_39, u_M_doEnd_40, u_M_doEnd_41, u_M_doEnd_44, u_M_doEnd_47, u_M_doEnd_48, u_M_doEnd_49, u_M_doEnd_50, u_M_doEnd_53, u_M_doEnd_54, u_M_doEnd_55, u_M_doEnd_56, u_M_doEnd_57, u_M_doEnd_58, u_M_doEnd_59, u_M_doEnd_61, u_M_doEnd_62, u_M_doEnd_65, u_M_doEnd_67, u_M_doEnd_68, u_M_doEnd_69, u_M_doEnd_70, u_M_doEnd_71, u_M_doEnd_74, u_M_doEnd_75, u_M_doEnd_76, h1_156, gt_156_26, gt_156_29, gt_156_30, gt_156_37, gt_156_39, h1_165, h2_165, gt_165, pt_165, h1_168, h2_168, gt_168, pt_168, h1_169, h2_169, gt_169, pt_169, h1_175, h2_175, gt_175, pt_175, h1_176, h2_176, gt_176, pt_176, ne_eq, not_false_eq_true, not_true_eq_false, true_and, and_true, true_or, or_true, eq_self, Option.toList_some, Option.toList_none, List.cons_append, List.nil_append, tc_0, tc_I, tc_L, tc_A, Nat.reduceAdd, Nat.reduceLeDiff, Nat.reduceEqDiff, Int.reduceEq, Int.reduceLT, Int.reduceLE, Int.reduceNeg, Int.reduceToNat, Int.cast_ofNat_Int, if_true, if_false, and_self, or_self, ite_self, bI_0, bI_1, bI_01, Bool.false_eq_true, reduceCtorEq, i1, i2, i3, i4, x1, x2, x3, x4, x6, y2, y3, y4, y6, wz, show 0 ≤ (k : Int) by omega, show (k : Int) < 14 by omega, Int.toNat_natCast, e175, q3, show g 175 k < 16 by omega, e176, h2]
      refine p_M_reckon (D := d + 3 * c + 3) (by omega) e he (RT_s0 hR) (EnM_0 hS) WM_0 hb hK hs (by rw [hj]; decide) (by rw [hj]; decide) ?_
      cases hv : vE (vF (envC f brN) c) e with
      | error w =>
        rw [hv] at hSt
        intro g1 u a1 a2 a3
        simp only [u_M_doEnd_79, u_M_doEnd_81, u_M_doEnd_82, u_M_doEnd_85, u_M_doEnd_88, u_M_doEnd_89, u_M_doEnd_92, h1_156, gt_156_46, ne_eq, not_false_eq_true, not_true_eq_false, true_and, and_true, true_or, or_true, eq_self, Option.toList_some, Option.toList_none, List.cons_append, List.nil_append, tc_0, tc_I, tc_L, tc_A, Nat.reduceAdd, Nat.reduceLeDiff, Nat.reduceEqDiff, Int.reduceEq, Int.reduceLT, Int.reduceLE, Int.reduceNeg, Int.reduceToNat, Int.cast_ofNat_Int, if_true, if_false, and_self, or_self, ite_self, bI_0, bI_1, bI_01, Bool.false_eq_true, reduceCtorEq, a2, a3]
        rw [← hSt.1]
        have hy := FY_tr FY_0 (FY_5 a1)
        exact hQ _ TH (FZ_Y hy) (RSt_fr hS hSt.2.2 hy)
      | ok zz =>
        obtain ⟨v, q'⟩ := zz
        rw [hv] at hSt
        dsimp only at hSt
        intro g1 a1 a2 a3
        have hy := FY_tr FY_0 (FY_5 a1)
        have hcc := hS.cC (f 29 k).toNat (by omega)
        have e177 : g1 177 (g 175 k).toNat = f 32 (f 29 k).toNat := by rw [hy 177 _ (by omega)]; exact q6.symm
        have e178 : ∀ i : Nat, (i : Int) < f 32 (f 29 k).toNat → g1 178 (12 * (g 175 k).toNat + i) = f (34 + (f 29 k).toNat) i := fun i hi => by rw [hy 178 _ (by omega)]; exact (q8 i hi).symm
        have lp : ∀ (m w : Nat) (u : Int), (w : Int) + m = f 32 (f 29 k).toNat → ((u = 1 ∧ v = f 32 (f 29 k).toNat ∧ ∀ i : Nat, i < w → f (34 + (f 29 k).toNat) i = 0) ∨ (u = 0 ∧ (v = f 32 (f 29 k).toNat → ∃ i : Nat, (i : Int) < f 32 (f 29 k).toNat ∧ ¬ f (34 + (f 29 k).toNat) i = 0))) → VV L (d + 3 * c + 7) m_M_doEnd 117 [some (tA 156), some (tI r), some (tI (40 * (r : Int) + q)), some (tI k), some (tI (g 175 k)), some (tL v), none, some (tI u), some (tI w)] [] (WW F t g1) Q := by
          intro m
          induction m with
          | zero =>
            intro w u hwm hu
            rw [u_M_doEnd_117]
            rcases hu with ⟨rfl, hv1, hu⟩ | ⟨rfl, hu⟩
            · simp only [u_M_doEnd_119, u_M_doEnd_120, u_M_doEnd_123, u_M_doEnd_125, u_M_doEnd_126, u_M_doEnd_129, u_M_doEnd_131, u_M_doEnd_134, u_M_doEnd_135, u_M_doEnd_138, u_M_doEnd_140, u_M_doEnd_142, u_M_doEnd_143, u_M_doEnd_145, u_M_doEnd_146, u_M_doEnd_147, u_M_doEnd_148, u_M_doEnd_149, u_M_doEnd_152, u_M_doEnd_153, u_M_doEnd_156, u_M_doEnd_157, u_M_doEnd_159, u_M_doEnd_162, u_M_doEnd_165, u_M_doEnd_167, u_M_doEnd_170, u_M_doEnd_172, u_M_doEnd_173, u_M_doEnd_174, u_M_doEnd_177, u_M_doEnd_178, u_M_doEnd_179, u_M_doEnd_180, u_M_doEnd_181, h1_156, gt_156_40, gt_156_37, h1_177, h2_177, gt_177, pt_177, h1_175, h2_175, gt_175, pt_175, ne_eq, not_false_eq_true, not_true_eq_false, true_and, and_true, true_or, or_true, eq_self, Option.toList_some, Option.toList_none, List.cons_append, List.nil_append, tc_0, tc_I, tc_L, tc_A, Nat.reduceAdd, Nat.reduceLeDiff, Nat.reduceEqDiff, Int.reduceEq, Int.reduceLT, Int.reduceLE, Int.reduceNeg, Int.reduceToNat, Int.cast_ofNat_Int, if_true, if_false, and_self, or_self, ite_self, bI_0, bI_1, bI_01, Bool.false_eq_true, reduceCtorEq, q3, show g 175 k < 16 by omega, e177, show f 32 (f 29 k).toNat ≤ (w : Int) by omega, show 0 ≤ (k : Int) by omega, show (k : Int) < 14 by omega, Int.toNat_natCast]
              rcases hSt with ⟨hc0, _, _, hfx⟩ | ⟨hc8, hex, _⟩
              · subst hc0
                have hE := RSt_end (h := k) hS (by omega)
                have hset : setH f k (-1) = mset f 29 k (-1) := by unfold setH; rw [if_pos hk6]
                rw [hset] at hE
                refine hQ _ TH (fun b j hh => ?_) (RSt_fr hE hfx (fun b j hh => ?_))
                · rw [rd, if_neg (by omega)]; exact FZ_Y hy b j hh
                · simp only [rd]; rw [hy b j hh]
              · exfalso
                obtain ⟨i, hi, hne⟩ := hex hv1
                exact hne (hu i (by omega))
            · simp only [u_M_doEnd_119, u_M_doEnd_120, u_M_doEnd_123, u_M_doEnd_125, u_M_doEnd_126, u_M_doEnd_129, u_M_doEnd_131, u_M_doEnd_134, u_M_doEnd_135, u_M_doEnd_138, u_M_doEnd_140, u_M_doEnd_142, u_M_doEnd_143, u_M_doEnd_145, u_M_doEnd_146, u_M_doEnd_147, u_M_doEnd_148, u_M_doEnd_149, u_M_doEnd_152, u_M_doEnd_153, u_M_doEnd_156, u_M_doEnd_157, u_M_doEnd_159, u_M_doEnd_162, u_M_doEnd_165, u_M_doEnd_167, u_M_doEnd_170, u_M_doEnd_172, h1_156, gt_156_40, h1_177, h2_177, gt_177, pt_177, ne_eq, not_false_eq_true, not_true_eq_false, true_and, and_true, true_or, or_true, eq_self, Option.toList_some, Option.toList_none, List.cons_append, List.nil_append, tc_0, tc_I, tc_L, tc_A, Nat.reduceAdd, Nat.reduceLeDiff, Nat.reduceEqDiff, Int.reduceEq, Int.reduceLT, Int.reduceLE, Int.reduceNeg, Int.reduceToNat, Int.cast_ofNat_Int, if_true, if_false, and_self, or_self, ite_self, bI_0, bI_1, bI_01, Bool.false_eq_true, reduceCtorEq, q3, show g 175 k < 16 by omega, e177, show f 32 (f 29 k).toNat ≤ (w : Int) by omega]
              rcases hSt with ⟨hc0, hv1, hall, hfx⟩ | ⟨hc8, hex, hfx⟩
              · exfalso
                obtain ⟨i, hi, hne⟩ := hu hv1
                exact hne (hall i hi)
              · subst hc8
                exact hQ _ TH (FZ_Y hy) (RSt_fr hS hfx hy)
          | succ m ih =>
            intro w u hwm hu
            obtain ⟨l1, l2, l3, ww⟩ := h_lt hwm hcc.2
            obtain ⟨w12, w12w, m1, m2, ix, m3⟩ := h_12 q3 q4 l1 hcc.2
            have e8 := e178 w l1
            rw [u_M_doEnd_117]
            rcases hu with ⟨rfl, hv1, hu⟩ | ⟨rfl, hu⟩
            · by_cases ez : f (34 + (f 29 k).toNat) w = 0
              · simp only [u_M_doEnd_119, u_M_doEnd_120, u_M_doEnd_123, u_M_doEnd_125, u_M_doEnd_126, u_M_doEnd_129, u_M_doEnd_131, u_M_doEnd_134, u_M_doEnd_135, u_M_doEnd_138, u_M_doEnd_140, u_M_doEnd_142, u_M_doEnd_143, u_M_doEnd_145, u_M_doEnd_146, u_M_doEnd_147, u_M_doEnd_148, u_M_doEnd_149, u_M_doEnd_152, u_M_doEnd_153, u_M_doEnd_156, u_M_doEnd_157, u_M_doEnd_159, u_M_doEnd_162, h1_156, gt_156_40, gt_156_41, h1_177, h2_177, gt_177, pt_177, h1_178, h2_178, gt_178, pt_178, ne_eq, not_false_eq_true, not_true_eq_false, true_and, and_true, true_or, or_true, eq_self, Option.toList_some, Option.toList_none, List.cons_append, List.nil_append, tc_0, tc_I, tc_L, tc_A, Nat.reduceAdd, Nat.reduceLeDiff, Nat.reduceEqDiff, Int.reduceEq, Int.reduceLT, Int.reduceLE, Int.reduceNeg, Int.reduceToNat, Int.cast_ofNat_Int, if_true, if_false, and_self, or_self, ite_self, bI_0, bI_1, bI_01, Bool.false_eq_true, reduceCtorEq, q3, m3, e177, l2, w12, w12w, m1, m2, ix, e8, lc_eq, ez, ww]
                refine ih (w + 1) 1 l3 (Or.inl ⟨rfl, hv1, fun i hi => ?_⟩)
                by_cases e2 : i = w
                · subst e2; exact ez
                · exact hu i (Nat.lt_of_le_of_ne (Nat.le_of_lt_succ hi) e2)
              · simp only [u_M_doEnd_119, u_M_doEnd_120, u_M_doEnd_123, u_M_doEnd_125, u_M_doEnd_126, u_M_doEnd_129, u_M_doEnd_131, u_M_doEnd_134, u_M_doEnd_135, u_M_doEnd_138, u_M_doEnd_140, u_M_doEnd_142, u_M_doEnd_143, u_M_doEnd_145, u_M_doEnd_146, u_M_doEnd_147, u_M_doEnd_148, u_M_doEnd_149, u_M_doEnd_152, u_M_doEnd_153, u_M_doEnd_156, u_M_doEnd_157, u_M_doEnd_159, u_M_doEnd_162, h1_156, gt_156_40, gt_156_41, h1_177, h2_177, gt_177, pt_177, h1_178, h2_178, gt_178, pt_178, ne_eq, not_false_eq_true, not_true_eq_false, true_and, and_true, true_or, or_true, eq_self, Option.toList_some, Option.toList_none, List.cons_append, List.nil_append, tc_0, tc_I, tc_L, tc_A, Nat.reduceAdd, Nat.reduceLeDiff, Nat.reduceEqDiff, Int.reduceEq, Int.reduceLT, Int.reduceLE, Int.reduceNeg, Int.reduceToNat, Int.cast_ofNat_Int, if_true, if_false, and_self, or_self, ite_self, bI_0, bI_1, bI_01, Bool.false_eq_true, reduceCtorEq, q3, m3, e177, l2, w12, w12w, m1, m2, ix, e8, lc_eq, ez, ww]
                exact ih (w + 1) 0 l3 (Or.inr ⟨rfl, fun _ => ⟨w, l1, ez⟩⟩)
            · simp only [u_M_doEnd_119, u_M_doEnd_120, u_M_doEnd_123, u_M_doEnd_125, u_M_doEnd_126, u_M_doEnd_129, u_M_doEnd_131, u_M_doEnd_134, u_M_doEnd_135, u_M_doEnd_138, u_M_doEnd_140, u_M_doEnd_142, u_M_doEnd_143, u_M_doEnd_145, u_M_doEnd_146, u_M_doEnd_147, u_M_doEnd_148, u_M_doEnd_149, u_M_doEnd_152, u_M_doEnd_153, u_M_doEnd_156, u_M_doEnd_157, u_M_doEnd_159, u_M_doEnd_162, h1_156, gt_156_40, h1_177, h2_177, gt_177, pt_177, ne_eq, not_false_eq_true, not_true_eq_false, true_and, and_true, true_or, or_true, eq_self, Option.toList_some, Option.toList_none, List.cons_append, List.nil_append, tc_0, tc_I, tc_L, tc_A, Nat.reduceAdd, Nat.reduceLeDiff, Nat.reduceEqDiff, Int.reduceEq, Int.reduceLT, Int.reduceLE, Int.reduceNeg, Int.reduceToNat, Int.cast_ofNat_Int, if_true, if_false, and_self, or_self, ite_self, bI_0, bI_1, bI_01, Bool.false_eq_true, reduceCtorEq, q3, m3, e177, l2, ww]
              exact ih (w + 1) 0 l3 (Or.inr ⟨rfl, hu⟩)
        by_cases h3 : v = f 32 (f 29 k).toNat
        · have := lp (f 32 (f 29 k).toNat).toNat 0 1 (by omega) (Or.inl ⟨rfl, h3, fun i hi => by omega⟩)
          simp only [u_M_doEnd_79, u_M_doEnd_81, u_M_doEnd_82, u_M_doEnd_85, u_M_doEnd_88, u_M_doEnd_89, u_M_doEnd_92, u_M_doEnd_93, u_M_doEnd_95, u_M_doEnd_96, u_M_doEnd_99, u_M_doEnd_101, u_M_doEnd_102, u_M_doEnd_103, u_M_doEnd_104, u_M_doEnd_107, u_M_doEnd_108, u_M_doEnd_111, u_M_doEnd_112, u_M_doEnd_114, u_M_doEnd_115, h1_156, gt_156_46, gt_156_40, h1_177, h2_177, gt_177, pt_177, ne_eq, not_false_eq_true, not_true_eq_false, true_and, and_true, true_or, or_true, eq_self, Option.toList_some, Option.toList_none, List.cons_append, List.nil_append, tc_0, tc_I, tc_L, tc_A, Nat.reduceAdd, Nat.reduceLeDiff, Nat.reduceEqDiff, Int.reduceEq, Int.reduceLT, Int.reduceLE, Int.reduceNeg, Int.reduceToNat, Int.cast_ofNat_Int, if_true, if_false, and_self, or_self, ite_self, bI_0, bI_1, bI_01, Bool.false_eq_true, reduceCtorEq, a2, q3, show g 175 k < 16 by omega, e177, lc_eq, ← h3]
          rw [h3] at this ⊢
          exact this
        · have := lp (f 32 (f 29 k).toNat).toNat 0 0 (by omega) (Or.inr ⟨rfl, fun hh => absurd hh h3⟩)
          simp only [u_M_doEnd_79, u_M_doEnd_81, u_M_doEnd_82, u_M_doEnd_85, u_M_doEnd_88, u_M_doEnd_89, u_M_doEnd_92, u_M_doEnd_93, u_M_doEnd_95, u_M_doEnd_96, u_M_doEnd_99, u_M_doEnd_101, u_M_doEnd_102, u_M_doEnd_103, u_M_doEnd_104, u_M_doEnd_107, u_M_doEnd_108, u_M_doEnd_111, u_M_doEnd_112, u_M_doEnd_114, u_M_doEnd_115, h1_156, gt_156_46, gt_156_40, h1_177, h2_177, gt_177, pt_177, ne_eq, not_false_eq_true, not_true_eq_false, true_and, and_true, true_or, or_true, eq_self, Option.toList_some, Option.toList_none, List.cons_append, List.nil_append, tc_0, tc_I, tc_L, tc_A, Nat.reduceAdd, Nat.reduceLeDiff, Nat.reduceEqDiff, Int.reduceEq, Int.reduceLT, Int.reduceLE, Int.reduceNeg, Int.reduceToNat, Int.cast_ofNat_Int, if_true, if_false, and_self, or_self, ite_self, bI_0, bI_1, bI_01, Bool.false_eq_true, reduceCtorEq, a2, q3, show g 175 k < 16 by omega, e177, lc_eq, h3]
          exact this
    · rw [if_neg h2] at hSt
      simp only [u_M_doEnd_0, u_M_doEnd_1, u_M_doEnd_4, u_M_doEnd_7, u_M_doEnd_8, u_M_doEnd_9, u_M_doEnd_10, u_M_doEnd_13, u_M_doEnd_14, u_M_doEnd_15, u_M_doEnd_16, u_M_doEnd_17, u_M_doEnd_18, u_M_doEnd_19, u_M_doEnd_22, u_M_doEnd_23, u_M_doEnd_24, u_M_doEnd_26, u_M_doEnd_28, u_M_doEnd_31, u_M_doEnd_32, u_M_doEnd_33, u_M_doEnd_34, u_M_doEnd_37, u_M_doEnd_39, u_M_doEnd_40, u_M_doEnd_41, u_M_doEnd_44, u_M_doEnd_47, u_M_doEnd_48, u_M_doEnd_49, u_M_doEnd_50, u_M_doEnd_53, u_M_doEnd_54, u_M_doEnd_55, u_M_doEnd_56, u_M_doEnd_57, u_M_doEnd_58, u_M_doEnd_59, u_M_doEnd_61, u_M_doEnd_62, u_M_doEnd_65, u_M_doEnd_67, h1_156, gt_156_26, gt_156_29, gt_156_37, gt_156_39, h1_165, h2_165, gt_165, pt_165, h1_168, h2_168, gt_168, pt_168, h1_175, h2_175, gt_175, pt_175, h1_176, h2_176, gt_176, pt_176, ne_eq, not_false_eq_true, not_true_eq_false, true_and, and_true, true_or, or_true, eq_self, Option.toList_some, Option.toList_none, List.cons_append, List.nil_append, tc_0, tc_I, tc_L, tc_A, Nat.reduceAdd, Nat.reduceLeDiff, Nat.reduceEqDiff, Int.reduceEq, Int.reduceLT, Int.reduceLE, Int.reduceNeg, Int.reduceToNat, Int.cast_ofNat_Int, if_true, if_false, and_self, or_self, ite_self, bI_0, bI_1, bI_01, Bool.false_eq_true, reduceCtorEq, i1, i2, i3, x1, x2, x3, x4, x6, y2, y3, y4, y6, wz, show 0 ≤ (k : Int) by omega, show (k : Int) < 14 by omega, Int.toNat_natCast, e175, q3, show g 175 k < 16 by omega, e176, h2]
      rw [← hSt.1]
      exact hQ _ TH (FZ_Y FY_0) (RSt_fr hS hSt.2 FY_0)
end
