/-! Doing a step, the class: new, end -/
section
variable {L d a c : Nat} {f t g : Mem} {Q : Option TV → Wd → Prop} {TH : Nat} {i j n : Int}
theorem p_Sf_isAllNaught (h0 : 0 ≤ n) (h1 : n < 15) (h12 : 0 ≤ f 32 n.toNat ∧ f 32 n.toNat ≤ 12) (hY : (∀ i : Nat, (i : Int) < f 32 n.toNat → f (34 + n.toNat) i = 0) → Q (some (tI 1)) (WW f t g)) (hN : ∀ i : Nat, (i : Int) < f 32 n.toNat → ¬ f (34 + n.toNat) i = 0 → Q (some (tI 0)) (WW f t g)) : VV L (d + 1) m_Sf_isAllNaught 0 [some (tA 28), some (tI n), none] [] (WW f t g) Q := by
  have hct : ctS f n = f 32 n.toNat := by unfold ctS; rw [if_pos ⟨h0, h1⟩]
  have lp : ∀ (m k : Nat), (k : Int) + m = f 32 n.toNat → (∀ i : Nat, i < k → f (34 + n.toNat) i = 0) → VV L (d + 1) m_Sf_isAllNaught 2 [some (tA 28), some (tI n), some (tI k)] [] (WW f t g) Q := by
    intro m
    induction m with
    | zero =>
      intro k hk hh
      rw [u_Sf_isAllNaught_2]
      simp only [u_Sf_isAllNaught_0, u_Sf_isAllNaught_1, u_Sf_isAllNaught_3, u_Sf_isAllNaught_4, u_Sf_isAllNaught_5, u_Sf_isAllNaught_8, u_Sf_isAllNaught_11, u_Sf_isAllNaught_12, u_Sf_isAllNaught_13, u_Sf_isAllNaught_14, u_Sf_isAllNaught_17, u_Sf_isAllNaught_18, u_Sf_isAllNaught_19, u_Sf_isAllNaught_22, u_Sf_isAllNaught_23, u_Sf_isAllNaught_24, u_Sf_isAllNaught_27, u_Sf_isAllNaught_30, u_Sf_isAllNaught_31, h1_28, ne_eq, not_false_eq_true, not_true_eq_false, true_and, and_true, true_or, or_true, eq_self, Option.toList_some, Option.toList_none, List.cons_append, List.nil_append, tc_0, tc_I, tc_L, tc_A, Nat.reduceAdd, Nat.reduceLeDiff, Nat.reduceEqDiff, Int.reduceEq, Int.reduceLT, Int.reduceLE, Int.reduceNeg, Int.reduceToNat, Int.cast_ofNat_Int, if_true, if_false, and_self, or_self, ite_self, bI_0, bI_1, bI_01, Bool.false_eq_true, reduceCtorEq, s_Sf_countOf, hct, show f 32 n.toNat ≤ (k : Int) by omega]
      exact hY (fun i hi => hh i (by omega))
    | succ m ih =>
      intro k hk hh
      have wk : w32 ((k : Int) + 1) = ((k + 1 : Nat) : Int) := by rw [w32_id (by omega) (by omega)]; omega
      have hld : ldS f n k = f (34 + n.toNat) k := by unfold ldS; rw [if_pos ⟨h0, h1, by omega, by omega⟩, Int.toNat_natCast]
      rw [u_Sf_isAllNaught_2]
      by_cases e : f (34 + n.toNat) k = 0
      · simp only [u_Sf_isAllNaught_0, u_Sf_isAllNaught_1, u_Sf_isAllNaught_3, u_Sf_isAllNaught_4, u_Sf_isAllNaught_5, u_Sf_isAllNaught_8, u_Sf_isAllNaught_11, u_Sf_isAllNaught_12, u_Sf_isAllNaught_13, u_Sf_isAllNaught_14, u_Sf_isAllNaught_17, u_Sf_isAllNaught_18, u_Sf_isAllNaught_19, u_Sf_isAllNaught_22, u_Sf_isAllNaught_23, u_Sf_isAllNaught_24, u_Sf_isAllNaught_27, u_Sf_isAllNaught_30, u_Sf_isAllNaught_31, h1_28, ne_eq, not_false_eq_true, not_true_eq_false, true_and, and_true, true_or, or_true, eq_self, Option.toList_some, Option.toList_none, List.cons_append, List.nil_append, tc_0, tc_I, tc_L, tc_A, Nat.reduceAdd, Nat.reduceLeDiff, Nat.reduceEqDiff, Int.reduceEq, Int.reduceLT, Int.reduceLE, Int.reduceNeg, Int.reduceToNat, Int.cast_ofNat_Int, if_true, if_false, and_self, or_self, ite_self, bI_0, bI_1, bI_01, Bool.false_eq_true, reduceCtorEq, s_Sf_countOf, hct, show ¬ f 32 n.toNat ≤ (k : Int) by omega, s_Sf_load (f := f) (n := n) (i := (k : Int)) (fun _ _ => h12.2), hld, lc_eq, e, wk]
        refine ih (k + 1) (by omega) (fun i hi => ?_)
        by_cases e2 : i = k
        · subst e2; exact e
        · exact hh i (by omega)
      · simp only [u_Sf_isAllNaught_0, u_Sf_isAllNaught_1, u_Sf_isAllNaught_3, u_Sf_isAllNaught_4, u_Sf_isAllNaught_5, u_Sf_isAllNaught_8, u_Sf_isAllNaught_11, u_Sf_isAllNaught_12, u_Sf_isAllNaught_13, u_Sf_isAllNaught_14, u_Sf_isAllNaught_17, u_Sf_isAllNaught_18, u_Sf_isAllNaught_19, u_Sf_isAllNaught_22, u_Sf_isAllNaught_23, u_Sf_isAllNaught_24, u_Sf_isAllNaught_27, u_Sf_isAllNaught_30, u_Sf_isAllNaught_31, h1_28, ne_eq, not_false_eq_true, not_true_eq_false, true_and, and_true, true_or, or_true, eq_self, Option.toList_some, Option.toList_none, List.cons_append, List.nil_append, tc_0, tc_I, tc_L, tc_A, Nat.reduceAdd, Nat.reduceLeDiff, Nat.reduceEqDiff, Int.reduceEq, Int.reduceLT, Int.reduceLE, Int.reduceNeg, Int.reduceToNat, Int.cast_ofNat_Int, if_true, if_false, and_self, or_self, ite_self, bI_0, bI_1, bI_01, Bool.false_eq_true, reduceCtorEq, s_Sf_countOf, hct, show ¬ f 32 n.toNat ≤ (k : Int) by omega, s_Sf_load (f := f) (n := n) (i := (k : Int)) (fun _ _ => h12.2), hld, lc_eq, e]
        exact hN k (by omega) e
  simp only [u_Sf_isAllNaught_0, u_Sf_isAllNaught_1, ne_eq, not_false_eq_true, not_true_eq_false, true_and, and_true, true_or, or_true, eq_self, Option.toList_some, Option.toList_none, List.cons_append, List.nil_append, tc_0, tc_I, tc_L, tc_A, Nat.reduceAdd, Nat.reduceLeDiff, Nat.reduceEqDiff, Int.reduceEq, Int.reduceLT, Int.reduceLE, Int.reduceNeg, Int.reduceToNat, Int.cast_ofNat_Int, if_true, if_false, and_self, or_self, ite_self, bI_0, bI_1, bI_01, Bool.false_eq_true, reduceCtorEq]
  exact lp (f 32 n.toNat).toNat 0 (by omega) (fun i hi => by omega)
theorem hC_FX' {f f' : Mem} (h : FX f f') : hC f' = hC f := by funext k; exact hC_FX h k
theorem p_Do_makeRow {gg : Mem} {r : Nat} (hT : isT a) (hl : t a 1 ≤ 1000) (hc : c ≤ 12) (hS : RSt f gg TH) (hr : r < 6) (e : EE c) (he : wX e) (hi : 1 ≤ i) (hkd : kKind (tok t a (i - 1)) = true) (hs : seg (tok t a) i j (kX e)) (hj : tok t a j = 59) (hQ : ∀ code f', (if f 29 r = -1 then (match vE (vF (envC f brN) c) e with
    | .error w => code = w ∧ ¬ w = 0 ∧ FX f f'
    | .ok (v, _) => if v < 0 ∨ 12 < v then code = 7 ∧ FX f f' else code = 0 ∧ ∃ n : Nat, n < 15 ∧ (∀ h : Nat, h < 14 → ¬ hC f h = n) ∧ FX (mset (mkC f n (tok t a (i - 1) - 217) v) 29 r n) f') else code = 14 ∧ FX f f') → Q (some (tI code)) (WW f' t g)) : VV L (d + 5 * c + 8) m_Do_makeRow 0 [some (tA 152), some (tI r), some (tA a), some (tI i), none, none] [] (WW (wo0 f) t g) Q := by
  have a0 := xT_0 hT
  have h29 : wo0 f 29 r = f 29 r := FX_0 29 r (by omega)
  have hrw : rwH (wo0 f) r = f 29 r := by unfold rwH; rw [if_pos (by omega), Int.toNat_natCast, h29]
  have hjt := tok_ne (show ¬ tok t a j = 0 by omega)
  have hij := hs.1
  have wi : w32 (i - 1) = i - 1 := w32_id (by omega) (by omega)
  have hk : 217 ≤ tok t a (i - 1) ∧ tok t a (i - 1) ≤ 221 := by unfold kKind at hkd; simpa using hkd
  have wk : w32 (tok t a (i - 1) - 217) = tok t a (i - 1) - 217 := w32_id (by omega) (by omega)
  by_cases h1 : f 29 r = -1
  · simp only [u_Do_makeRow_0, u_Do_makeRow_1, u_Do_makeRow_4, u_Do_makeRow_5, u_Do_makeRow_8, u_Do_makeRow_9, u_Do_makeRow_12, u_Do_makeRow_14, u_Do_makeRow_15, u_Do_makeRow_16, u_Do_makeRow_19, u_Do_makeRow_20, u_Do_makeRow_21, h1_152, h1_28, h1_149, gt_152_1, gt_152_2, ne_eq, not_false_eq_true, not_true_eq_false, true_and, and_true, true_or, or_true, eq_self, Option.toList_some, Option.toList_none, List.cons_append, List.nil_append, tc_0, tc_I, tc_L, tc_A, Nat.reduceAdd, Nat.reduceLeDiff, Nat.reduceEqDiff, Int.reduceEq, Int.reduceLT, Int.reduceLE, Int.reduceNeg, Int.reduceToNat, Int.cast_ofNat_Int, if_true, if_false, and_self, or_self, ite_self, bI_0, bI_1, bI_01, Bool.false_eq_true, reduceCtorEq, s_Sf_heldByRow, hrw, h1, a0]
    refine p_Wo_sumAt (D := d + 5 * c + 4) hT hl hc (by omega) e he (EnC_0 hS) WS_0 wo0_7 (by omega) hs (by rw [hj]; decide) (by rw [hj]; decide) ?_
    have hQ' := fun code f' h => hQ code f' (by rw [if_pos h1]; exact h)
    cases hv : vE (vF (envC f brN) c) e with
    | error w =>
      rw [hv] at hQ'
      intro f1 u a1 a2 a3
      simp only [u_Do_makeRow_24, u_Do_makeRow_26, u_Do_makeRow_27, u_Do_makeRow_30, u_Do_makeRow_33, u_Do_makeRow_36, u_Do_makeRow_37, u_Do_makeRow_40, u_Do_makeRow_43, h1_152, h1_149, gt_152_2, ne_eq, not_false_eq_true, not_true_eq_false, true_and, and_true, true_or, or_true, eq_self, Option.toList_some, Option.toList_none, List.cons_append, List.nil_append, tc_0, tc_I, tc_L, tc_A, Nat.reduceAdd, Nat.reduceLeDiff, Nat.reduceEqDiff, Int.reduceEq, Int.reduceLT, Int.reduceLE, Int.reduceNeg, Int.reduceToNat, Int.cast_ofNat_Int, if_true, if_false, and_self, or_self, ite_self, bI_0, bI_1, bI_01, Bool.false_eq_true, reduceCtorEq, s_Wo_refused, a2, a3]
      exact hQ' w f1 ⟨rfl, a3, FX_tr FX_0 (FX_5 a1)⟩
    | ok z =>
      obtain ⟨v, q⟩ := z
      rw [hv] at hQ'
      dsimp only at hQ'
      intro f1 a1 a2 a3
      have hx := FX_tr FX_0 (FX_5 a1)
      by_cases h2 : v < 0
      · simp only [u_Do_makeRow_24, u_Do_makeRow_26, u_Do_makeRow_27, u_Do_makeRow_30, u_Do_makeRow_33, u_Do_makeRow_36, u_Do_makeRow_37, u_Do_makeRow_40, u_Do_makeRow_43, u_Do_makeRow_44, u_Do_makeRow_46, u_Do_makeRow_47, u_Do_makeRow_48, u_Do_makeRow_51, u_Do_makeRow_53, u_Do_makeRow_56, u_Do_makeRow_57, u_Do_makeRow_60, u_Do_makeRow_62, h1_152, h1_149, gt_152_2, ne_eq, not_false_eq_true, not_true_eq_false, true_and, and_true, true_or, or_true, eq_self, Option.toList_some, Option.toList_none, List.cons_append, List.nil_append, tc_0, tc_I, tc_L, tc_A, Nat.reduceAdd, Nat.reduceLeDiff, Nat.reduceEqDiff, Int.reduceEq, Int.reduceLT, Int.reduceLE, Int.reduceNeg, Int.reduceToNat, Int.cast_ofNat_Int, if_true, if_false, and_self, or_self, ite_self, bI_0, bI_1, bI_01, Bool.false_eq_true, reduceCtorEq, s_Wo_refused, a2, lc_lt, h2]
        exact hQ' 7 f1 (by rw [if_pos (Or.inl h2)]; exact ⟨rfl, hx⟩)
      · by_cases h3 : v ≤ 12
        · have wv : w32 v = v := w32_id (by omega) (by omega)
          have lc_le : (zlcmp v 12 ≤ 0) = True := by unfold zlcmp; simp only [eq_iff_iff, iff_true]; (repeat' split) <;> omega
          simp only [u_Do_makeRow_24, u_Do_makeRow_26, u_Do_makeRow_27, u_Do_makeRow_30, u_Do_makeRow_33, u_Do_makeRow_36, u_Do_makeRow_37, u_Do_makeRow_40, u_Do_makeRow_43, u_Do_makeRow_44, u_Do_makeRow_46, u_Do_makeRow_47, u_Do_makeRow_48, u_Do_makeRow_51, u_Do_makeRow_53, u_Do_makeRow_56, u_Do_makeRow_57, u_Do_makeRow_60, u_Do_makeRow_62, u_Do_makeRow_63, u_Do_makeRow_64, u_Do_makeRow_67, u_Do_makeRow_68, u_Do_makeRow_69, u_Do_makeRow_72, u_Do_makeRow_73, u_Do_makeRow_74, u_Do_makeRow_75, u_Do_makeRow_76, u_Do_makeRow_79, u_Do_makeRow_82, u_Do_makeRow_83, u_Do_makeRow_85, u_Do_makeRow_86, h1_152, h1_149, h1_28, gt_152_2, gt_152_1, xT_h1, ne_eq, not_false_eq_true, not_true_eq_false, true_and, and_true, true_or, or_true, eq_self, Option.toList_some, Option.toList_none, List.cons_append, List.nil_append, tc_0, tc_I, tc_L, tc_A, Nat.reduceAdd, Nat.reduceLeDiff, Nat.reduceEqDiff, Int.reduceEq, Int.reduceLT, Int.reduceLE, Int.reduceNeg, Int.reduceToNat, Int.cast_ofNat_Int, if_true, if_false, and_self, or_self, ite_self, bI_0, bI_1, bI_01, Bool.false_eq_true, reduceCtorEq, s_Wo_refused, a2, lc_lt, h2, lc_le, a0, hT, wi, s_Tx_token hT hl, wk, wv]
          refine p_Sf_make (fun n hn hh => ?_)
          have rr : (0 ≤ (r : Int) ∧ (r : Int) < 6) := by omega
          simp only [u_Do_makeRow_89, u_Do_makeRow_92, u_Do_makeRow_93, h1_152, h1_28, ne_eq, not_false_eq_true, not_true_eq_false, true_and, and_true, true_or, or_true, eq_self, Option.toList_some, Option.toList_none, List.cons_append, List.nil_append, tc_0, tc_I, tc_L, tc_A, Nat.reduceAdd, Nat.reduceLeDiff, Nat.reduceEqDiff, Int.reduceEq, Int.reduceLT, Int.reduceLE, Int.reduceNeg, Int.reduceToNat, Int.cast_ofNat_Int, if_true, if_false, and_self, or_self, ite_self, bI_0, bI_1, bI_01, Bool.false_eq_true, reduceCtorEq, s_Sf_holdAsRow, rr, Int.toNat_natCast]
          refine hQ' 0 _ ?_
          rw [if_neg (by omega)]
          refine ⟨rfl, n, hn, fun h h2' => ?_, fun b q hb => ?_⟩
          · rw [← hC_FX hx]; exact hh h h2'
          · unfold mkC zfl
            simp only [rd]
            rw [hx b q hb]
        · have lc_le : (zlcmp v 12 ≤ 0) = False := by unfold zlcmp; simp only [eq_iff_iff, iff_false]; (repeat' split) <;> omega
          simp only [u_Do_makeRow_24, u_Do_makeRow_26, u_Do_makeRow_27, u_Do_makeRow_30, u_Do_makeRow_33, u_Do_makeRow_36, u_Do_makeRow_37, u_Do_makeRow_40, u_Do_makeRow_43, u_Do_makeRow_44, u_Do_makeRow_46, u_Do_makeRow_47, u_Do_makeRow_48, u_Do_makeRow_51, u_Do_makeRow_53, u_Do_makeRow_56, u_Do_makeRow_57, u_Do_makeRow_60, u_Do_makeRow_62, h1_152, h1_149, gt_152_2, ne_eq, not_false_eq_true, not_true_eq_false, true_and, and_true, true_or, or_true, eq_self, Option.toList_some, Option.toList_none, List.cons_append, List.nil_append, tc_0, tc_I, tc_L, tc_A, Nat.reduceAdd, Nat.reduceLeDiff, Nat.reduceEqDiff, Int.reduceEq, Int.reduceLT, Int.reduceLE, Int.reduceNeg, Int.reduceToNat, Int.cast_ofNat_Int, if_true, if_false, and_self, or_self, ite_self, bI_0, bI_1, bI_01, Bool.false_eq_true, reduceCtorEq, s_Wo_refused, a2, lc_lt, h2, lc_le]
          exact hQ' 7 f1 (by rw [if_pos (Or.inr (by omega))]; exact ⟨rfl, hx⟩)
  · simp only [u_Do_makeRow_0, u_Do_makeRow_1, u_Do_makeRow_4, u_Do_makeRow_5, u_Do_makeRow_8, u_Do_makeRow_9, u_Do_makeRow_12, u_Do_makeRow_14, h1_152, h1_28, gt_152_1, ne_eq, not_false_eq_true, not_true_eq_false, true_and, and_true, true_or, or_true, eq_self, Option.toList_some, Option.toList_none, List.cons_append, List.nil_append, tc_0, tc_I, tc_L, tc_A, Nat.reduceAdd, Nat.reduceLeDiff, Nat.reduceEqDiff, Int.reduceEq, Int.reduceLT, Int.reduceLE, Int.reduceNeg, Int.reduceToNat, Int.cast_ofNat_Int, if_true, if_false, and_self, or_self, ite_self, bI_0, bI_1, bI_01, Bool.false_eq_true, reduceCtorEq, s_Sf_heldByRow, hrw, h1]
    exact hQ 14 _ (by rw [if_neg h1]; exact ⟨rfl, FX_0⟩)
theorem p_Do_endRow {gg : Mem} {r : Nat} (hT : isT a) (hl : t a 1 ≤ 1000) (hc : c ≤ 12) (hS : RSt f gg TH) (hr : r < 6) (e : EE c) (he : wX e) (hi : 1 ≤ i) (hkd : kKind (tok t a (i - 1)) = true) (hs : seg (tok t a) i j (kX e)) (hj : tok t a j = 59) (hQ : ∀ code f', (if f 29 r = -1 then code = 2 ∧ FX f f' else if f 31 (f 29 r).toNat = tok t a (i - 1) - 217 then (match vE (vF (envC f brN) c) e with
    | .error w => code = w ∧ ¬ w = 0 ∧ FX f f'
    | .ok (v, _) => (code = 0 ∧ v = f 32 (f 29 r).toNat ∧ (∀ i : Nat, (i : Int) < f 32 (f 29 r).toNat → f (34 + (f 29 r).toNat) i = 0) ∧ FX (mset f 29 r (-1)) f') ∨ (code = 8 ∧ (v = f 32 (f 29 r).toNat → ∃ i : Nat, (i : Int) < f 32 (f 29 r).toNat ∧ ¬ f (34 + (f 29 r).toNat) i = 0) ∧ FX f f')) else code = 10 ∧ FX f f') → Q (some (tI code)) (WW f' t g)) : VV L (d + 5 * c + 8) m_Do_endRow 0 [some (tA 152), some (tI r), some (tA a), some (tI i), none, none, none] [] (WW (wo0 f) t g) Q := by
  have a0 := xT_0 hT
  have h29 : wo0 f 29 r = f 29 r := FX_0 29 r (by omega)
  have hrw : rwH (wo0 f) r = f 29 r := by unfold rwH; rw [if_pos (by omega), Int.toNat_natCast, h29]
  have hjt := tok_ne (show ¬ tok t a j = 0 by omega)
  have hij := hs.1
  have wi : w32 (i - 1) = i - 1 := w32_id (by omega) (by omega)
  have hk : 217 ≤ tok t a (i - 1) ∧ tok t a (i - 1) ≤ 221 := by unfold kKind at hkd; simpa using hkd
  have wk : w32 (tok t a (i - 1) - 217) = tok t a (i - 1) - 217 := w32_id (by omega) (by omega)
  have rr : (0 ≤ (r : Int) ∧ (r : Int) < 6) := by omega
  by_cases h1 : f 29 r = -1
  · simp only [u_Do_endRow_0, u_Do_endRow_1, u_Do_endRow_4, u_Do_endRow_5, u_Do_endRow_8, u_Do_endRow_10, u_Do_endRow_12, u_Do_endRow_13, u_Do_endRow_16, u_Do_endRow_17, h1_152, h1_28, gt_152_1, ne_eq, not_false_eq_true, not_true_eq_false, true_and, and_true, true_or, or_true, eq_self, Option.toList_some, Option.toList_none, List.cons_append, List.nil_append, tc_0, tc_I, tc_L, tc_A, Nat.reduceAdd, Nat.reduceLeDiff, Nat.reduceEqDiff, Int.reduceEq, Int.reduceLT, Int.reduceLE, Int.reduceNeg, Int.reduceToNat, Int.cast_ofNat_Int, if_true, if_false, and_self, or_self, ite_self, bI_0, bI_1, bI_01, Bool.false_eq_true, reduceCtorEq, s_Sf_heldByRow, hrw, h1]
    exact hQ 2 _ (by rw [if_pos h1]; exact ⟨rfl, FX_0⟩)
  · have hrr := hS.rw r (by omega)
    rw [hC_r hr] at hrr
    have hrr := hrr.resolve_left (fun q => h1 q.1)
    obtain ⟨q1, q2, _⟩ := hrr
    have hkd2 : kdS (wo0 f) (f 29 r) = f 31 (f 29 r).toNat := by unfold kdS; rw [if_pos ⟨q1, q2⟩, FX_0 31 _ (by omega)]
    by_cases h2 : f 31 (f 29 r).toNat = tok t a (i - 1) - 217
    · simp only [u_Do_endRow_0, u_Do_endRow_1, u_Do_endRow_4, u_Do_endRow_5, u_Do_endRow_8, u_Do_endRow_10, u_Do_endRow_12, u_Do_endRow_13, u_Do_endRow_16, u_Do_endRow_17, u_Do_endRow_18, u_Do_endRow_19, u_Do_endRow_22, u_Do_endRow_24, u_Do_endRow_27, u_Do_endRow_28, u_Do_endRow_29, u_Do_endRow_30, u_Do_endRow_31, u_Do_endRow_34, u_Do_endRow_37, u_Do_endRow_38, u_Do_endRow_41, u_Do_endRow_43, u_Do_endRow_44, u_Do_endRow_45, u_Do_endRow_48, u_Do_endRow_49, u_Do_endRow_50, h1_152, h1_28, h1_149, gt_152_1, gt_152_2, xT_h1, ne_eq, not_false_eq_true, not_true_eq_false, true_and, and_true, true_or, or_true, eq_self, Option.toList_some, Option.toList_none, List.cons_append, List.nil_append, tc_0, tc_I, tc_L, tc_A, Nat.reduceAdd, Nat.reduceLeDiff, Nat.reduceEqDiff, Int.reduceEq, Int.reduceLT, Int.reduceLE, Int.reduceNeg, Int.reduceToNat, Int.cast_ofNat_Int, if_true, if_false, and_self, or_self, ite_self, bI_0, bI_1, bI_01, Bool.false_eq_true, reduceCtorEq, s_Sf_heldByRow, hrw, h1, s_Sf_kindOf, hkd2, a0, hT, wi, s_Tx_token hT hl, wk, h2]
      refine p_Wo_sumAt (D := d + 5 * c + 4) hT hl hc (by omega) e he (EnC_0 hS) WS_0 wo0_7 (by omega) hs (by rw [hj]; decide) (by rw [hj]; decide) ?_
      have hQ' := fun code f' h => hQ code f' (by rw [if_neg h1, if_pos h2]; exact h)
      cases hv : vE (vF (envC f brN) c) e with
      | error w =>
        rw [hv] at hQ'
        intro f1 u a1 a2 a3
        simp only [u_Do_endRow_53, u_Do_endRow_55, u_Do_endRow_56, u_Do_endRow_59, u_Do_endRow_62, u_Do_endRow_65, u_Do_endRow_66, u_Do_endRow_69, u_Do_endRow_72, h1_152, h1_149, gt_152_2, ne_eq, not_false_eq_true, not_true_eq_false, true_and, and_true, true_or, or_true, eq_self, Option.toList_some, Option.toList_none, List.cons_append, List.nil_append, tc_0, tc_I, tc_L, tc_A, Nat.reduceAdd, Nat.reduceLeDiff, Nat.reduceEqDiff, Int.reduceEq, Int.reduceLT, Int.reduceLE, Int.reduceNeg, Int.reduceToNat, Int.cast_ofNat_Int, if_true, if_false, and_self, or_self, ite_self, bI_0, bI_1, bI_01, Bool.false_eq_true, reduceCtorEq, s_Wo_refused, a2, a3]
        exact hQ' w f1 ⟨rfl, a3, FX_tr FX_0 (FX_5 a1)⟩
      | ok z =>
        obtain ⟨v, q⟩ := z
        rw [hv] at hQ'
        dsimp only at hQ'
        intro f1 a1 a2 a3
        have hx := FX_tr FX_0 (FX_5 a1)
        have hct : ctS f1 (f 29 r) = f 32 (f 29 r).toNat := by unfold ctS; rw [if_pos ⟨q1, q2⟩, hx 32 _ (by omega)]
        have h32 : f1 32 (f 29 r).toNat = f 32 (f 29 r).toNat := hx 32 _ (by omega)
        have h34 : ∀ i : Nat, f1 (34 + (f 29 r).toNat) i = f (34 + (f 29 r).toNat) i := fun i => hx _ i (by omega)
        have hcc := hS.cC (f 29 r).toNat (by omega)
        by_cases h3 : v = f 32 (f 29 r).toNat
        · simp only [u_Do_endRow_53, u_Do_endRow_55, u_Do_endRow_56, u_Do_endRow_59, u_Do_endRow_62, u_Do_endRow_65, u_Do_endRow_66, u_Do_endRow_69, u_Do_endRow_72, u_Do_endRow_73, u_Do_endRow_75, u_Do_endRow_76, u_Do_endRow_79, u_Do_endRow_81, u_Do_endRow_84, u_Do_endRow_85, u_Do_endRow_86, u_Do_endRow_89, u_Do_endRow_90, u_Do_endRow_93, u_Do_endRow_95, h1_152, h1_149, h1_28, gt_152_2, gt_152_1, ne_eq, not_false_eq_true, not_true_eq_false, true_and, and_true, true_or, or_true, eq_self, Option.toList_some, Option.toList_none, List.cons_append, List.nil_append, tc_0, tc_I, tc_L, tc_A, Nat.reduceAdd, Nat.reduceLeDiff, Nat.reduceEqDiff, Int.reduceEq, Int.reduceLT, Int.reduceLE, Int.reduceNeg, Int.reduceToNat, Int.cast_ofNat_Int, if_true, if_false, and_self, or_self, ite_self, bI_0, bI_1, bI_01, Bool.false_eq_true, reduceCtorEq, s_Wo_refused, a2, s_Sf_countOf, hct, lc_eq, h3]
          refine p_Sf_isAllNaught q1 q2 (by rw [h32]; exact hcc) (fun hall => ?_) (fun i hi hne => ?_)
          · simp only [u_Do_endRow_98, u_Do_endRow_101, u_Do_endRow_103, u_Do_endRow_104, u_Do_endRow_105, u_Do_endRow_108, u_Do_endRow_109, u_Do_endRow_110, u_Do_endRow_113, u_Do_endRow_114, h1_152, h1_28, gt_152_1, ne_eq, not_false_eq_true, not_true_eq_false, true_and, and_true, true_or, or_true, eq_self, Option.toList_some, Option.toList_none, List.cons_append, List.nil_append, tc_0, tc_I, tc_L, tc_A, Nat.reduceAdd, Nat.reduceLeDiff, Nat.reduceEqDiff, Int.reduceEq, Int.reduceLT, Int.reduceLE, Int.reduceNeg, Int.reduceToNat, Int.cast_ofNat_Int, if_true, if_false, and_self, or_self, ite_self, bI_0, bI_1, bI_01, Bool.false_eq_true, reduceCtorEq, s_Sf_holdAsRow, rr, Int.toNat_natCast]
            refine hQ' 0 _ (Or.inl ⟨rfl, h3, fun i hi => ?_, fun b q hb => ?_⟩)
            · rw [← h34]; exact hall i (by rw [h32]; exact hi)
            · simp only [rd]; rw [hx b q hb]
          · simp only [u_Do_endRow_98, u_Do_endRow_101, u_Do_endRow_103, ne_eq, not_false_eq_true, not_true_eq_false, true_and, and_true, true_or, or_true, eq_self, Option.toList_some, Option.toList_none, List.cons_append, List.nil_append, tc_0, tc_I, tc_L, tc_A, Nat.reduceAdd, Nat.reduceLeDiff, Nat.reduceEqDiff, Int.reduceEq, Int.reduceLT, Int.reduceLE, Int.reduceNeg, Int.reduceToNat, Int.cast_ofNat_Int, if_true, if_false, and_self, or_self, ite_self, bI_0, bI_1, bI_01, Bool.false_eq_true, reduceCtorEq]
            exact hQ' 8 _ (Or.inr ⟨rfl, fun _ => ⟨i, by rw [← h32]; exact hi, by rw [← h34]; exact hne⟩, hx⟩)
        · simp only [u_Do_endRow_53, u_Do_endRow_55, u_Do_endRow_56, u_Do_endRow_59, u_Do_endRow_62, u_Do_endRow_65, u_Do_endRow_66, u_Do_endRow_69, u_Do_endRow_72, u_Do_endRow_73, u_Do_endRow_75, u_Do_endRow_76, u_Do_endRow_79, u_Do_endRow_81, u_Do_endRow_84, u_Do_endRow_85, u_Do_endRow_86, u_Do_endRow_89, u_Do_endRow_90, u_Do_endRow_93, u_Do_endRow_95, u_Do_endRow_98, u_Do_endRow_101, u_Do_endRow_103, h1_152, h1_149, h1_28, gt_152_2, gt_152_1, ne_eq, not_false_eq_true, not_true_eq_false, true_and, and_true, true_or, or_true, eq_self, Option.toList_some, Option.toList_none, List.cons_append, List.nil_append, tc_0, tc_I, tc_L, tc_A, Nat.reduceAdd, Nat.reduceLeDiff, Nat.reduceEqDiff, Int.reduceEq, Int.reduceLT, Int.reduceLE, Int.reduceNeg, Int.reduceToNat, Int.cast_ofNat_Int, if_true, if_false, and_self, or_self, ite_self, bI_0, bI_1, bI_01, Bool.false_eq_true, reduceCtorEq, s_Wo_refused, a2, s_Sf_countOf, hct, lc_eq, h3]
          exact hQ' 8 _ (Or.inr ⟨rfl, fun hh => absurd hh h3, hx⟩)
    · simp only [u_Do_endRow_0, u_Do_endRow_1, u_Do_endRow_4, u_Do_endRow_5, u_Do_endRow_8, u_Do_endRow_10, u_Do_endRow_12, u_Do_endRow_13, u_Do_endRow_16, u_Do_endRow_17, u_Do_endRow_18, u_Do_endRow_19, u_Do_endRow_22, u_Do_endRow_24, u_Do_endRow_27, u_Do_endRow_28, u_Do_endRow_29, u_Do_endRow_30, u_Do_endRow_31, u_Do_endRow_34, u_Do_endRow_37, u_Do_endRow_38, u_Do_endRow_41, u_Do_endRow_43, h1_152, h1_28, gt_152_1, xT_h1, ne_eq, not_false_eq_true, not_true_eq_false, true_and, and_true, true_or, or_true, eq_self, Option.toList_some, Option.toList_none, List.cons_append, List.nil_append, tc_0, tc_I, tc_L, tc_A, Nat.reduceAdd, Nat.reduceLeDiff, Nat.reduceEqDiff, Int.reduceEq, Int.reduceLT, Int.reduceLE, Int.reduceNeg, Int.reduceToNat, Int.cast_ofNat_Int, if_true, if_false, and_self, or_self, ite_self, bI_0, bI_1, bI_01, Bool.false_eq_true, reduceCtorEq, s_Sf_heldByRow, hrw, h1, s_Sf_kindOf, hkd2, a0, hT, wi, s_Tx_token hT hl, wk, h2]
      exact hQ 10 _ (by rw [if_neg h1, if_neg h2]; exact ⟨rfl, FX_0⟩)
end
