/-! Doing a step, the class: let, unlet, push, pop -/
def bgN (f : Mem) (k : Nat) (v : Int) : Mem := mset (mset f 20 k 1) 21 k v
section
variable {L d a c : Nat} {f t g : Mem} {Q : Option TV → Wd → Prop} {TH : Nat} {i j : Int}
theorem thr_k {k : Nat} (hk : k < 26) (h : f 20 k = 0 ∨ f 20 k = 1) : thr f k = decide (f 20 k = 1) := by
  unfold thr
  rw [Int.toNat_natCast, decide_eq_decide]
  omega
theorem nm01 {gg : Mem} (h : RSt f gg TH) {k : Nat} (hk : k < 26) : f 20 k = 0 ∨ f 20 k = 1 := by
  rcases h.nm k hk with q | q
  · exact Or.inl q.1
  · exact Or.inr q.1
theorem s_Wo_refused : VV L d m_Wo_refused 0 [some (tA 149)] [] (WW f t g) Q = Q (some (tI (f 149 7))) (WW f t g) := by
  simp only [u_Wo_refused_0, u_Wo_refused_1, u_Wo_refused_4, h1_149, gt_149_7, pt_149_7, ne_eq, not_false_eq_true, not_true_eq_false, true_and, and_true, true_or, or_true, eq_self, Option.toList_some, Option.toList_none, List.cons_append, List.nil_append, tc_0, tc_I, tc_L, tc_A, Nat.reduceAdd, Nat.reduceLeDiff, Nat.reduceEqDiff, Int.reduceEq, Int.reduceLT, Int.reduceLE, Int.reduceNeg, Int.reduceToNat, Int.cast_ofNat_Int, if_true, if_false, and_self, or_self, ite_self, bI_0, bI_1, bI_01, Bool.false_eq_true, reduceCtorEq]
theorem p_Do_let {gg : Mem} {k : Nat} (hT : isT a) (hl : t a 1 ≤ 1000) (hc : c ≤ 12) (hS : RSt f gg TH) (hk : k < 26) (e : EE c) (he : wX e) (hi : 0 ≤ i) (hs : seg (tok t a) i j (kX e)) (hj : tok t a j = 59) (hQ : ∀ code f', (if f 20 k = 1 then code = 14 ∧ FX f f' else match vE (vF (envC f brN) c) e with
    | .error w => code = w ∧ ¬ w = 0 ∧ FX f f'
    | .ok (v, _) => code = 0 ∧ FX (bgN f k (w32 v)) f') → Q (some (tI code)) (WW f' t g)) : VV L (d + 5 * c + 8) m_Do_let 0 [some (tA 152), some (tI k), some (tA a), some (tI i), none, none] [] (WW (wo0 f) t g) Q := by
  have a0 := xT_0 hT
  have h0 : wo0 f 20 k = f 20 k := FX_0 20 k (by omega)
  have ht := thr_k (f := wo0 f) hk (by rw [h0]; exact nm01 hS hk)
  rw [h0] at ht
  by_cases h1 : f 20 k = 1
  · simp only [u_Do_let_0, u_Do_let_1, u_Do_let_4, u_Do_let_5, u_Do_let_8, u_Do_let_11, u_Do_let_13, h1_152, h1_19, gt_152_0, ne_eq, not_false_eq_true, not_true_eq_false, true_and, and_true, true_or, or_true, eq_self, Option.toList_some, Option.toList_none, List.cons_append, List.nil_append, tc_0, tc_I, tc_L, tc_A, Nat.reduceAdd, Nat.reduceLeDiff, Nat.reduceEqDiff, Int.reduceEq, Int.reduceLT, Int.reduceLE, Int.reduceNeg, Int.reduceToNat, Int.cast_ofNat_Int, if_true, if_false, and_self, or_self, ite_self, bI_0, bI_1, bI_01, Bool.false_eq_true, reduceCtorEq, s_St_isThere, ht, h1, decide_true, bB_t]
    exact hQ 14 _ (by rw [if_pos h1]; exact ⟨rfl, FX_0⟩)
  · simp only [u_Do_let_0, u_Do_let_1, u_Do_let_4, u_Do_let_5, u_Do_let_8, u_Do_let_11, u_Do_let_13, u_Do_let_14, u_Do_let_15, u_Do_let_18, u_Do_let_19, u_Do_let_20, h1_152, h1_19, h1_149, gt_152_0, gt_152_2, ne_eq, not_false_eq_true, not_true_eq_false, true_and, and_true, true_or, or_true, eq_self, Option.toList_some, Option.toList_none, List.cons_append, List.nil_append, tc_0, tc_I, tc_L, tc_A, Nat.reduceAdd, Nat.reduceLeDiff, Nat.reduceEqDiff, Int.reduceEq, Int.reduceLT, Int.reduceLE, Int.reduceNeg, Int.reduceToNat, Int.cast_ofNat_Int, if_true, if_false, and_self, or_self, ite_self, bI_0, bI_1, bI_01, Bool.false_eq_true, reduceCtorEq, s_St_isThere, ht, h1, decide_false, bB_f, a0]
    refine p_Wo_sumAt (D := d + 5 * c + 4) hT hl hc (by omega) e he (EnC_0 hS) WS_0 wo0_7 hi hs (by rw [hj]; decide) (by rw [hj]; decide) ?_
    have hQ' := fun code f' h => hQ code f' (by rw [if_neg h1]; exact h)
    cases hv : vE (vF (envC f brN) c) e with
    | error w =>
      rw [hv] at hQ'
      intro f1 u a1 a2 a3
      simp only [u_Do_let_23, u_Do_let_25, u_Do_let_26, u_Do_let_29, u_Do_let_32, u_Do_let_35, u_Do_let_36, u_Do_let_39, u_Do_let_40, u_Do_let_42, u_Do_let_43, u_Do_let_46, u_Do_let_47, u_Do_let_50, u_Do_let_53, h1_152, h1_149, gt_152_2, ne_eq, not_false_eq_true, not_true_eq_false, true_and, and_true, true_or, or_true, eq_self, Option.toList_some, Option.toList_none, List.cons_append, List.nil_append, tc_0, tc_I, tc_L, tc_A, Nat.reduceAdd, Nat.reduceLeDiff, Nat.reduceEqDiff, Int.reduceEq, Int.reduceLT, Int.reduceLE, Int.reduceNeg, Int.reduceToNat, Int.cast_ofNat_Int, if_true, if_false, and_self, or_self, ite_self, bI_0, bI_1, bI_01, Bool.false_eq_true, reduceCtorEq, s_Wo_refused, a2, a3]
      exact hQ' w f1 ⟨rfl, a3, FX_tr FX_0 (FX_5 a1)⟩
    | ok z =>
      obtain ⟨v, q⟩ := z
      rw [hv] at hQ'
      intro f1 a1 a2 a3
      have kk : (0 ≤ (k : Int) ∧ (k : Int) < 26) := by omega
      have e7 : (mset (mset f1 20 k 1) 21 k (w32 v)) 149 7 = 0 := by rw [rd, if_neg (by omega), rd, if_neg (by omega)]; exact a2
      simp only [u_Do_let_23, u_Do_let_25, u_Do_let_26, u_Do_let_29, u_Do_let_32, u_Do_let_35, u_Do_let_36, u_Do_let_39, u_Do_let_40, u_Do_let_42, u_Do_let_43, h1_152, h1_149, h1_19, gt_152_2, gt_152_0, ne_eq, not_false_eq_true, not_true_eq_false, true_and, and_true, true_or, or_true, eq_self, Option.toList_some, Option.toList_none, List.cons_append, List.nil_append, tc_0, tc_I, tc_L, tc_A, Nat.reduceAdd, Nat.reduceLeDiff, Nat.reduceEqDiff, Int.reduceEq, Int.reduceLT, Int.reduceLE, Int.reduceNeg, Int.reduceToNat, Int.cast_ofNat_Int, if_true, if_false, and_self, or_self, ite_self, bI_0, bI_1, bI_01, Bool.false_eq_true, reduceCtorEq, s_Wo_refused, a2, s_St_bring, kk, Int.toNat_natCast]
      simp only [u_Do_let_46, u_Do_let_47, u_Do_let_50, u_Do_let_53, h1_152, h1_149, gt_152_2, ne_eq, not_false_eq_true, not_true_eq_false, true_and, and_true, true_or, or_true, eq_self, Option.toList_some, Option.toList_none, List.cons_append, List.nil_append, tc_0, tc_I, tc_L, tc_A, Nat.reduceAdd, Nat.reduceLeDiff, Nat.reduceEqDiff, Int.reduceEq, Int.reduceLT, Int.reduceLE, Int.reduceNeg, Int.reduceToNat, Int.cast_ofNat_Int, if_true, if_false, and_self, or_self, ite_self, bI_0, bI_1, bI_01, Bool.false_eq_true, reduceCtorEq, s_Wo_refused, e7]
      refine hQ' 0 _ ⟨rfl, fun b q hh => ?_⟩
      have hx := FX_tr FX_0 (FX_5 a1)
      unfold bgN
      simp only [rd]
      rw [hx b q hh]
theorem p_Do_unlet {gg : Mem} {k : Nat} (hT : isT a) (hl : t a 1 ≤ 1000) (hc : c ≤ 12) (hS : RSt f gg TH) (hk : k < 26) (e : EE c) (he : wX e) (hi : 0 ≤ i) (hs : seg (tok t a) i j (kX e)) (hj : tok t a j = 59) (hQ : ∀ code f', (if f 20 k = 1 then (match vE (vF (envC f brN) c) e with
    | .error w => code = w ∧ ¬ w = 0 ∧ FX f f'
    | .ok (v, _) => if f 21 k = w32 v then code = 0 ∧ FX (mset f 20 k 0) f' else code = 8 ∧ FX f f') else code = 1 ∧ FX f f') → Q (some (tI code)) (WW f' t g)) : VV L (d + 5 * c + 8) m_Do_unlet 0 [some (tA 152), some (tI k), some (tA a), some (tI i), none, none] [] (WW (wo0 f) t g) Q := by
  have a0 := xT_0 hT
  have h0 : wo0 f 20 k = f 20 k := FX_0 20 k (by omega)
  have ht := thr_k (f := wo0 f) hk (by rw [h0]; exact nm01 hS hk)
  rw [h0] at ht
  have kk : (0 ≤ (k : Int) ∧ (k : Int) < 26) := by omega
  by_cases h1 : f 20 k = 1
  · simp only [u_Do_unlet_0, u_Do_unlet_1, u_Do_unlet_4, u_Do_unlet_5, u_Do_unlet_8, u_Do_unlet_11, u_Do_unlet_12, u_Do_unlet_13, u_Do_unlet_14, u_Do_unlet_17, u_Do_unlet_18, u_Do_unlet_19, h1_152, h1_19, h1_149, gt_152_0, gt_152_2, ne_eq, not_false_eq_true, not_true_eq_false, true_and, and_true, true_or, or_true, eq_self, Option.toList_some, Option.toList_none, List.cons_append, List.nil_append, tc_0, tc_I, tc_L, tc_A, Nat.reduceAdd, Nat.reduceLeDiff, Nat.reduceEqDiff, Int.reduceEq, Int.reduceLT, Int.reduceLE, Int.reduceNeg, Int.reduceToNat, Int.cast_ofNat_Int, if_true, if_false, and_self, or_self, ite_self, bI_0, bI_1, bI_01, Bool.false_eq_true, reduceCtorEq, s_St_isThere, ht, h1, decide_true, bB_t, a0]
    refine p_Wo_sumAt (D := d + 5 * c + 4) hT hl hc (by omega) e he (EnC_0 hS) WS_0 wo0_7 hi hs (by rw [hj]; decide) (by rw [hj]; decide) ?_
    have hQ' := fun code f' h => hQ code f' (by rw [if_pos h1]; exact h)
    cases hv : vE (vF (envC f brN) c) e with
    | error w =>
      rw [hv] at hQ'
      intro f1 u a1 a2 a3
      simp only [u_Do_unlet_22, u_Do_unlet_24, u_Do_unlet_25, u_Do_unlet_28, u_Do_unlet_31, u_Do_unlet_34, u_Do_unlet_35, u_Do_unlet_38, u_Do_unlet_41, h1_152, h1_149, gt_152_2, ne_eq, not_false_eq_true, not_true_eq_false, true_and, and_true, true_or, or_true, eq_self, Option.toList_some, Option.toList_none, List.cons_append, List.nil_append, tc_0, tc_I, tc_L, tc_A, Nat.reduceAdd, Nat.reduceLeDiff, Nat.reduceEqDiff, Int.reduceEq, Int.reduceLT, Int.reduceLE, Int.reduceNeg, Int.reduceToNat, Int.cast_ofNat_Int, if_true, if_false, and_self, or_self, ite_self, bI_0, bI_1, bI_01, Bool.false_eq_true, reduceCtorEq, s_Wo_refused, a2, a3]
      exact hQ' w f1 ⟨rfl, a3, FX_tr FX_0 (FX_5 a1)⟩
    | ok z =>
      obtain ⟨v, q⟩ := z
      rw [hv] at hQ'
      dsimp only at hQ'
      intro f1 a1 a2 a3
      have hx := FX_tr FX_0 (FX_5 a1)
      have hw : wrt f1 k = f 21 k := by
        have h1' : f1 20 k = 1 := by rw [hx 20 k (by omega)]; exact h1
        have : thr f1 k = true := by rw [thr_k hk (Or.inr h1'), h1']; rfl
        unfold wrt; rw [if_pos this, Int.toNat_natCast, hx 21 k (by omega)]
      by_cases h2 : f 21 k = w32 v
      · simp only [u_Do_unlet_22, u_Do_unlet_24, u_Do_unlet_25, u_Do_unlet_28, u_Do_unlet_31, u_Do_unlet_34, u_Do_unlet_35, u_Do_unlet_38, u_Do_unlet_41, u_Do_unlet_42, u_Do_unlet_43, u_Do_unlet_46, u_Do_unlet_47, u_Do_unlet_50, u_Do_unlet_52, u_Do_unlet_53, u_Do_unlet_56, u_Do_unlet_58, u_Do_unlet_59, u_Do_unlet_60, u_Do_unlet_63, u_Do_unlet_64, u_Do_unlet_67, u_Do_unlet_68, h1_152, h1_149, h1_19, gt_152_2, gt_152_0, ne_eq, not_false_eq_true, not_true_eq_false, true_and, and_true, true_or, or_true, eq_self, Option.toList_some, Option.toList_none, List.cons_append, List.nil_append, tc_0, tc_I, tc_L, tc_A, Nat.reduceAdd, Nat.reduceLeDiff, Nat.reduceEqDiff, Int.reduceEq, Int.reduceLT, Int.reduceLE, Int.reduceNeg, Int.reduceToNat, Int.cast_ofNat_Int, if_true, if_false, and_self, or_self, ite_self, bI_0, bI_1, bI_01, Bool.false_eq_true, reduceCtorEq, s_Wo_refused, a2, s_St_worthOf, hw, h2, s_St_remove, kk, Int.toNat_natCast]
        refine hQ' 0 _ ?_
        rw [if_pos h2]
        refine ⟨rfl, fun b q hh => ?_⟩
        simp only [rd]
        rw [hx b q hh]
      · simp only [u_Do_unlet_22, u_Do_unlet_24, u_Do_unlet_25, u_Do_unlet_28, u_Do_unlet_31, u_Do_unlet_34, u_Do_unlet_35, u_Do_unlet_38, u_Do_unlet_41, u_Do_unlet_42, u_Do_unlet_43, u_Do_unlet_46, u_Do_unlet_47, u_Do_unlet_50, u_Do_unlet_52, u_Do_unlet_53, u_Do_unlet_56, u_Do_unlet_58, h1_152, h1_149, h1_19, gt_152_2, gt_152_0, ne_eq, not_false_eq_true, not_true_eq_false, true_and, and_true, true_or, or_true, eq_self, Option.toList_some, Option.toList_none, List.cons_append, List.nil_append, tc_0, tc_I, tc_L, tc_A, Nat.reduceAdd, Nat.reduceLeDiff, Nat.reduceEqDiff, Int.reduceEq, Int.reduceLT, Int.reduceLE, Int.reduceNeg, Int.reduceToNat, Int.cast_ofNat_Int, if_true, if_false, and_self, or_self, ite_self, bI_0, bI_1, bI_01, Bool.false_eq_true, reduceCtorEq, s_Wo_refused, a2, s_St_worthOf, hw, h2]
        refine hQ' 8 _ ?_
        rw [if_neg h2]
        exact ⟨rfl, hx⟩
  · simp only [u_Do_unlet_0, u_Do_unlet_1, u_Do_unlet_4, u_Do_unlet_5, u_Do_unlet_8, u_Do_unlet_11, u_Do_unlet_12, h1_152, h1_19, gt_152_0, ne_eq, not_false_eq_true, not_true_eq_false, true_and, and_true, true_or, or_true, eq_self, Option.toList_some, Option.toList_none, List.cons_append, List.nil_append, tc_0, tc_I, tc_L, tc_A, Nat.reduceAdd, Nat.reduceLeDiff, Nat.reduceEqDiff, Int.reduceEq, Int.reduceLT, Int.reduceLE, Int.reduceNeg, Int.reduceToNat, Int.cast_ofNat_Int, if_true, if_false, and_self, or_self, ite_self, bI_0, bI_1, bI_01, Bool.false_eq_true, reduceCtorEq, s_St_isThere, ht, h1, decide_false, bB_f]
    exact hQ 1 _ (by rw [if_neg h1]; exact ⟨rfl, FX_0⟩)
def puC (f : Mem) (k s : Nat) : Mem := bgN (mset (mset f 27 s (f 27 s + 1)) (23 + s) (f 27 s).toNat (f 21 k)) k 0
def poC (f : Mem) (k s : Nat) : Mem := bgN (mset f 27 s (f 27 s - 1)) k (f (23 + s) (f 27 s - 1).toNat)
theorem s_St_pile {s : Nat} {v : Int} (hs : s < 4) (h0 : 0 ≤ f 27 s) (h1 : f 27 s < 30) : VV L (d + 1) m_St_pile 0 [some (tA 19), some (tI s), some (tI v)] [] (WW f t g) Q = Q none (WW (mset (mset f 27 s (f 27 s + 1)) (23 + s) (f 27 s).toNat v) t g) := by
  have ss : (0 ≤ (s : Int) ∧ (s : Int) < 4) := by omega
  have wh : w32 (f 27 s + 1) = f 27 s + 1 := w32_id (by omega) (by omega)
  simp only [u_St_pile_0, u_St_pile_1, u_St_pile_4, u_St_pile_7, u_St_pile_8, u_St_pile_11, u_St_pile_12, u_St_pile_13, u_St_pile_15, u_St_pile_18, u_St_pile_19, u_St_pile_22, u_St_pile_23, u_St_pile_24, u_St_pile_25, u_St_pile_28, u_St_pile_29, u_St_pile_30, u_St_pile_31, u_St_pile_32, u_St_pile_33, u_St_pile_34, u_St_pile_35, u_St_pile_36, u_St_pile_37, h1_19, gt_19_3, h1_27, h2_27, gt_27, pt_27, gt_19_2, h1_22, h2_22, y22_g, y22_h, y22_z, y22_r, y22_w, ne_eq, not_false_eq_true, not_true_eq_false, true_and, and_true, true_or, or_true, eq_self, Option.toList_some, Option.toList_none, List.cons_append, List.nil_append, tc_0, tc_I, tc_L, tc_A, Nat.reduceAdd, Nat.reduceLeDiff, Nat.reduceEqDiff, Int.reduceEq, Int.reduceLT, Int.reduceLE, Int.reduceNeg, Int.reduceToNat, Int.cast_ofNat_Int, if_true, if_false, and_self, or_self, ite_self, bI_0, bI_1, bI_01, Bool.false_eq_true, reduceCtorEq, s_St_isStack, ss, decide_true, bB_t, Int.toNat_natCast, show 0 ≤ (s : Int) by omega, show (s : Int) < 4 by omega, show ¬ 30 ≤ f 27 s by omega, y22_g hs, y22_h hs, y22_z hs, y22_w hs, wh, h0, h1]
theorem p_Do_push {gg : Mem} {k s : Nat} (hS : RSt f gg TH) (hk : k < 26) (hs : s < 4) (hQ : ∀ code f', (if f 20 k = 1 then (if f 27 s = 30 then code = 9 ∧ FX f f' else code = 0 ∧ FX (puC f k s) f') else code = 1 ∧ FX f f') → Q (some (tI code)) (WW f' t g)) : VV L (d + 3) m_Do_push 0 [some (tA 152), some (tI k), some (tI s)] [] (WW (wo0 f) t g) Q := by
  have h0 : wo0 f 20 k = f 20 k := FX_0 20 k (by omega)
  have h27 : wo0 f 27 s = f 27 s := FX_0 27 s (by omega)
  have ht := thr_k (f := wo0 f) hk (by rw [h0]; exact nm01 hS hk)
  rw [h0] at ht
  have kk : (0 ≤ (k : Int) ∧ (k : Int) < 26) := by omega
  have hh := hS.hg s hs
  have hg : hgt (wo0 f) s = f 27 s := by unfold hgt; rw [if_pos (by omega), Int.toNat_natCast, h27]
  by_cases h1 : f 20 k = 1
  · have hw : wrt (wo0 f) k = f 21 k := by
      have : thr (wo0 f) k = true := by rw [ht, h1]; rfl
      unfold wrt; rw [if_pos this, Int.toNat_natCast, FX_0 21 k (by omega)]
    by_cases h2 : f 27 s = 30
    · simp only [u_Do_push_0, u_Do_push_1, u_Do_push_4, u_Do_push_5, u_Do_push_8, u_Do_push_11, u_Do_push_12, u_Do_push_13, u_Do_push_14, u_Do_push_17, u_Do_push_18, u_Do_push_21, u_Do_push_24, u_Do_push_26, h1_152, h1_19, gt_152_0, ne_eq, not_false_eq_true, not_true_eq_false, true_and, and_true, true_or, or_true, eq_self, Option.toList_some, Option.toList_none, List.cons_append, List.nil_append, tc_0, tc_I, tc_L, tc_A, Nat.reduceAdd, Nat.reduceLeDiff, Nat.reduceEqDiff, Int.reduceEq, Int.reduceLT, Int.reduceLE, Int.reduceNeg, Int.reduceToNat, Int.cast_ofNat_Int, if_true, if_false, and_self, or_self, ite_self, bI_0, bI_1, bI_01, Bool.false_eq_true, reduceCtorEq, s_St_isThere, ht, h1, decide_true, bB_t, s_St_isFull, hg, h2, Int.reduceLE]
      exact hQ 9 _ (by rw [if_pos h1, if_pos h2]; exact ⟨rfl, FX_0⟩)
    · simp only [u_Do_push_0, u_Do_push_1, u_Do_push_4, u_Do_push_5, u_Do_push_8, u_Do_push_11, u_Do_push_12, u_Do_push_13, u_Do_push_14, u_Do_push_17, u_Do_push_18, u_Do_push_21, u_Do_push_24, u_Do_push_26, u_Do_push_27, u_Do_push_28, u_Do_push_31, u_Do_push_32, u_Do_push_33, u_Do_push_36, u_Do_push_37, u_Do_push_40, u_Do_push_43, u_Do_push_44, u_Do_push_47, u_Do_push_48, u_Do_push_49, u_Do_push_52, u_Do_push_53, h1_152, h1_19, gt_152_0, ne_eq, not_false_eq_true, not_true_eq_false, true_and, and_true, true_or, or_true, eq_self, Option.toList_some, Option.toList_none, List.cons_append, List.nil_append, tc_0, tc_I, tc_L, tc_A, Nat.reduceAdd, Nat.reduceLeDiff, Nat.reduceEqDiff, Int.reduceEq, Int.reduceLT, Int.reduceLE, Int.reduceNeg, Int.reduceToNat, Int.cast_ofNat_Int, if_true, if_false, and_self, or_self, ite_self, bI_0, bI_1, bI_01, Bool.false_eq_true, reduceCtorEq, s_St_isThere, ht, h1, decide_true, bB_t, s_St_isFull, hg, show ¬ 30 ≤ f 27 s by omega, decide_false, bB_f, s_St_worthOf, hw, s_St_pile (f := wo0 f) hs (by rw [h27]; omega) (by rw [h27]; omega), s_St_bring, kk, Int.toNat_natCast, h27]
      refine hQ 0 _ ?_
      rw [if_pos h1, if_neg h2]
      refine ⟨rfl, fun b q hb => ?_⟩
      unfold puC bgN
      simp only [rd]
      rw [FX_0 b q hb]
  · simp only [u_Do_push_0, u_Do_push_1, u_Do_push_4, u_Do_push_5, u_Do_push_8, u_Do_push_11, u_Do_push_12, h1_152, h1_19, gt_152_0, ne_eq, not_false_eq_true, not_true_eq_false, true_and, and_true, true_or, or_true, eq_self, Option.toList_some, Option.toList_none, List.cons_append, List.nil_append, tc_0, tc_I, tc_L, tc_A, Nat.reduceAdd, Nat.reduceLeDiff, Nat.reduceEqDiff, Int.reduceEq, Int.reduceLT, Int.reduceLE, Int.reduceNeg, Int.reduceToNat, Int.cast_ofNat_Int, if_true, if_false, and_self, or_self, ite_self, bI_0, bI_1, bI_01, Bool.false_eq_true, reduceCtorEq, s_St_isThere, ht, h1, decide_false, bB_f]
    exact hQ 1 _ (by rw [if_neg h1]; exact ⟨rfl, FX_0⟩)
theorem s_St_intOf {s : Nat} {i : Int} (hs : s < 4) (h0 : 0 ≤ f 27 s) (h1 : f 27 s ≤ 30) : VV L (d + 1) m_St_intOf 0 [some (tA 19), some (tI s), some (tI i)] [] (WW f t g) Q = Q (some (tI (if 0 ≤ i ∧ i < f 27 s then f (23 + s) i.toNat else 0))) (WW f t g) := by
  have hg : hgt f s = f 27 s := by unfold hgt; rw [if_pos (by omega), Int.toNat_natCast]
  by_cases c1 : 0 ≤ i
  · by_cases c2 : i < f 27 s
    · rw [if_pos ⟨c1, c2⟩]
      simp only [u_St_intOf_0, u_St_intOf_1, u_St_intOf_4, u_St_intOf_5, u_St_intOf_6, u_St_intOf_7, u_St_intOf_10, u_St_intOf_13, u_St_intOf_14, u_St_intOf_16, u_St_intOf_19, u_St_intOf_20, u_St_intOf_23, u_St_intOf_24, u_St_intOf_25, u_St_intOf_26, u_St_intOf_27, u_St_intOf_30, u_St_intOf_31, h1_19, gt_19_2, h1_22, h2_22, y22_g, y22_h, y22_z, y22_r, y22_w, ne_eq, not_false_eq_true, not_true_eq_false, true_and, and_true, true_or, or_true, eq_self, Option.toList_some, Option.toList_none, List.cons_append, List.nil_append, tc_0, tc_I, tc_L, tc_A, Nat.reduceAdd, Nat.reduceLeDiff, Nat.reduceEqDiff, Int.reduceEq, Int.reduceLT, Int.reduceLE, Int.reduceNeg, Int.reduceToNat, Int.cast_ofNat_Int, if_true, if_false, and_self, or_self, ite_self, bI_0, bI_1, bI_01, Bool.false_eq_true, reduceCtorEq, show ¬ i < 0 by omega, s_St_heightOf, hg, show ¬ f 27 s ≤ i by omega, show ¬ 30 ≤ i by omega, show 0 ≤ (s : Int) by omega, show (s : Int) < 4 by omega, Int.toNat_natCast, y22_g hs, y22_h hs, y22_z hs, y22_r hs, c1, show i < 30 by omega]
    · rw [if_neg (by omega)]
      simp only [u_St_intOf_0, u_St_intOf_1, u_St_intOf_4, u_St_intOf_5, u_St_intOf_6, u_St_intOf_7, u_St_intOf_10, u_St_intOf_13, u_St_intOf_14, u_St_intOf_16, u_St_intOf_19, u_St_intOf_20, u_St_intOf_23, u_St_intOf_24, u_St_intOf_25, u_St_intOf_26, u_St_intOf_27, u_St_intOf_30, u_St_intOf_31, h1_19, gt_19_2, h1_22, h2_22, y22_g, y22_h, y22_z, y22_r, y22_w, ne_eq, not_false_eq_true, not_true_eq_false, true_and, and_true, true_or, or_true, eq_self, Option.toList_some, Option.toList_none, List.cons_append, List.nil_append, tc_0, tc_I, tc_L, tc_A, Nat.reduceAdd, Nat.reduceLeDiff, Nat.reduceEqDiff, Int.reduceEq, Int.reduceLT, Int.reduceLE, Int.reduceNeg, Int.reduceToNat, Int.cast_ofNat_Int, if_true, if_false, and_self, or_self, ite_self, bI_0, bI_1, bI_01, Bool.false_eq_true, reduceCtorEq, show ¬ i < 0 by omega, s_St_heightOf, hg, show f 27 s ≤ i by omega]
  · rw [if_neg (by omega)]
    simp only [u_St_intOf_0, u_St_intOf_1, u_St_intOf_4, u_St_intOf_5, u_St_intOf_6, u_St_intOf_7, u_St_intOf_10, u_St_intOf_13, u_St_intOf_14, u_St_intOf_16, u_St_intOf_19, u_St_intOf_20, u_St_intOf_23, u_St_intOf_24, u_St_intOf_25, u_St_intOf_26, u_St_intOf_27, u_St_intOf_30, u_St_intOf_31, h1_19, gt_19_2, h1_22, h2_22, y22_g, y22_h, y22_z, y22_r, y22_w, ne_eq, not_false_eq_true, not_true_eq_false, true_and, and_true, true_or, or_true, eq_self, Option.toList_some, Option.toList_none, List.cons_append, List.nil_append, tc_0, tc_I, tc_L, tc_A, Nat.reduceAdd, Nat.reduceLeDiff, Nat.reduceEqDiff, Int.reduceEq, Int.reduceLT, Int.reduceLE, Int.reduceNeg, Int.reduceToNat, Int.cast_ofNat_Int, if_true, if_false, and_self, or_self, ite_self, bI_0, bI_1, bI_01, Bool.false_eq_true, reduceCtorEq, show i < 0 by omega]
theorem s_St_unpile {s : Nat} (hs : s < 4) (h0 : 0 < f 27 s) (h1 : f 27 s ≤ 30) : VV L (d + 2) m_St_unpile 0 [some (tA 19), some (tI s), none] [] (WW f t g) Q = Q (some (tI (f (23 + s) (f 27 s - 1).toNat))) (WW (mset f 27 s (f 27 s - 1)) t g) := by
  have hg : hgt f s = f 27 s := by unfold hgt; rw [if_pos (by omega), Int.toNat_natCast]
  have wh : w32 (f 27 s - 1) = f 27 s - 1 := w32_id (by omega) (by omega)
  have hr : (0 ≤ f 27 s - 1 ∧ f 27 s - 1 < f 27 s) := by omega
  simp only [u_St_unpile_0, u_St_unpile_1, u_St_unpile_2, u_St_unpile_3, u_St_unpile_4, u_St_unpile_7, u_St_unpile_8, u_St_unpile_9, u_St_unpile_12, u_St_unpile_13, u_St_unpile_14, u_St_unpile_15, u_St_unpile_18, u_St_unpile_21, u_St_unpile_22, u_St_unpile_25, u_St_unpile_26, u_St_unpile_27, u_St_unpile_28, u_St_unpile_29, u_St_unpile_30, u_St_unpile_31, u_St_unpile_32, h1_19, gt_19_3, h1_27, h2_27, gt_27, pt_27, ne_eq, not_false_eq_true, not_true_eq_false, true_and, and_true, true_or, or_true, eq_self, Option.toList_some, Option.toList_none, List.cons_append, List.nil_append, tc_0, tc_I, tc_L, tc_A, Nat.reduceAdd, Nat.reduceLeDiff, Nat.reduceEqDiff, Int.reduceEq, Int.reduceLT, Int.reduceLE, Int.reduceNeg, Int.reduceToNat, Int.cast_ofNat_Int, if_true, if_false, and_self, or_self, ite_self, bI_0, bI_1, bI_01, Bool.false_eq_true, reduceCtorEq, s_St_heightOf, hg, wh, s_St_intOf (f := f) hs (show 0 ≤ f 27 s by omega) h1, hr, show ¬ f 27 s ≤ 0 by omega, show 0 ≤ (s : Int) by omega, show (s : Int) < 4 by omega, Int.toNat_natCast]
theorem p_Do_pop {gg : Mem} {k s : Nat} (hS : RSt f gg TH) (hk : k < 26) (hs : s < 4) (hQ : ∀ code f', (if f 20 k = 1 then (if f 21 k = 0 then (if f 27 s = 0 then code = 5 ∧ FX f f' else code = 0 ∧ FX (poC f k s) f') else code = 8 ∧ FX f f') else code = 1 ∧ FX f f') → Q (some (tI code)) (WW f' t g)) : VV L (d + 3) m_Do_pop 0 [some (tA 152), some (tI k), some (tI s)] [] (WW (wo0 f) t g) Q := by
  have h0 : wo0 f 20 k = f 20 k := FX_0 20 k (by omega)
  have h27 : wo0 f 27 s = f 27 s := FX_0 27 s (by omega)
  have ht := thr_k (f := wo0 f) hk (by rw [h0]; exact nm01 hS hk)
  rw [h0] at ht
  have kk : (0 ≤ (k : Int) ∧ (k : Int) < 26) := by omega
  have hh := hS.hg s hs
  have hg : hgt (wo0 f) s = f 27 s := by unfold hgt; rw [if_pos (by omega), Int.toNat_natCast, h27]
  by_cases h1 : f 20 k = 1
  · have hw : wrt (wo0 f) k = f 21 k := by
      have : thr (wo0 f) k = true := by rw [ht, h1]; rfl
      unfold wrt; rw [if_pos this, Int.toNat_natCast, FX_0 21 k (by omega)]
    by_cases h2 : f 21 k = 0
    · by_cases h3 : f 27 s = 0
      · simp only [u_Do_pop_0, u_Do_pop_1, u_Do_pop_4, u_Do_pop_5, u_Do_pop_8, u_Do_pop_11, u_Do_pop_12, u_Do_pop_13, u_Do_pop_14, u_Do_pop_17, u_Do_pop_18, u_Do_pop_21, u_Do_pop_24, u_Do_pop_26, u_Do_pop_27, u_Do_pop_28, u_Do_pop_31, u_Do_pop_32, u_Do_pop_35, u_Do_pop_38, u_Do_pop_39, h1_152, h1_19, gt_152_0, ne_eq, not_false_eq_true, not_true_eq_false, true_and, and_true, true_or, or_true, eq_self, Option.toList_some, Option.toList_none, List.cons_append, List.nil_append, tc_0, tc_I, tc_L, tc_A, Nat.reduceAdd, Nat.reduceLeDiff, Nat.reduceEqDiff, Int.reduceEq, Int.reduceLT, Int.reduceLE, Int.reduceNeg, Int.reduceToNat, Int.cast_ofNat_Int, if_true, if_false, and_self, or_self, ite_self, bI_0, bI_1, bI_01, Bool.false_eq_true, reduceCtorEq, s_St_isThere, ht, h1, decide_true, bB_t, s_St_worthOf, hw, h2, s_St_heightOf, hg, h3]
        exact hQ 5 _ (by rw [if_pos h1, if_pos h2, if_pos h3]; exact ⟨rfl, FX_0⟩)
      · simp only [u_Do_pop_0, u_Do_pop_1, u_Do_pop_4, u_Do_pop_5, u_Do_pop_8, u_Do_pop_11, u_Do_pop_12, u_Do_pop_13, u_Do_pop_14, u_Do_pop_17, u_Do_pop_18, u_Do_pop_21, u_Do_pop_24, u_Do_pop_26, u_Do_pop_27, u_Do_pop_28, u_Do_pop_31, u_Do_pop_32, u_Do_pop_35, u_Do_pop_38, u_Do_pop_39, u_Do_pop_40, u_Do_pop_41, u_Do_pop_44, u_Do_pop_45, u_Do_pop_46, u_Do_pop_49, u_Do_pop_50, u_Do_pop_53, u_Do_pop_56, u_Do_pop_57, h1_152, h1_19, gt_152_0, ne_eq, not_false_eq_true, not_true_eq_false, true_and, and_true, true_or, or_true, eq_self, Option.toList_some, Option.toList_none, List.cons_append, List.nil_append, tc_0, tc_I, tc_L, tc_A, Nat.reduceAdd, Nat.reduceLeDiff, Nat.reduceEqDiff, Int.reduceEq, Int.reduceLT, Int.reduceLE, Int.reduceNeg, Int.reduceToNat, Int.cast_ofNat_Int, if_true, if_false, and_self, or_self, ite_self, bI_0, bI_1, bI_01, Bool.false_eq_true, reduceCtorEq, s_St_isThere, ht, h1, decide_true, bB_t, s_St_worthOf, hw, h2, s_St_heightOf, hg, h3, s_St_unpile (f := wo0 f) hs (by rw [h27]; omega) (by rw [h27]; omega), s_St_bring, kk, Int.toNat_natCast, h27]
        refine hQ 0 _ ?_
        rw [if_pos h1, if_pos h2, if_neg h3]
        refine ⟨rfl, fun b q hb => ?_⟩
        unfold poC bgN
        simp only [rd]
        rw [FX_0 b q hb, FX_0 (23 + s) _ (by omega)]
    · simp only [u_Do_pop_0, u_Do_pop_1, u_Do_pop_4, u_Do_pop_5, u_Do_pop_8, u_Do_pop_11, u_Do_pop_12, u_Do_pop_13, u_Do_pop_14, u_Do_pop_17, u_Do_pop_18, u_Do_pop_21, u_Do_pop_24, u_Do_pop_26, h1_152, h1_19, gt_152_0, ne_eq, not_false_eq_true, not_true_eq_false, true_and, and_true, true_or, or_true, eq_self, Option.toList_some, Option.toList_none, List.cons_append, List.nil_append, tc_0, tc_I, tc_L, tc_A, Nat.reduceAdd, Nat.reduceLeDiff, Nat.reduceEqDiff, Int.reduceEq, Int.reduceLT, Int.reduceLE, Int.reduceNeg, Int.reduceToNat, Int.cast_ofNat_Int, if_true, if_false, and_self, or_self, ite_self, bI_0, bI_1, bI_01, Bool.false_eq_true, reduceCtorEq, s_St_isThere, ht, h1, decide_true, bB_t, s_St_worthOf, hw, h2]
      exact hQ 8 _ (by rw [if_pos h1, if_neg h2]; exact ⟨rfl, FX_0⟩)
  · simp only [u_Do_pop_0, u_Do_pop_1, u_Do_pop_4, u_Do_pop_5, u_Do_pop_8, u_Do_pop_11, u_Do_pop_12, h1_152, h1_19, gt_152_0, ne_eq, not_false_eq_true, not_true_eq_false, true_and, and_true, true_or, or_true, eq_self, Option.toList_some, Option.toList_none, List.cons_append, List.nil_append, tc_0, tc_I, tc_L, tc_A, Nat.reduceAdd, Nat.reduceLeDiff, Nat.reduceEqDiff, Int.reduceEq, Int.reduceLT, Int.reduceLE, Int.reduceNeg, Int.reduceToNat, Int.cast_ofNat_Int, if_true, if_false, and_self, or_self, ite_self, bI_0, bI_1, bI_01, Bool.false_eq_true, reduceCtorEq, s_St_isThere, ht, h1, decide_false, bB_f]
    exact hQ 1 _ (by rw [if_neg h1]; exact ⟨rfl, FX_0⟩)
end
