/-! The reference's values: product, sum -/
def VMs (L D r : Nat) (f t : Mem) (T : Int → Int) (len : Nat) (m : Mth) (pad : Lo) (kx : List Int) (vx : Env → Rs) (ok : Int → Prop) : Prop := ∀ (g : Mem) (E : Env) (TH N : Nat) (I : Nat → Nat) (i j : Int) (Q : Option TV → Wd → Prop), RT g r T len → EnM g E TH → WM g N I → g 156 45 = (r : Int) → g 156 44 = i → g 156 46 = 0 → 0 ≤ i → ¬ kEnd (T (i - 1)) = true → seg T i j kx → ok (T j) → VM g N I f t j Q (vx E) → VV L D m 0 (some (tA 156) :: pad) [] (WW f t g) Q
section
variable {L D r len : Nat} {f t : Mem} {T : Int → Int} {F : Type} {kf : F → List Int} {wf : F → Prop} {vf : Env → F → Rs}
theorem T_in {g : Mem} {q : Int} (h : RT g r T len) (hz : ¬ T q = 0) : q < len := by
  by_cases hq : q < len
  · exact hq
  · exact absurd (h.z q (Or.inr (by omega))) hz
theorem l_M_pro4 {g : Mem} {Q : Option TV → Wd → Prop} {q : Int} {v : TV} {l2 l3 l4 l5 : Option TV} (h : RT g r T len) (he : g 156 45 = (r : Int)) (hq : g 156 44 = q) (h0 : 0 ≤ q) : VV L (D + 2) m_M_product 12 [some (tA 156), some v, l2, l3, l4, l5] [] (WW f t g) Q = if kPro (T q) = true then VV L (D + 2) m_M_product 48 [some (tA 156), some v, l2, l3, l4, l5] [] (WW f t g) Q else VV L (D + 2) m_M_product 164 [some (tA 156), some v, l2, l3, l4, l5] [] (WW f t g) Q := by
  have i1 := fun Q => s_M_isHere (L := L) (d := D) (f := f) (t := t) (Q := Q) (w := 42) h he hq h0 (by decide) (by omega) (by omega)
  have i2 := fun Q => s_M_isHere (L := L) (d := D) (f := f) (t := t) (Q := Q) (w := 47) h he hq h0 (by decide) (by omega) (by omega)
  have i3 := fun Q => s_M_isHere (L := L) (d := D) (f := f) (t := t) (Q := Q) (w := 37) h he hq h0 (by decide) (by omega) (by omega)
  have i4 := fun Q => s_M_isHere (L := L) (d := D) (f := f) (t := t) (Q := Q) (w := 38) h he hq h0 (by decide) (by omega) (by omega)
  unfold kPro
  by_cases h1 : T q = 42
  · simp only [u_M_product_12, u_M_product_13, u_M_product_15, u_M_product_18, u_M_product_21, u_M_product_22, u_M_product_24, u_M_product_27, u_M_product_30, u_M_product_31, u_M_product_33, u_M_product_36, u_M_product_39, u_M_product_40, u_M_product_42, u_M_product_45, h1_156, ne_eq, not_false_eq_true, not_true_eq_false, true_and, and_true, true_or, or_true, eq_self, Option.toList_some, Option.toList_none, List.cons_append, List.nil_append, tc_0, tc_I, tc_L, tc_A, Nat.reduceAdd, Nat.reduceLeDiff, Nat.reduceEqDiff, Int.reduceEq, Int.reduceLT, Int.reduceLE, Int.reduceNeg, Int.reduceToNat, Int.cast_ofNat_Int, if_true, if_false, and_self, or_self, ite_self, bI_0, bI_1, bI_01, Bool.false_eq_true, reduceCtorEq, i1, h1, decide_true, bB_t]
  · by_cases h2 : T q = 47
    · simp only [u_M_product_12, u_M_product_13, u_M_product_15, u_M_product_18, u_M_product_21, u_M_product_22, u_M_product_24, u_M_product_27, u_M_product_30, u_M_product_31, u_M_product_33, u_M_product_36, u_M_product_39, u_M_product_40, u_M_product_42, u_M_product_45, h1_156, ne_eq, not_false_eq_true, not_true_eq_false, true_and, and_true, true_or, or_true, eq_self, Option.toList_some, Option.toList_none, List.cons_append, List.nil_append, tc_0, tc_I, tc_L, tc_A, Nat.reduceAdd, Nat.reduceLeDiff, Nat.reduceEqDiff, Int.reduceEq, Int.reduceLT, Int.reduceLE, Int.reduceNeg, Int.reduceToNat, Int.cast_ofNat_Int, if_true, if_false, and_self, or_self, ite_self, bI_0, bI_1, bI_01, Bool.false_eq_true, reduceCtorEq, i1, i2, h1, h2, decide_true, decide_false, bB_t, bB_f]
    · by_cases h3 : T q = 37
      · simp only [u_M_product_12, u_M_product_13, u_M_product_15, u_M_product_18, u_M_product_21, u_M_product_22, u_M_product_24, u_M_product_27, u_M_product_30, u_M_product_31, u_M_product_33, u_M_product_36, u_M_product_39, u_M_product_40, u_M_product_42, u_M_product_45, h1_156, ne_eq, not_false_eq_true, not_true_eq_false, true_and, and_true, true_or, or_true, eq_self, Option.toList_some, Option.toList_none, List.cons_append, List.nil_append, tc_0, tc_I, tc_L, tc_A, Nat.reduceAdd, Nat.reduceLeDiff, Nat.reduceEqDiff, Int.reduceEq, Int.reduceLT, Int.reduceLE, Int.reduceNeg, Int.reduceToNat, Int.cast_ofNat_Int, if_true, if_false, and_self, or_self, ite_self, bI_0, bI_1, bI_01, Bool.false_eq_true, reduceCtorEq, i1, i2, i3, h1, h2, h3, decide_true, decide_false, bB_t, bB_f]
      · by_cases h4 : T q = 38
        · simp only [u_M_product_12, u_M_product_13, u_M_product_15, u_M_product_18, u_M_product_21, u_M_product_22, u_M_product_24, u_M_product_27, u_M_product_30, u_M_product_31, u_M_product_33, u_M_product_36, u_M_product_39, u_M_product_40, u_M_product_42, u_M_product_45, h1_156, ne_eq, not_false_eq_true, not_true_eq_false, true_and, and_true, true_or, or_true, eq_self, Option.toList_some, Option.toList_none, List.cons_append, List.nil_append, tc_0, tc_I, tc_L, tc_A, Nat.reduceAdd, Nat.reduceLeDiff, Nat.reduceEqDiff, Int.reduceEq, Int.reduceLT, Int.reduceLE, Int.reduceNeg, Int.reduceToNat, Int.cast_ofNat_Int, if_true, if_false, and_self, or_self, ite_self, bI_0, bI_1, bI_01, Bool.false_eq_true, reduceCtorEq, i1, i2, i3, i4, h1, h2, h3, h4, decide_true, decide_false, bB_t, bB_f]
        · simp only [u_M_product_12, u_M_product_13, u_M_product_15, u_M_product_18, u_M_product_21, u_M_product_22, u_M_product_24, u_M_product_27, u_M_product_30, u_M_product_31, u_M_product_33, u_M_product_36, u_M_product_39, u_M_product_40, u_M_product_42, u_M_product_45, h1_156, ne_eq, not_false_eq_true, not_true_eq_false, true_and, and_true, true_or, or_true, eq_self, Option.toList_some, Option.toList_none, List.cons_append, List.nil_append, tc_0, tc_I, tc_L, tc_A, Nat.reduceAdd, Nat.reduceLeDiff, Nat.reduceEqDiff, Int.reduceEq, Int.reduceLT, Int.reduceLE, Int.reduceNeg, Int.reduceToNat, Int.cast_ofNat_Int, if_true, if_false, and_self, or_self, ite_self, bI_0, bI_1, bI_01, Bool.false_eq_true, reduceCtorEq, i1, i2, i3, i4, h1, h2, h3, h4, decide_true, decide_false, bB_t, bB_f]
theorem kEnd_sg {v : Int} (h : kPro v = true ∨ kSum v = true) : ¬ kEnd v = true := by
  unfold kPro kSum at h; unfold kEnd
  simp only [decide_eq_true_eq] at h ⊢
  omega
theorem l_M_prod (hF : ∀ x, wf x → VMs L (D + 1) r f t T len m_M_factor [none, none, none, none, none, none, none] (kf x) (fun E => vf E x) (fun _ => True)) : ∀ (l : List (Int × F)), (∀ p ∈ l, kPro p.1 = true ∧ wf p.2) → ∀ (g : Mem) (E : Env) (TH N : Nat) (I : Nat → Nat) (i j v : Int) (l3 l4 l5 : Option TV) (Q : Option TV → Wd → Prop), RT g r T len → EnM g E TH → WM g N I → g 156 45 = (r : Int) → g 156 44 = i → g 156 46 = 0 → 0 ≤ i → seg T i j (l.flatMap (fun p => p.1 :: kf p.2)) → kPro (T j) = false → VM g N I f t j Q (vT1 (vf E) v [] l) → VV L (D + 2) m_M_product 5 [some (tA 156), some (tL v), none, l3, l4, l5] [] (WW f t g) Q := by
  intro l
  induction l with
  | nil =>
    intro _ g E TH N I i j v l3 l4 l5 Q hR hE hW h5 h6 h7 hi hs hj hQ
    have e := seg_len hs
    simp at e
    subst e
    have hq := hQ g FM_refl h6 h7 hW
    rw [u_M_product_5]
    simp only [u_M_product_6, u_M_product_9, h1_156, gt_156_46, ne_eq, not_false_eq_true, not_true_eq_false, true_and, and_true, true_or, or_true, eq_self, Option.toList_some, Option.toList_none, List.cons_append, List.nil_append, tc_0, tc_I, tc_L, tc_A, Nat.reduceAdd, Nat.reduceLeDiff, Nat.reduceEqDiff, Int.reduceEq, Int.reduceLT, Int.reduceLE, Int.reduceNeg, Int.reduceToNat, Int.cast_ofNat_Int, if_true, if_false, and_self, or_self, ite_self, bI_0, bI_1, bI_01, Bool.false_eq_true, reduceCtorEq, h7, l_M_pro4 hR h5 h6 hi, hj]
    simp only [u_M_product_164, u_M_product_165, ne_eq, not_false_eq_true, not_true_eq_false, true_and, and_true, true_or, or_true, eq_self, Option.toList_some, Option.toList_none, List.cons_append, List.nil_append, tc_0, tc_I, tc_L, tc_A, Nat.reduceAdd, Nat.reduceLeDiff, Nat.reduceEqDiff, Int.reduceEq, Int.reduceLT, Int.reduceLE, Int.reduceNeg, Int.reduceToNat, Int.cast_ofNat_Int, if_true, if_false, and_self, or_self, ite_self, bI_0, bI_1, bI_01, Bool.false_eq_true, reduceCtorEq]
    exact hq
  | cons p l ih =>
    intro hp g E TH N I i j v l3 l4 l5 Q hR hE hW h5 h6 h7 hi hs hj hQ
    obtain ⟨s, x⟩ := p
    obtain ⟨hsg, hx⟩ := hp (s, x) List.mem_cons_self
    have hsg : kPro s = true := hsg
    have h4 : s = 42 ∨ s = 47 ∨ s = 37 ∨ s = 38 := by unfold kPro at hsg; simpa using hsg
    rw [List.flatMap_cons, List.cons_append] at hs
    obtain ⟨hs0, hs⟩ := seg_hd hs
    have hs0 : T i = s := hs0
    obtain ⟨hs1, hs2⟩ := seg_split hs
    have hlt := T_in hR (show ¬ T i = 0 by omega)
    have hl1 := hR.l1
    obtain ⟨x1, x2, x3, x4, x5, x6⟩ := hR.ix hi hlt
    have hw : whc (T i) = s := by rw [hs0]; rcases h4 with rfl | rfl | rfl | rfl <;> decide
    rw [hw] at x6
    have wi : w32 (i + 1) = i + 1 := w32_id (by omega) (by omega)
    have hF1 : FM g (mset g 156 44 (i + 1)) := FM_m (by omega)
    have hik := hs2.1
    rw [u_M_product_5]
    simp only [u_M_product_6, u_M_product_9, h1_156, gt_156_46, ne_eq, not_false_eq_true, not_true_eq_false, true_and, and_true, true_or, or_true, eq_self, Option.toList_some, Option.toList_none, List.cons_append, List.nil_append, tc_0, tc_I, tc_L, tc_A, Nat.reduceAdd, Nat.reduceLeDiff, Nat.reduceEqDiff, Int.reduceEq, Int.reduceLT, Int.reduceLE, Int.reduceNeg, Int.reduceToNat, Int.cast_ofNat_Int, if_true, if_false, and_self, or_self, ite_self, bI_0, bI_1, bI_01, Bool.false_eq_true, reduceCtorEq, h7, l_M_pro4 hR h5 h6 hi, hs0, hsg]
    simp only [u_M_product_48, u_M_product_49, u_M_product_52, u_M_product_55, u_M_product_56, u_M_product_59, u_M_product_60, u_M_product_61, u_M_product_64, u_M_product_65, u_M_product_66, u_M_product_67, u_M_product_68, u_M_product_69, u_M_product_72, u_M_product_73, u_M_product_74, u_M_product_77, u_M_product_78, h1_156, gt_156_26, gt_156_45, gt_156_44, pt_156_44, h1_165, h2_165, gt_165, pt_165, ne_eq, not_false_eq_true, not_true_eq_false, true_and, and_true, true_or, or_true, eq_self, Option.toList_some, Option.toList_none, List.cons_append, List.nil_append, tc_0, tc_I, tc_L, tc_A, Nat.reduceAdd, Nat.reduceLeDiff, Nat.reduceEqDiff, Int.reduceEq, Int.reduceLT, Int.reduceLE, Int.reduceNeg, Int.reduceToNat, Int.cast_ofNat_Int, if_true, if_false, and_self, or_self, ite_self, bI_0, bI_1, bI_01, Bool.false_eq_true, reduceCtorEq, h5, h6, x1, x2, x3, x4, x6, wi]
    refine hF x hx _ E TH N I (i + 1) _ _ (RT_FM hR hF1) (EnM_FM hE hF1) (WM_m hW (by omega)) (by rw [rd, if_neg (by omega)]; exact h5) (by rw [rd, if_pos (by simp)]) (by rw [rd, if_neg (by omega)]; exact h7) (by omega) (by rw [show i + 1 - 1 = i by omega, hs0]; exact kEnd_sg (Or.inl hsg)) hs1 trivial ?_
    unfold vT1 at hQ
    show VM _ _ _ _ _ _ _ (vf E x)
    cases hv : vf E x with
    | error e =>
      rw [hv] at hQ
      intro g' u a1 a2 a3
      simp only [u_M_product_81, u_M_product_83, u_M_product_84, u_M_product_87, u_M_product_90, u_M_product_91, h1_156, gt_156_46, ne_eq, not_false_eq_true, not_true_eq_false, true_and, and_true, true_or, or_true, eq_self, Option.toList_some, Option.toList_none, List.cons_append, List.nil_append, tc_0, tc_I, tc_L, tc_A, Nat.reduceAdd, Nat.reduceLeDiff, Nat.reduceEqDiff, Int.reduceEq, Int.reduceLT, Int.reduceLE, Int.reduceNeg, Int.reduceToNat, Int.cast_ofNat_Int, if_true, if_false, and_self, or_self, ite_self, bI_0, bI_1, bI_01, Bool.false_eq_true, reduceCtorEq, a2, a3]
      exact hQ g' 0 (FM_tr hF1 a1) a2 a3
    | ok z =>
      obtain ⟨u, q⟩ := z
      rw [hv] at hQ
      dsimp only at hQ
      intro g' a1 a2 a3 a4
      have hf' := FM_tr hF1 a1
      have hh : hlm (mset g 156 44 (i + 1)) = hlm g := hlm_FM hF1
      rw [hh] at a4
      by_cases hz : (s = 47 ∨ s = 37) ∧ u = 0
      · rw [if_pos hz] at hQ
        have fin := hQ (mset g' 156 46 4) 0 (FM_tr hf' (FM_m (by omega))) (by rw [rd, if_pos (by simp)]) (by omega)
        obtain ⟨hz1, hz2⟩ := hz
        rcases hz1 with rfl | rfl
        · simp only [u_M_product_81, u_M_product_83, u_M_product_84, u_M_product_87, u_M_product_90, u_M_product_91, u_M_product_92, u_M_product_94, u_M_product_95, u_M_product_96, u_M_product_99, u_M_product_100, u_M_product_102, u_M_product_105, u_M_product_106, u_M_product_108, u_M_product_111, u_M_product_112, u_M_product_113, u_M_product_116, h1_156, gt_156_46, ne_eq, not_false_eq_true, not_true_eq_false, true_and, and_true, true_or, or_true, eq_self, Option.toList_some, Option.toList_none, List.cons_append, List.nil_append, tc_0, tc_I, tc_L, tc_A, Nat.reduceAdd, Nat.reduceLeDiff, Nat.reduceEqDiff, Int.reduceEq, Int.reduceLT, Int.reduceLE, Int.reduceNeg, Int.reduceToNat, Int.cast_ofNat_Int, if_true, if_false, and_self, or_self, ite_self, bI_0, bI_1, bI_01, Bool.false_eq_true, reduceCtorEq, a3, lc_eq, hz2, s_M_refuse]; exact fin
        · simp only [u_M_product_81, u_M_product_83, u_M_product_84, u_M_product_87, u_M_product_90, u_M_product_91, u_M_product_92, u_M_product_94, u_M_product_95, u_M_product_96, u_M_product_99, u_M_product_100, u_M_product_102, u_M_product_105, u_M_product_106, u_M_product_108, u_M_product_111, u_M_product_112, u_M_product_113, u_M_product_116, h1_156, gt_156_46, ne_eq, not_false_eq_true, not_true_eq_false, true_and, and_true, true_or, or_true, eq_self, Option.toList_some, Option.toList_none, List.cons_append, List.nil_append, tc_0, tc_I, tc_L, tc_A, Nat.reduceAdd, Nat.reduceLeDiff, Nat.reduceEqDiff, Int.reduceEq, Int.reduceLT, Int.reduceLE, Int.reduceNeg, Int.reduceToNat, Int.cast_ofNat_Int, if_true, if_false, and_self, or_self, ite_self, bI_0, bI_1, bI_01, Bool.false_eq_true, reduceCtorEq, a3, lc_eq, hz2, s_M_refuse]; exact fin
      · rw [if_neg hz] at hQ
        rw [vT1_q, List.nil_append] at hQ
        have fin : ∀ l3 l4 l5, VV L (D + 2) m_M_product 5 [some (tA 156), some (tL (opP s v u)), none, l3, l4, l5] [] (WW f t g') Q := fun l3 l4 l5 => ih (fun p hp' => hp p (List.mem_cons_of_mem _ hp')) g' E TH _ _ _ j _ _ _ _ Q (RT_FM hR hf') (EnM_FM hE hf') a4 (by rw [hf' 156 45 (by omega)]; exact h5) a2 a3 (by omega) hs2 hj (VM_seq hf' hQ)
        rcases h4 with rfl | rfl | rfl | rfl
        · by_cases hu : u = 0
          · simp only [u_M_product_81, u_M_product_83, u_M_product_84, u_M_product_87, u_M_product_90, u_M_product_91, u_M_product_92, u_M_product_94, u_M_product_95, u_M_product_96, u_M_product_99, u_M_product_100, u_M_product_102, u_M_product_105, u_M_product_106, u_M_product_108, u_M_product_111, u_M_product_112, u_M_product_113, u_M_product_116, u_M_product_117, u_M_product_118, u_M_product_120, u_M_product_123, u_M_product_124, u_M_product_126, u_M_product_127, u_M_product_130, u_M_product_131, u_M_product_133, u_M_product_136, u_M_product_137, u_M_product_139, u_M_product_140, u_M_product_143, u_M_product_144, u_M_product_146, u_M_product_149, u_M_product_150, u_M_product_152, u_M_product_153, u_M_product_156, u_M_product_157, u_M_product_159, u_M_product_160, u_M_product_161, h1_156, gt_156_46, ne_eq, not_false_eq_true, not_true_eq_false, true_and, and_true, true_or, or_true, eq_self, Option.toList_some, Option.toList_none, List.cons_append, List.nil_append, tc_0, tc_I, tc_L, tc_A, Nat.reduceAdd, Nat.reduceLeDiff, Nat.reduceEqDiff, Int.reduceEq, Int.reduceLT, Int.reduceLE, Int.reduceNeg, Int.reduceToNat, Int.cast_ofNat_Int, if_true, if_false, and_self, or_self, ite_self, bI_0, bI_1, bI_01, Bool.false_eq_true, reduceCtorEq, a3, lc_eq, hu]; subst hu; exact fin _ _ _
          · simp only [u_M_product_81, u_M_product_83, u_M_product_84, u_M_product_87, u_M_product_90, u_M_product_91, u_M_product_92, u_M_product_94, u_M_product_95, u_M_product_96, u_M_product_99, u_M_product_100, u_M_product_102, u_M_product_105, u_M_product_106, u_M_product_108, u_M_product_111, u_M_product_112, u_M_product_113, u_M_product_116, u_M_product_117, u_M_product_118, u_M_product_120, u_M_product_123, u_M_product_124, u_M_product_126, u_M_product_127, u_M_product_130, u_M_product_131, u_M_product_133, u_M_product_136, u_M_product_137, u_M_product_139, u_M_product_140, u_M_product_143, u_M_product_144, u_M_product_146, u_M_product_149, u_M_product_150, u_M_product_152, u_M_product_153, u_M_product_156, u_M_product_157, u_M_product_159, u_M_product_160, u_M_product_161, h1_156, gt_156_46, ne_eq, not_false_eq_true, not_true_eq_false, true_and, and_true, true_or, or_true, eq_self, Option.toList_some, Option.toList_none, List.cons_append, List.nil_append, tc_0, tc_I, tc_L, tc_A, Nat.reduceAdd, Nat.reduceLeDiff, Nat.reduceEqDiff, Int.reduceEq, Int.reduceLT, Int.reduceLE, Int.reduceNeg, Int.reduceToNat, Int.cast_ofNat_Int, if_true, if_false, and_self, or_self, ite_self, bI_0, bI_1, bI_01, Bool.false_eq_true, reduceCtorEq, a3, lc_eq, hu]; exact fin _ _ _
        · have hu : ¬ u = 0 := fun hh => hz ⟨Or.inl rfl, hh⟩
          simp only [u_M_product_81, u_M_product_83, u_M_product_84, u_M_product_87, u_M_product_90, u_M_product_91, u_M_product_92, u_M_product_94, u_M_product_95, u_M_product_96, u_M_product_99, u_M_product_100, u_M_product_102, u_M_product_105, u_M_product_106, u_M_product_108, u_M_product_111, u_M_product_112, u_M_product_113, u_M_product_116, u_M_product_117, u_M_product_118, u_M_product_120, u_M_product_123, u_M_product_124, u_M_product_126, u_M_product_127, u_M_product_130, u_M_product_131, u_M_product_133, u_M_product_136, u_M_product_137, u_M_product_139, u_M_product_140, u_M_product_143, u_M_product_144, u_M_product_146, u_M_product_149, u_M_product_150, u_M_product_152, u_M_product_153, u_M_product_156, u_M_product_157, u_M_product_159, u_M_product_160, u_M_product_161, h1_156, gt_156_46, ne_eq, not_false_eq_true, not_true_eq_false, true_and, and_true, true_or, or_true, eq_self, Option.toList_some, Option.toList_none, List.cons_append, List.nil_append, tc_0, tc_I, tc_L, tc_A, Nat.reduceAdd, Nat.reduceLeDiff, Nat.reduceEqDiff, Int.reduceEq, Int.reduceLT, Int.reduceLE, Int.reduceNeg, Int.reduceToNat, Int.cast_ofNat_Int, if_true, if_false, and_self, or_self, ite_self, bI_0, bI_1, bI_01, Bool.false_eq_true, reduceCtorEq, a3, lc_eq, hu]; exact fin _ _ _
        · have hu : ¬ u = 0 := fun hh => hz ⟨Or.inr rfl, hh⟩
          simp only [u_M_product_81, u_M_product_83, u_M_product_84, u_M_product_87, u_M_product_90, u_M_product_91, u_M_product_92, u_M_product_94, u_M_product_95, u_M_product_96, u_M_product_99, u_M_product_100, u_M_product_102, u_M_product_105, u_M_product_106, u_M_product_108, u_M_product_111, u_M_product_112, u_M_product_113, u_M_product_116, u_M_product_117, u_M_product_118, u_M_product_120, u_M_product_123, u_M_product_124, u_M_product_126, u_M_product_127, u_M_product_130, u_M_product_131, u_M_product_133, u_M_product_136, u_M_product_137, u_M_product_139, u_M_product_140, u_M_product_143, u_M_product_144, u_M_product_146, u_M_product_149, u_M_product_150, u_M_product_152, u_M_product_153, u_M_product_156, u_M_product_157, u_M_product_159, u_M_product_160, u_M_product_161, h1_156, gt_156_46, ne_eq, not_false_eq_true, not_true_eq_false, true_and, and_true, true_or, or_true, eq_self, Option.toList_some, Option.toList_none, List.cons_append, List.nil_append, tc_0, tc_I, tc_L, tc_A, Nat.reduceAdd, Nat.reduceLeDiff, Nat.reduceEqDiff, Int.reduceEq, Int.reduceLT, Int.reduceLE, Int.reduceNeg, Int.reduceToNat, Int.cast_ofNat_Int, if_true, if_false, and_self, or_self, ite_self, bI_0, bI_1, bI_01, Bool.false_eq_true, reduceCtorEq, a3, lc_eq, hu]; exact fin _ _ _
        · by_cases hu : u = 0
          · simp only [u_M_product_81, u_M_product_83, u_M_product_84, u_M_product_87, u_M_product_90, u_M_product_91, u_M_product_92, u_M_product_94, u_M_product_95, u_M_product_96, u_M_product_99, u_M_product_100, u_M_product_102, u_M_product_105, u_M_product_106, u_M_product_108, u_M_product_111, u_M_product_112, u_M_product_113, u_M_product_116, u_M_product_117, u_M_product_118, u_M_product_120, u_M_product_123, u_M_product_124, u_M_product_126, u_M_product_127, u_M_product_130, u_M_product_131, u_M_product_133, u_M_product_136, u_M_product_137, u_M_product_139, u_M_product_140, u_M_product_143, u_M_product_144, u_M_product_146, u_M_product_149, u_M_product_150, u_M_product_152, u_M_product_153, u_M_product_156, u_M_product_157, u_M_product_159, u_M_product_160, u_M_product_161, h1_156, gt_156_46, ne_eq, not_false_eq_true, not_true_eq_false, true_and, and_true, true_or, or_true, eq_self, Option.toList_some, Option.toList_none, List.cons_append, List.nil_append, tc_0, tc_I, tc_L, tc_A, Nat.reduceAdd, Nat.reduceLeDiff, Nat.reduceEqDiff, Int.reduceEq, Int.reduceLT, Int.reduceLE, Int.reduceNeg, Int.reduceToNat, Int.cast_ofNat_Int, if_true, if_false, and_self, or_self, ite_self, bI_0, bI_1, bI_01, Bool.false_eq_true, reduceCtorEq, a3, lc_eq, hu]; subst hu; exact fin _ _ _
          · simp only [u_M_product_81, u_M_product_83, u_M_product_84, u_M_product_87, u_M_product_90, u_M_product_91, u_M_product_92, u_M_product_94, u_M_product_95, u_M_product_96, u_M_product_99, u_M_product_100, u_M_product_102, u_M_product_105, u_M_product_106, u_M_product_108, u_M_product_111, u_M_product_112, u_M_product_113, u_M_product_116, u_M_product_117, u_M_product_118, u_M_product_120, u_M_product_123, u_M_product_124, u_M_product_126, u_M_product_127, u_M_product_130, u_M_product_131, u_M_product_133, u_M_product_136, u_M_product_137, u_M_product_139, u_M_product_140, u_M_product_143, u_M_product_144, u_M_product_146, u_M_product_149, u_M_product_150, u_M_product_152, u_M_product_153, u_M_product_156, u_M_product_157, u_M_product_159, u_M_product_160, u_M_product_161, h1_156, gt_156_46, ne_eq, not_false_eq_true, not_true_eq_false, true_and, and_true, true_or, or_true, eq_self, Option.toList_some, Option.toList_none, List.cons_append, List.nil_append, tc_0, tc_I, tc_L, tc_A, Nat.reduceAdd, Nat.reduceLeDiff, Nat.reduceEqDiff, Int.reduceEq, Int.reduceLT, Int.reduceLE, Int.reduceNeg, Int.reduceToNat, Int.cast_ofNat_Int, if_true, if_false, and_self, or_self, ite_self, bI_0, bI_1, bI_01, Bool.false_eq_true, reduceCtorEq, a3, lc_eq, hu]; exact fin _ _ _
theorem p_M_product (hF : ∀ x, wf x → VMs L (D + 1) r f t T len m_M_factor [none, none, none, none, none, none, none] (kf x) (fun E => vf E x) (fun _ => True)) (x : Ter F) (hx : wT wf x) : VMs L (D + 2) r f t T len m_M_product [none, none, none, none, none] (kT kf x) (fun E => vT (vf E) x) (fun v => kPro v = false) := by
  intro g E TH N I i j Q hR hE hW h5 h6 h7 hi hK hs hj hQ
  obtain ⟨hs1, hs2⟩ := seg_split hs
  have := hs1.1
  simp only [u_M_product_0, u_M_product_1, h1_156, ne_eq, not_false_eq_true, not_true_eq_false, true_and, and_true, true_or, or_true, eq_self, Option.toList_some, Option.toList_none, List.cons_append, List.nil_append, tc_0, tc_I, tc_L, tc_A, Nat.reduceAdd, Nat.reduceLeDiff, Nat.reduceEqDiff, Int.reduceEq, Int.reduceLT, Int.reduceLE, Int.reduceNeg, Int.reduceToNat, Int.cast_ofNat_Int, if_true, if_false, and_self, or_self, ite_self, bI_0, bI_1, bI_01, Bool.false_eq_true, reduceCtorEq]
  refine hF x.1 hx.1 g E TH N I i _ _ hR hE hW h5 h6 h7 hi hK hs1 trivial ?_
  unfold vT at hQ
  dsimp only at hQ
  show VM _ _ _ _ _ _ _ (vf E x.1)
  cases hv : vf E x.1 with
  | error e =>
    rw [hv] at hQ
    intro g' u a1 a2 a3
    simp only [u_M_product_4, ne_eq, not_false_eq_true, not_true_eq_false, true_and, and_true, true_or, or_true, eq_self, Option.toList_some, Option.toList_none, List.cons_append, List.nil_append, tc_0, tc_I, tc_L, tc_A, Nat.reduceAdd, Nat.reduceLeDiff, Nat.reduceEqDiff, Int.reduceEq, Int.reduceLT, Int.reduceLE, Int.reduceNeg, Int.reduceToNat, Int.cast_ofNat_Int, if_true, if_false, and_self, or_self, ite_self, bI_0, bI_1, bI_01, Bool.false_eq_true, reduceCtorEq]
    rw [u_M_product_5]
    simp only [u_M_product_6, u_M_product_9, u_M_product_164, u_M_product_165, h1_156, gt_156_46, ne_eq, not_false_eq_true, not_true_eq_false, true_and, and_true, true_or, or_true, eq_self, Option.toList_some, Option.toList_none, List.cons_append, List.nil_append, tc_0, tc_I, tc_L, tc_A, Nat.reduceAdd, Nat.reduceLeDiff, Nat.reduceEqDiff, Int.reduceEq, Int.reduceLT, Int.reduceLE, Int.reduceNeg, Int.reduceToNat, Int.cast_ofNat_Int, if_true, if_false, and_self, or_self, ite_self, bI_0, bI_1, bI_01, Bool.false_eq_true, reduceCtorEq, a2, a3]
    exact hQ g' _ a1 a2 a3
  | ok z =>
    obtain ⟨u, q⟩ := z
    rw [hv] at hQ
    dsimp only at hQ
    intro g' a1 a2 a3 a4
    simp only [u_M_product_4, ne_eq, not_false_eq_true, not_true_eq_false, true_and, and_true, true_or, or_true, eq_self, Option.toList_some, Option.toList_none, List.cons_append, List.nil_append, tc_0, tc_I, tc_L, tc_A, Nat.reduceAdd, Nat.reduceLeDiff, Nat.reduceEqDiff, Int.reduceEq, Int.reduceLT, Int.reduceLE, Int.reduceNeg, Int.reduceToNat, Int.cast_ofNat_Int, if_true, if_false, and_self, or_self, ite_self, bI_0, bI_1, bI_01, Bool.false_eq_true, reduceCtorEq]
    rw [vT1_q] at hQ
    exact l_M_prod hF x.2 hx.2 g' E TH _ _ _ j u _ _ _ Q (RT_FM hR a1) (EnM_FM hE a1) a4 (by rw [a1 156 45 (by omega)]; exact h5) a2 a3 (by omega) hs2 hj (VM_seq a1 hQ)
theorem l_M_sum (hz : ∀ x, wf x → ∀ i j, seg T i j (kf x) → kEnd (T (j - 1)) = true ∧ i < j) (hF : ∀ x, wT wf x → VMs L (D + 1) r f t T len m_M_product [none, none, none, none, none] (kT kf x) (fun E => vT (vf E) x) (fun v => kPro v = false)) : ∀ (l : List (Int × Ter F)), (∀ p ∈ l, kSum p.1 = true ∧ wT wf p.2) → ∀ (g : Mem) (E : Env) (TH N : Nat) (I : Nat → Nat) (i j v : Int) (l3 l4 l5 : Option TV) (Q : Option TV → Wd → Prop), RT g r T len → EnM g E TH → WM g N I → g 156 45 = (r : Int) → g 156 44 = i → g 156 46 = 0 → 0 ≤ i → kEnd (T (i - 1)) = true → seg T i j (l.flatMap (fun p => p.1 :: kT kf p.2)) → kSum (T j) = false → kPro (T j) = false → VM g N I f t j Q (vE1 (vf E) v [] l) → VV L (D + 2) m_M_sum 5 [some (tA 156), some (tL v), none, l3, l4, l5] [] (WW f t g) Q := by
  intro l
  induction l with
  | nil =>
    intro _ g E TH N I i j v l3 l4 l5 Q hR hE hW h5 h6 h7 hi hK hs hj hj2 hQ
    have e := seg_len hs
    simp at e
    subst e
    have hq := hQ g FM_refl h6 h7 hW
    obtain ⟨q0, q1, q2⟩ := hR.ir
    rw [u_M_sum_5]
    by_cases hlt : j < len
    · obtain ⟨x1, x2, x3, x4, x5, x6⟩ := hR.ix hi hlt
      have hno : (decide (eS T j = 7) && kSum (whc (T j))) = false := by
        by_cases h7' : eS T j = 7
        · have : srt (T j) = 7 := by
            unfold eS at h7'
            split at h7'
            · omega
            · exact h7'
          rw [srt7 this, hj]; simp
        · simp [h7']
      simp only [u_M_sum_0, u_M_sum_1, u_M_sum_4, u_M_sum_6, u_M_sum_9, u_M_sum_12, u_M_sum_13, u_M_sum_16, u_M_sum_17, u_M_sum_20, u_M_sum_21, u_M_sum_24, u_M_sum_25, u_M_sum_28, u_M_sum_29, u_M_sum_32, u_M_sum_33, u_M_sum_36, u_M_sum_39, u_M_sum_40, u_M_sum_43, u_M_sum_44, u_M_sum_45, u_M_sum_48, u_M_sum_49, u_M_sum_50, u_M_sum_53, u_M_sum_56, u_M_sum_57, u_M_sum_60, u_M_sum_63, u_M_sum_64, u_M_sum_67, u_M_sum_68, u_M_sum_69, u_M_sum_72, u_M_sum_73, u_M_sum_74, u_M_sum_75, u_M_sum_76, u_M_sum_77, u_M_sum_80, u_M_sum_81, u_M_sum_82, u_M_sum_85, u_M_sum_86, u_M_sum_89, u_M_sum_91, u_M_sum_92, u_M_sum_94, u_M_sum_97, u_M_sum_98, u_M_sum_100, u_M_sum_101, u_M_sum_104, u_M_sum_105, u_M_sum_107, u_M_sum_110, u_M_sum_111, u_M_sum_113, u_M_sum_114, u_M_sum_117, u_M_sum_118, u_M_sum_120, u_M_sum_123, u_M_sum_124, u_M_sum_126, u_M_sum_127, u_M_sum_130, u_M_sum_131, u_M_sum_133, u_M_sum_134, u_M_sum_135, u_M_sum_138, u_M_sum_139, h1_156, gt_156_46, pt_156_46, gt_156_44, pt_156_44, gt_156_24, h1_163, h2_163, gt_163, pt_163, gt_156_45, pt_156_45, gt_156_26, h1_165, h2_165, gt_165, pt_165, ne_eq, not_false_eq_true, not_true_eq_false, true_and, and_true, true_or, or_true, eq_self, Option.toList_some, Option.toList_none, List.cons_append, List.nil_append, tc_0, tc_I, tc_L, tc_A, Nat.reduceAdd, Nat.reduceLeDiff, Nat.reduceEqDiff, Int.reduceEq, Int.reduceLT, Int.reduceLE, Int.reduceNeg, Int.reduceToNat, Int.cast_ofNat_Int, if_true, if_false, and_self, or_self, ite_self, bI_0, bI_1, bI_01, Bool.false_eq_true, reduceCtorEq, h7, h6, h5, q0, q1, q2, show ¬ (len : Int) ≤ j by omega, s_M_sortHere hR h5 h6 hi hlt, x1, x2, x3, x4, x6, s_M_isSum, hno, bB_f]
      exact hq
    · simp only [u_M_sum_0, u_M_sum_1, u_M_sum_4, u_M_sum_6, u_M_sum_9, u_M_sum_12, u_M_sum_13, u_M_sum_16, u_M_sum_17, u_M_sum_20, u_M_sum_21, u_M_sum_24, u_M_sum_25, u_M_sum_28, u_M_sum_29, u_M_sum_32, u_M_sum_33, u_M_sum_36, u_M_sum_39, u_M_sum_40, u_M_sum_43, u_M_sum_44, u_M_sum_45, u_M_sum_48, u_M_sum_49, u_M_sum_50, u_M_sum_53, u_M_sum_56, u_M_sum_57, u_M_sum_60, u_M_sum_63, u_M_sum_64, u_M_sum_67, u_M_sum_68, u_M_sum_69, u_M_sum_72, u_M_sum_73, u_M_sum_74, u_M_sum_75, u_M_sum_76, u_M_sum_77, u_M_sum_80, u_M_sum_81, u_M_sum_82, u_M_sum_85, u_M_sum_86, u_M_sum_89, u_M_sum_91, u_M_sum_92, u_M_sum_94, u_M_sum_97, u_M_sum_98, u_M_sum_100, u_M_sum_101, u_M_sum_104, u_M_sum_105, u_M_sum_107, u_M_sum_110, u_M_sum_111, u_M_sum_113, u_M_sum_114, u_M_sum_117, u_M_sum_118, u_M_sum_120, u_M_sum_123, u_M_sum_124, u_M_sum_126, u_M_sum_127, u_M_sum_130, u_M_sum_131, u_M_sum_133, u_M_sum_134, u_M_sum_135, u_M_sum_138, u_M_sum_139, h1_156, gt_156_46, pt_156_46, gt_156_44, pt_156_44, gt_156_24, h1_163, h2_163, gt_163, pt_163, gt_156_45, pt_156_45, gt_156_26, h1_165, h2_165, gt_165, pt_165, ne_eq, not_false_eq_true, not_true_eq_false, true_and, and_true, true_or, or_true, eq_self, Option.toList_some, Option.toList_none, List.cons_append, List.nil_append, tc_0, tc_I, tc_L, tc_A, Nat.reduceAdd, Nat.reduceLeDiff, Nat.reduceEqDiff, Int.reduceEq, Int.reduceLT, Int.reduceLE, Int.reduceNeg, Int.reduceToNat, Int.cast_ofNat_Int, if_true, if_false, and_self, or_self, ite_self, bI_0, bI_1, bI_01, Bool.false_eq_true, reduceCtorEq, h7, h6, h5, q0, q1, q2, show (len : Int) ≤ j by omega]
      exact hq
  | cons p l ih =>
    intro hp g E TH N I i j v l3 l4 l5 Q hR hE hW h5 h6 h7 hi hK hs hj hj2 hQ
    obtain ⟨s, x⟩ := p
    obtain ⟨hsg, hx⟩ := hp (s, x) List.mem_cons_self
    have hsg : kSum s = true := hsg
    have hx : wT wf x := hx
    have h4 : s = 43 ∨ s = 45 ∨ s = 94 ∨ s = 124 := by unfold kSum at hsg; simpa using hsg
    rw [List.flatMap_cons, List.cons_append] at hs
    obtain ⟨hs0, hs⟩ := seg_hd hs
    have hs0 : T i = s := hs0
    obtain ⟨hs1, hs2⟩ := seg_split hs
    have hzz := kT_z hz x hx _ _ hs1
    have hlt := T_in hR (show ¬ T i = 0 by omega)
    have hl1 := hR.l1
    obtain ⟨q0, q1, q2⟩ := hR.ir
    obtain ⟨x1, x2, x3, x4, x5, x6⟩ := hR.ix hi hlt
    have hw : whc (T i) = s := by rw [hs0]; rcases h4 with rfl | rfl | rfl | rfl <;> decide
    have h77 : eS T i = 7 := by
      unfold eS
      rw [if_neg (fun hh => hh.2 hK), hs0]
      rcases h4 with rfl | rfl | rfl | rfl <;> decide
    rw [hw] at x6
    have wi : w32 (i + 1) = i + 1 := w32_id (by omega) (by omega)
    have hF1 : FM g (mset g 156 44 (i + 1)) := FM_m (by omega)
    have hik := hs2.1
    have hend : kPro (T (i + 1 + ((kT kf x).length : Int))) = false := by
      match l, hs2 with
      | [], hs2 => have e := seg_len hs2; simp at e; rw [← e]; exact hj2
      | (s', x') :: l', hs2 =>
        rw [List.flatMap_cons, List.cons_append] at hs2
        have e := (seg_hd hs2).1
        have := (hp (s', x') (by simp)).1
        have e' : T (i + 1 + ((kT kf x).length : Int)) = s' := e
        rw [e']
        have k : kSum s' = true := this
        unfold kSum at k; unfold kPro; simp at k ⊢; omega
    rw [u_M_sum_5]
    simp only [u_M_sum_6, u_M_sum_9, u_M_sum_12, u_M_sum_13, u_M_sum_16, u_M_sum_17, u_M_sum_20, u_M_sum_21, u_M_sum_24, u_M_sum_25, u_M_sum_28, u_M_sum_29, u_M_sum_32, u_M_sum_33, u_M_sum_36, u_M_sum_39, u_M_sum_40, u_M_sum_43, u_M_sum_44, u_M_sum_45, u_M_sum_48, u_M_sum_49, u_M_sum_50, u_M_sum_53, u_M_sum_56, u_M_sum_57, u_M_sum_60, u_M_sum_63, u_M_sum_64, u_M_sum_67, u_M_sum_68, u_M_sum_69, u_M_sum_72, u_M_sum_73, u_M_sum_74, u_M_sum_75, u_M_sum_76, u_M_sum_77, u_M_sum_80, u_M_sum_81, u_M_sum_82, u_M_sum_85, u_M_sum_86, h1_156, gt_156_46, gt_156_44, gt_156_45, pt_156_44, gt_156_24, gt_156_26, h1_163, h2_163, gt_163, pt_163, h1_165, h2_165, gt_165, pt_165, ne_eq, not_false_eq_true, not_true_eq_false, true_and, and_true, true_or, or_true, eq_self, Option.toList_some, Option.toList_none, List.cons_append, List.nil_append, tc_0, tc_I, tc_L, tc_A, Nat.reduceAdd, Nat.reduceLeDiff, Nat.reduceEqDiff, Int.reduceEq, Int.reduceLT, Int.reduceLE, Int.reduceNeg, Int.reduceToNat, Int.cast_ofNat_Int, if_true, if_false, and_self, or_self, ite_self, bI_0, bI_1, bI_01, Bool.false_eq_true, reduceCtorEq, h7, h6, h5, q0, q1, q2, show ¬ (len : Int) ≤ i by omega, s_M_sortHere hR h5 h6 hi hlt, x1, x2, x3, x4, x6, s_M_isSum, h77, hsg, decide_true, Bool.true_and, bB_t, wi]
    refine hF x hx _ E TH N I (i + 1) _ _ (RT_FM hR hF1) (EnM_FM hE hF1) (WM_m hW (by omega)) (by rw [rd, if_neg (by omega)]; exact h5) (by rw [rd, if_pos (by simp)]) (by rw [rd, if_neg (by omega)]; exact h7) (by omega) (by rw [show i + 1 - 1 = i by omega, hs0]; exact kEnd_sg (Or.inr hsg)) hs1 hend ?_
    unfold vE1 at hQ
    show VM _ _ _ _ _ _ _ (vT (vf E) x)
    cases hv : vT (vf E) x with
    | error e =>
      rw [hv] at hQ
      intro g' u a1 a2 a3
      have hf' := FM_tr hF1 a1
      rcases h4 with rfl | rfl | rfl | rfl
      all_goals
        simp only [u_M_sum_89, u_M_sum_91, u_M_sum_92, u_M_sum_94, u_M_sum_97, u_M_sum_98, u_M_sum_100, u_M_sum_101, u_M_sum_104, u_M_sum_105, u_M_sum_107, u_M_sum_110, u_M_sum_111, u_M_sum_113, u_M_sum_114, u_M_sum_117, u_M_sum_118, u_M_sum_120, u_M_sum_123, u_M_sum_124, u_M_sum_126, u_M_sum_127, u_M_sum_130, u_M_sum_131, u_M_sum_133, u_M_sum_134, u_M_sum_135, ne_eq, not_false_eq_true, not_true_eq_false, true_and, and_true, true_or, or_true, eq_self, Option.toList_some, Option.toList_none, List.cons_append, List.nil_append, tc_0, tc_I, tc_L, tc_A, Nat.reduceAdd, Nat.reduceLeDiff, Nat.reduceEqDiff, Int.reduceEq, Int.reduceLT, Int.reduceLE, Int.reduceNeg, Int.reduceToNat, Int.cast_ofNat_Int, if_true, if_false, and_self, or_self, ite_self, bI_0, bI_1, bI_01, Bool.false_eq_true, reduceCtorEq]
        rw [u_M_sum_5]
        simp only [u_M_sum_6, u_M_sum_9, u_M_sum_138, u_M_sum_139, h1_156, gt_156_46, ne_eq, not_false_eq_true, not_true_eq_false, true_and, and_true, true_or, or_true, eq_self, Option.toList_some, Option.toList_none, List.cons_append, List.nil_append, tc_0, tc_I, tc_L, tc_A, Nat.reduceAdd, Nat.reduceLeDiff, Nat.reduceEqDiff, Int.reduceEq, Int.reduceLT, Int.reduceLE, Int.reduceNeg, Int.reduceToNat, Int.cast_ofNat_Int, if_true, if_false, and_self, or_self, ite_self, bI_0, bI_1, bI_01, Bool.false_eq_true, reduceCtorEq, a2, a3]
        exact hQ g' _ hf' a2 a3
    | ok z =>
      obtain ⟨u, q⟩ := z
      rw [hv] at hQ
      dsimp only at hQ
      intro g' a1 a2 a3 a4
      have hf' := FM_tr hF1 a1
      rw [vE1_q, List.nil_append] at hQ
      have hh : hlm (mset g 156 44 (i + 1)) = hlm g := hlm_FM hF1
      rw [hh] at a4
      have fin : ∀ l3 l4 l5, VV L (D + 2) m_M_sum 5 [some (tA 156), some (tL (opS s v u)), none, l3, l4, l5] [] (WW f t g') Q := fun l3 l4 l5 => ih (fun p hp' => hp p (List.mem_cons_of_mem _ hp')) g' E TH _ _ _ j _ _ _ _ Q (RT_FM hR hf') (EnM_FM hE hf') a4 (by rw [hf' 156 45 (by omega)]; exact h5) a2 a3 (by omega) hzz.1 hs2 hj hj2 (VM_seq hf' hQ)
      rcases h4 with rfl | rfl | rfl | rfl
      all_goals
        simp only [u_M_sum_89, u_M_sum_91, u_M_sum_92, u_M_sum_94, u_M_sum_97, u_M_sum_98, u_M_sum_100, u_M_sum_101, u_M_sum_104, u_M_sum_105, u_M_sum_107, u_M_sum_110, u_M_sum_111, u_M_sum_113, u_M_sum_114, u_M_sum_117, u_M_sum_118, u_M_sum_120, u_M_sum_123, u_M_sum_124, u_M_sum_126, u_M_sum_127, u_M_sum_130, u_M_sum_131, u_M_sum_133, u_M_sum_134, u_M_sum_135, ne_eq, not_false_eq_true, not_true_eq_false, true_and, and_true, true_or, or_true, eq_self, Option.toList_some, Option.toList_none, List.cons_append, List.nil_append, tc_0, tc_I, tc_L, tc_A, Nat.reduceAdd, Nat.reduceLeDiff, Nat.reduceEqDiff, Int.reduceEq, Int.reduceLT, Int.reduceLE, Int.reduceNeg, Int.reduceToNat, Int.cast_ofNat_Int, if_true, if_false, and_self, or_self, ite_self, bI_0, bI_1, bI_01, Bool.false_eq_true, reduceCtorEq]
        exact fin _ _ _
theorem p_M_sum (hz : ∀ x, wf x → ∀ i j, seg T i j (kf x) → kEnd (T (j - 1)) = true ∧ i < j) (hF : ∀ x, wf x → VMs L (D + 1) r f t T len m_M_factor [none, none, none, none, none, none, none] (kf x) (fun E => vf E x) (fun _ => True)) (x : Exq F) (hx : wE wf x) : VMs L (D + 3) r f t T len m_M_sum [none, none, none, none, none] (kE kf x) (fun E => vE (vf E) x) (fun v => kSum v = false ∧ kPro v = false) := by
  intro g E TH N I i j Q hR hE hW h5 h6 h7 hi hK hs hj hQ
  obtain ⟨hs1, hs2⟩ := seg_split hs
  have hzz := kT_z hz x.1 hx.1 _ _ hs1
  have hP := p_M_product hF
  have hend : kPro (T (i + ((kT kf x.1).length : Int))) = false := by
    match hl2 : x.2, hs2 with
    | [], hs2 => have e := seg_len hs2; simp at e; rw [← e]; exact hj.2
    | (s', x') :: l', hs2 =>
      rw [List.flatMap_cons, List.cons_append] at hs2
      have e := (seg_hd hs2).1
      have := (hx.2 (s', x') (by rw [hl2]; simp)).1
      have e' : T (i + ((kT kf x.1).length : Int)) = s' := e
      rw [e']
      have k : kSum s' = true := this
      unfold kSum at k; unfold kPro; simp at k ⊢; omega
  simp only [u_M_sum_0, u_M_sum_1, h1_156, ne_eq, not_false_eq_true, not_true_eq_false, true_and, and_true, true_or, or_true, eq_self, Option.toList_some, Option.toList_none, List.cons_append, List.nil_append, tc_0, tc_I, tc_L, tc_A, Nat.reduceAdd, Nat.reduceLeDiff, Nat.reduceEqDiff, Int.reduceEq, Int.reduceLT, Int.reduceLE, Int.reduceNeg, Int.reduceToNat, Int.cast_ofNat_Int, if_true, if_false, and_self, or_self, ite_self, bI_0, bI_1, bI_01, Bool.false_eq_true, reduceCtorEq]
  refine hP x.1 hx.1 g E TH N I i _ _ hR hE hW h5 h6 h7 hi hK hs1 hend ?_
  unfold vE at hQ
  dsimp only at hQ
  show VM _ _ _ _ _ _ _ (vT (vf E) x.1)
  cases hv : vT (vf E) x.1 with
  | error e =>
    rw [hv] at hQ
    intro g' u a1 a2 a3
    simp only [u_M_sum_4, ne_eq, not_false_eq_true, not_true_eq_false, true_and, and_true, true_or, or_true, eq_self, Option.toList_some, Option.toList_none, List.cons_append, List.nil_append, tc_0, tc_I, tc_L, tc_A, Nat.reduceAdd, Nat.reduceLeDiff, Nat.reduceEqDiff, Int.reduceEq, Int.reduceLT, Int.reduceLE, Int.reduceNeg, Int.reduceToNat, Int.cast_ofNat_Int, if_true, if_false, and_self, or_self, ite_self, bI_0, bI_1, bI_01, Bool.false_eq_true, reduceCtorEq]
    rw [u_M_sum_5]
    simp only [u_M_sum_6, u_M_sum_9, u_M_sum_138, u_M_sum_139, h1_156, gt_156_46, ne_eq, not_false_eq_true, not_true_eq_false, true_and, and_true, true_or, or_true, eq_self, Option.toList_some, Option.toList_none, List.cons_append, List.nil_append, tc_0, tc_I, tc_L, tc_A, Nat.reduceAdd, Nat.reduceLeDiff, Nat.reduceEqDiff, Int.reduceEq, Int.reduceLT, Int.reduceLE, Int.reduceNeg, Int.reduceToNat, Int.cast_ofNat_Int, if_true, if_false, and_self, or_self, ite_self, bI_0, bI_1, bI_01, Bool.false_eq_true, reduceCtorEq, a2, a3]
    exact hQ g' _ a1 a2 a3
  | ok z =>
    obtain ⟨u, q⟩ := z
    rw [hv] at hQ
    dsimp only at hQ
    intro g' a1 a2 a3 a4
    simp only [u_M_sum_4, ne_eq, not_false_eq_true, not_true_eq_false, true_and, and_true, true_or, or_true, eq_self, Option.toList_some, Option.toList_none, List.cons_append, List.nil_append, tc_0, tc_I, tc_L, tc_A, Nat.reduceAdd, Nat.reduceLeDiff, Nat.reduceEqDiff, Int.reduceEq, Int.reduceLT, Int.reduceLE, Int.reduceNeg, Int.reduceToNat, Int.cast_ofNat_Int, if_true, if_false, and_self, or_self, ite_self, bI_0, bI_1, bI_01, Bool.false_eq_true, reduceCtorEq]
    rw [vE1_q] at hQ
    exact l_M_sum (D := D + 1) hz (fun x hx => hP x hx) x.2 hx.2 g' E TH _ _ _ j u _ _ _ Q (RT_FM hR a1) (EnM_FM hE a1) a4 (by rw [a1 156 45 (by omega)]; exact h5) a2 a3 (by omega) hzz.1 hs2 hj.1 hj.2 (VM_seq a1 hQ)
end
