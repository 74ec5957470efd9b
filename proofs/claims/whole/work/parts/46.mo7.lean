/-! The reference's reader: factors -/
theorem kEnd_n {x : Int} (h : x < 0) : kEnd x = true := by unfold kEnd; simp; omega
theorem kEnd_a {x : Int} (h : kName x = true) : kEnd x = true := by unfold kName at h; unfold kEnd; simp at h ⊢; omega
theorem kEnd_r {x : Int} (h : kRow x = true) : kEnd x = true := by unfold kRow at h; unfold kEnd; simp at h ⊢; omega
theorem srt_n {x : Int} (h : x < 0) : srt x = 2 := by unfold srt; rw [if_pos h]
theorem srt_a {x : Int} (h : kName x = true) : srt x = 1 ∧ whc x = x - 97 := by
  have : ¬ x < 0 := by unfold kName at h; simp at h; omega
  unfold srt whc; rw [if_neg this, if_pos h, if_neg this, if_pos h]; exact ⟨rfl, rfl⟩
theorem srt_r {x : Int} (h : kRow x = true) : srt x = 3 ∧ whc x = x - 65 := by
  have h1 : ¬ x < 0 := by unfold kRow at h; simp at h; omega
  have h2 : ¬ kName x = true := by unfold kRow at h; unfold kName; simp at h ⊢; omega
  unfold srt whc; rw [if_neg h1, if_neg h2, if_pos h, if_neg h1, if_neg h2, if_pos h]; exact ⟨rfl, rfl⟩
theorem srt_iff {x : Int} : (srt x = 1 ↔ kName x = true) ∧ (srt x = 2 ↔ x < 0) ∧ (srt x = 3 ↔ kRow x = true) ∧ (srt x = 4 ↔ kStk x = true) := by
  unfold srt
  refine ⟨⟨fun h => ?_, fun h => ?_⟩, ⟨fun h => ?_, fun h => ?_⟩, ⟨fun h => ?_, fun h => ?_⟩, ⟨fun h => ?_, fun h => ?_⟩⟩
  all_goals first
    | (exact (srt_a h).1)
    | (exact srt_n h)
    | (exact (srt_r h).1)
    | ((repeat' split at h) <;> first | assumption | omega)
    | (unfold kStk at h; unfold kName kRow kStk; simp at h ⊢; omega)
section
variable {L d : Nat} {f t g g0 : Mem} {Q : Option TV → Wd → Prop} {y : Int → Int} {n k op c s : Int} {len N R : Nat}
theorem ME_op {v : Int} (h : ME y n len g0 k op N R g) : ME y n len g0 k v N R (mset g 156 16 v) := by
  obtain ⟨hF, hg, hy, hn, h0, h1, hs, hm, hk0, hk, hE, hop, hN, hR, hN2, hR2⟩ := h
  refine ⟨fun c j hcj => ?_, ⟨hg.1, hg.2.1, fun i hi => ?_⟩, ?_, hn, h0, h1, hs, hm, hk0, hk, fun q hq => ?_, rfl, hN, hR, hN2, hR2⟩
  · rw [← hF c j hcj]; unfold scE at hcj; simp only [rd]; grind
  · have := hg.2.2 i hi; simp only [rd, Nat.reduceEqDiff, false_and, if_false]; exact this
  · rw [← hy]; funext i; unfold ym; simp only [rd, Nat.reduceEqDiff, false_and, and_false, if_false]
  · have := hE q hq; simp only [rd, Nat.reduceEqDiff, false_and, if_false]; exact this
theorem ME_so {v : Int} (h : ME y n len g0 k op N R g) : ME y n len g0 k op N R (mset g 156 6 v) := by
  obtain ⟨hF, hg, hy, hn, h0, h1, hs, hm, hk0, hk, hE, hop, hN, hR, hN2, hR2⟩ := h
  refine ⟨fun c j hcj => ?_, ⟨hg.1, hg.2.1, fun i hi => ?_⟩, ?_, hn, h0, h1, hs, hm, hk0, hk, fun q hq => ?_, hop, hN, hR, hN2, hR2⟩
  · rw [← hF c j hcj]; unfold scE at hcj; simp only [rd]; grind
  · have := hg.2.2 i hi; simp only [rd, Nat.reduceEqDiff, false_and, if_false]; exact this
  · rw [← hy]; funext i; unfold ym; simp only [rd, Nat.reduceEqDiff, false_and, and_false, if_false]
  · have := hE q hq; simp only [rd, Nat.reduceEqDiff, false_and, if_false]; exact this
theorem ME_N {N' : Nat} (h : ME y n len g0 k op N R g) (hN' : N' < 67108864) : ME y n len g0 k op N' R (mset g 156 14 N') := by
  obtain ⟨hF, hg, hy, hn, h0, h1, hs, hm, hk0, hk, hE, hop, hN, hR, hN2, hR2⟩ := h
  refine ⟨fun c j hcj => ?_, ⟨hg.1, hg.2.1, fun i hi => ?_⟩, ?_, hn, h0, h1, hs, hm, hk0, hk, fun q hq => ?_, hop, rfl, hR, hN', hR2⟩
  · rw [← hF c j hcj]; unfold scE at hcj; simp only [rd]; grind
  · have := hg.2.2 i hi; simp only [rd, Nat.reduceEqDiff, false_and, if_false]; exact this
  · rw [← hy]; funext i; unfold ym; simp only [rd, Nat.reduceEqDiff, false_and, and_false, if_false]
  · have := hE q hq; simp only [rd, Nat.reduceEqDiff, false_and, if_false]; exact this
theorem ME_R {R' : Nat} (h : ME y n len g0 k op N R g) (hR' : R' < 67108864) : ME y n len g0 k op N R' (mset g 156 15 R') := by
  obtain ⟨hF, hg, hy, hn, h0, h1, hs, hm, hk0, hk, hE, hop, hN, hR, hN2, hR2⟩ := h
  refine ⟨fun c j hcj => ?_, ⟨hg.1, hg.2.1, fun i hi => ?_⟩, ?_, hn, h0, h1, hs, hm, hk0, hk, fun q hq => ?_, hop, hN, rfl, hN2, hR'⟩
  · rw [← hF c j hcj]; unfold scE at hcj; simp only [rd]; grind
  · have := hg.2.2 i hi; simp only [rd, Nat.reduceEqDiff, false_and, if_false]; exact this
  · rw [← hy]; funext i; unfold ym; simp only [rd, Nat.reduceEqDiff, false_and, and_false, if_false]
  · have := hE q hq; simp only [rd, Nat.reduceEqDiff, false_and, if_false]; exact this
theorem ME_op1 (h : ME y n len g0 k op N R g) : g 156 16 = op := h.2.2.2.2.2.2.2.2.2.2.2.1
theorem ME_N1 (h : ME y n len g0 k op N R g) : g 156 14 = N ∧ N < 67108864 := ⟨h.2.2.2.2.2.2.2.2.2.2.2.2.1, h.2.2.2.2.2.2.2.2.2.2.2.2.2.2.1⟩
theorem ME_R1 (h : ME y n len g0 k op N R g) : g 156 15 = R ∧ R < 67108864 := ⟨h.2.2.2.2.2.2.2.2.2.2.2.2.2.1, h.2.2.2.2.2.2.2.2.2.2.2.2.2.2.2⟩
theorem ME_k (h : ME y n len g0 k op N R g) : 0 ≤ k ∧ k ≤ len := ⟨h.2.2.2.2.2.2.2.2.1, h.2.2.2.2.2.2.2.2.2.1⟩
theorem LKs_m {j : Nat} {v : Int} (h : LKs y len k g) (hj : 9 ≤ j) : LKs y len k (mset g 156 j v) := by
  obtain ⟨a, b, c, e⟩ := h
  refine ⟨?_, ?_, ?_, fun hl => ?_⟩ <;> simp only [rd, true_and]
  · rw [if_neg (by omega)]; exact a
  · rw [if_neg (by omega)]; exact b
  · rw [if_neg (by omega)]; exact c
  · rw [if_neg (by omega)]; exact e hl
theorem eS_ne (h : ¬ Tk y len k = 45) : eS (Tk y len) k = srt (Tk y len k) := by unfold eS; rw [if_neg (fun hh => h hh.1)]
theorem p_take (hL : Lexd y n len) (hn6 : n ≤ 600) (h : ME y n len g0 k op N R g) (hl : LKs y len k g) (hne : ¬ Tk y len k = 0) (h45 : ¬ Tk y len k = 45) (hQ : ∀ g', ME y n len g0 (k + 1) op N R g' → Q none (WW f t g')) : VV L (d + 1) m_M_take0 0 [some (tA 156)] [] (WW f t g) Q :=
  m_take0 hL hn6 h (Tk_lt hne) (by rw [eS_ne h45]; exact hl.2.1) hl.2.2.1 (hl.2.2.2 (Tk_lt hne)) hQ
theorem p_wants (hL : Lexd y n len) (hn6 : n ≤ 600) (h : ME y n len g0 k op N R g) (hc : sgn c = true) (h45 : ¬ c = 45) (hY : Tk y len k = c → ∀ g', ME y n len g0 (k + 1) op N R g' → Q (some (tI 1)) (WW f t g')) (hN : ¬ Tk y len k = c → ∀ g', FE g0 g' → g' 156 12 = 1 → g' 156 13 = sk y (eN y k.toNat) → Q (some (tI 0)) (WW f t g')) : VV L (d + 5) m_M_wants 0 [some (tA 156), some (tI 7), some (tI c)] [] (WW f t g) Q := by
  simp only [u_M_wants_0, u_M_wants_1, u_M_wants_2, u_M_wants_3, u_M_wants_6, u_M_wants_9, u_M_wants_10, u_M_wants_11, u_M_wants_12, u_M_wants_15, u_M_wants_18, u_M_wants_19, u_M_wants_20, u_M_wants_23, u_M_wants_24, h1_156, gt_156_5, pt_156_5, ne_eq, not_false_eq_true, not_true_eq_false, true_and, and_true, true_or, or_true, eq_self, Option.toList_some, Option.toList_none, List.cons_append, List.nil_append, tc_0, tc_I, tc_L, tc_A, Nat.reduceAdd, Nat.reduceLeDiff, Nat.reduceEqDiff, Int.reduceEq, Int.reduceLT, Int.reduceLE, Int.reduceNeg, Int.reduceToNat, Int.cast_ofNat_Int, if_true, if_false, and_self, or_self, ite_self, bI_0, bI_1, bI_01, Bool.false_eq_true, reduceCtorEq]
  refine m_is hL h hc (fun g' h' hl => ?_)
  by_cases e : Tk y len k = c
  · have hne : ¬ Tk y len k = 0 := by rw [e]; intro h0; rw [h0] at hc; cases hc
    simp only [e, decide_true, bB_t, u_M_wants_0, u_M_wants_1, u_M_wants_2, u_M_wants_3, u_M_wants_6, u_M_wants_9, u_M_wants_10, u_M_wants_11, u_M_wants_12, u_M_wants_15, u_M_wants_18, u_M_wants_19, u_M_wants_20, u_M_wants_23, u_M_wants_24, h1_156, gt_156_5, pt_156_5, ne_eq, not_false_eq_true, not_true_eq_false, true_and, and_true, true_or, or_true, eq_self, Option.toList_some, Option.toList_none, List.cons_append, List.nil_append, tc_0, tc_I, tc_L, tc_A, Nat.reduceAdd, Nat.reduceLeDiff, Nat.reduceEqDiff, Int.reduceEq, Int.reduceLT, Int.reduceLE, Int.reduceNeg, Int.reduceToNat, Int.cast_ofNat_Int, if_true, if_false, and_self, or_self, ite_self, bI_0, bI_1, bI_01, Bool.false_eq_true, reduceCtorEq]
    refine p_take hL hn6 h' hl hne (by rw [e]; exact h45) (fun g2 h2 => ?_)
    simp only [u_M_wants_0, u_M_wants_1, u_M_wants_2, u_M_wants_3, u_M_wants_6, u_M_wants_9, u_M_wants_10, u_M_wants_11, u_M_wants_12, u_M_wants_15, u_M_wants_18, u_M_wants_19, u_M_wants_20, u_M_wants_23, u_M_wants_24, h1_156, gt_156_5, pt_156_5, ne_eq, not_false_eq_true, not_true_eq_false, true_and, and_true, true_or, or_true, eq_self, Option.toList_some, Option.toList_none, List.cons_append, List.nil_append, tc_0, tc_I, tc_L, tc_A, Nat.reduceAdd, Nat.reduceLeDiff, Nat.reduceEqDiff, Int.reduceEq, Int.reduceLT, Int.reduceLE, Int.reduceNeg, Int.reduceToNat, Int.cast_ofNat_Int, if_true, if_false, and_self, or_self, ite_self, bI_0, bI_1, bI_01, Bool.false_eq_true, reduceCtorEq]
    exact hY e g2 h2
  · simp only [e, decide_false, bB_f, u_M_wants_0, u_M_wants_1, u_M_wants_2, u_M_wants_3, u_M_wants_6, u_M_wants_9, u_M_wants_10, u_M_wants_11, u_M_wants_12, u_M_wants_15, u_M_wants_18, u_M_wants_19, u_M_wants_20, u_M_wants_23, u_M_wants_24, h1_156, gt_156_5, pt_156_5, ne_eq, not_false_eq_true, not_true_eq_false, true_and, and_true, true_or, or_true, eq_self, Option.toList_some, Option.toList_none, List.cons_append, List.nil_append, tc_0, tc_I, tc_L, tc_A, Nat.reduceAdd, Nat.reduceLeDiff, Nat.reduceEqDiff, Int.reduceEq, Int.reduceLT, Int.reduceLE, Int.reduceNeg, Int.reduceToNat, Int.cast_ofNat_Int, if_true, if_false, and_self, or_self, ite_self, bI_0, bI_1, bI_01, Bool.false_eq_true, reduceCtorEq]
    rw [hl.1]
    refine m_fails h'.1 (fun g2 a b c => ?_)
    simp only [u_M_wants_0, u_M_wants_1, u_M_wants_2, u_M_wants_3, u_M_wants_6, u_M_wants_9, u_M_wants_10, u_M_wants_11, u_M_wants_12, u_M_wants_15, u_M_wants_18, u_M_wants_19, u_M_wants_20, u_M_wants_23, u_M_wants_24, h1_156, gt_156_5, pt_156_5, ne_eq, not_false_eq_true, not_true_eq_false, true_and, and_true, true_or, or_true, eq_self, Option.toList_some, Option.toList_none, List.cons_append, List.nil_append, tc_0, tc_I, tc_L, tc_A, Nat.reduceAdd, Nat.reduceLeDiff, Nat.reduceEqDiff, Int.reduceEq, Int.reduceLT, Int.reduceLE, Int.reduceNeg, Int.reduceToNat, Int.cast_ofNat_Int, if_true, if_false, and_self, or_self, ite_self, bI_0, bI_1, bI_01, Bool.false_eq_true, reduceCtorEq]
    exact hN e g2 a b c
theorem p_wantsS (hL : Lexd y n len) (hn6 : n ≤ 600) (h : ME y n len g0 k op N R g) (hs : 1 ≤ s ∧ s ≤ 4) (hY : srt (Tk y len k) = s → ∀ g', ME y n len g0 (k + 1) op N R g' → Q (some (tI 1)) (WW f t g')) (hN : ¬ srt (Tk y len k) = s → ∀ g', FE g0 g' → g' 156 12 = 1 → g' 156 13 = sk y (eN y k.toNat) → Q (some (tI 0)) (WW f t g')) : VV L (d + 4) m_M_wantsSort 0 [some (tA 156), some (tI s)] [] (WW f t g) Q := by
  simp only [u_M_wantsSort_0, u_M_wantsSort_1, u_M_wantsSort_4, u_M_wantsSort_5, u_M_wantsSort_8, u_M_wantsSort_9, u_M_wantsSort_12, u_M_wantsSort_13, u_M_wantsSort_14, u_M_wantsSort_15, u_M_wantsSort_18, u_M_wantsSort_21, u_M_wantsSort_22, u_M_wantsSort_23, u_M_wantsSort_26, u_M_wantsSort_27, h1_156, gt_156_6, pt_156_6, gt_156_5, pt_156_5, ne_eq, not_false_eq_true, not_true_eq_false, true_and, and_true, true_or, or_true, eq_self, Option.toList_some, Option.toList_none, List.cons_append, List.nil_append, tc_0, tc_I, tc_L, tc_A, Nat.reduceAdd, Nat.reduceLeDiff, Nat.reduceEqDiff, Int.reduceEq, Int.reduceLT, Int.reduceLE, Int.reduceNeg, Int.reduceToNat, Int.cast_ofNat_Int, if_true, if_false, and_self, or_self, ite_self, bI_0, bI_1, bI_01, Bool.false_eq_true, reduceCtorEq]
  refine m_look hL h (fun g' h' hl => ?_)
  simp only [u_M_wantsSort_0, u_M_wantsSort_1, u_M_wantsSort_4, u_M_wantsSort_5, u_M_wantsSort_8, u_M_wantsSort_9, u_M_wantsSort_12, u_M_wantsSort_13, u_M_wantsSort_14, u_M_wantsSort_15, u_M_wantsSort_18, u_M_wantsSort_21, u_M_wantsSort_22, u_M_wantsSort_23, u_M_wantsSort_26, u_M_wantsSort_27, h1_156, gt_156_6, pt_156_6, gt_156_5, pt_156_5, ne_eq, not_false_eq_true, not_true_eq_false, true_and, and_true, true_or, or_true, eq_self, Option.toList_some, Option.toList_none, List.cons_append, List.nil_append, tc_0, tc_I, tc_L, tc_A, Nat.reduceAdd, Nat.reduceLeDiff, Nat.reduceEqDiff, Int.reduceEq, Int.reduceLT, Int.reduceLE, Int.reduceNeg, Int.reduceToNat, Int.cast_ofNat_Int, if_true, if_false, and_self, or_self, ite_self, bI_0, bI_1, bI_01, Bool.false_eq_true, reduceCtorEq, hl.2.1, hl.1]
  by_cases e : srt (Tk y len k) = s
  · have hne : ¬ Tk y len k = 0 := by intro h0; rw [h0] at e; have : srt 0 = 0 := rfl; omega
    have h45 : ¬ Tk y len k = 45 := by intro h0; rw [h0] at e; have : srt 45 = 7 := rfl; omega
    simp only [e, ne_eq, not_false_eq_true, not_true_eq_false, true_and, and_true, true_or, or_true, eq_self, Option.toList_some, Option.toList_none, List.cons_append, List.nil_append, tc_0, tc_I, tc_L, tc_A, Nat.reduceAdd, Nat.reduceLeDiff, Nat.reduceEqDiff, Int.reduceEq, Int.reduceLT, Int.reduceLE, Int.reduceNeg, Int.reduceToNat, Int.cast_ofNat_Int, if_true, if_false, and_self, or_self, ite_self, bI_0, bI_1, bI_01, Bool.false_eq_true, reduceCtorEq]
    refine p_take hL hn6 h' hl hne h45 (fun g2 h2 => ?_)
    simp only [u_M_wantsSort_0, u_M_wantsSort_1, u_M_wantsSort_4, u_M_wantsSort_5, u_M_wantsSort_8, u_M_wantsSort_9, u_M_wantsSort_12, u_M_wantsSort_13, u_M_wantsSort_14, u_M_wantsSort_15, u_M_wantsSort_18, u_M_wantsSort_21, u_M_wantsSort_22, u_M_wantsSort_23, u_M_wantsSort_26, u_M_wantsSort_27, h1_156, gt_156_6, pt_156_6, gt_156_5, pt_156_5, ne_eq, not_false_eq_true, not_true_eq_false, true_and, and_true, true_or, or_true, eq_self, Option.toList_some, Option.toList_none, List.cons_append, List.nil_append, tc_0, tc_I, tc_L, tc_A, Nat.reduceAdd, Nat.reduceLeDiff, Nat.reduceEqDiff, Int.reduceEq, Int.reduceLT, Int.reduceLE, Int.reduceNeg, Int.reduceToNat, Int.cast_ofNat_Int, if_true, if_false, and_self, or_self, ite_self, bI_0, bI_1, bI_01, Bool.false_eq_true, reduceCtorEq]
    exact hY e g2 h2
  · simp only [e, ne_eq, not_false_eq_true, not_true_eq_false, true_and, and_true, true_or, or_true, eq_self, Option.toList_some, Option.toList_none, List.cons_append, List.nil_append, tc_0, tc_I, tc_L, tc_A, Nat.reduceAdd, Nat.reduceLeDiff, Nat.reduceEqDiff, Int.reduceEq, Int.reduceLT, Int.reduceLE, Int.reduceNeg, Int.reduceToNat, Int.cast_ofNat_Int, if_true, if_false, and_self, or_self, ite_self, bI_0, bI_1, bI_01, Bool.false_eq_true, reduceCtorEq]
    refine m_fails h'.1 (fun g2 a b c => ?_)
    simp only [u_M_wantsSort_0, u_M_wantsSort_1, u_M_wantsSort_4, u_M_wantsSort_5, u_M_wantsSort_8, u_M_wantsSort_9, u_M_wantsSort_12, u_M_wantsSort_13, u_M_wantsSort_14, u_M_wantsSort_15, u_M_wantsSort_18, u_M_wantsSort_21, u_M_wantsSort_22, u_M_wantsSort_23, u_M_wantsSort_26, u_M_wantsSort_27, h1_156, gt_156_6, pt_156_6, gt_156_5, pt_156_5, ne_eq, not_false_eq_true, not_true_eq_false, true_and, and_true, true_or, or_true, eq_self, Option.toList_some, Option.toList_none, List.cons_append, List.nil_append, tc_0, tc_I, tc_L, tc_A, Nat.reduceAdd, Nat.reduceLeDiff, Nat.reduceEqDiff, Int.reduceEq, Int.reduceLT, Int.reduceLE, Int.reduceNeg, Int.reduceToNat, Int.cast_ofNat_Int, if_true, if_false, and_self, or_self, ite_self, bI_0, bI_1, bI_01, Bool.false_eq_true, reduceCtorEq]
    exact hN e g2 a b c
theorem p_opens (h : ME y n len g0 k op N R g) (hl : LKs y len k g) (hop : 0 ≤ op ∧ op ≤ 8) (hY : ¬ op = 8 → Q (some (tI 1)) (WW f t (mset g 156 16 (op + 1)))) (hN : op = 8 → ∀ g', FE g0 g' → g' 156 12 = 2 → g' 156 13 = sk y (eN y k.toNat) → Q (some (tI 0)) (WW f t g')) : VV L (d + 1) m_M_opens 0 [some (tA 156)] [] (WW f t g) Q := by
  simp only [u_M_opens_0, u_M_opens_1, u_M_opens_4, u_M_opens_6, u_M_opens_9, u_M_opens_10, u_M_opens_11, u_M_opens_12, u_M_opens_15, u_M_opens_18, u_M_opens_19, u_M_opens_20, u_M_opens_21, u_M_opens_24, u_M_opens_25, u_M_opens_26, u_M_opens_29, u_M_opens_30, h1_156, gt_156_16, pt_156_16, gt_156_5, pt_156_5, ne_eq, not_false_eq_true, not_true_eq_false, true_and, and_true, true_or, or_true, eq_self, Option.toList_some, Option.toList_none, List.cons_append, List.nil_append, tc_0, tc_I, tc_L, tc_A, Nat.reduceAdd, Nat.reduceLeDiff, Nat.reduceEqDiff, Int.reduceEq, Int.reduceLT, Int.reduceLE, Int.reduceNeg, Int.reduceToNat, Int.cast_ofNat_Int, if_true, if_false, and_self, or_self, ite_self, bI_0, bI_1, bI_01, Bool.false_eq_true, reduceCtorEq, ME_op1 h]
  by_cases e : op = 8
  · simp only [e, ne_eq, not_false_eq_true, not_true_eq_false, true_and, and_true, true_or, or_true, eq_self, Option.toList_some, Option.toList_none, List.cons_append, List.nil_append, tc_0, tc_I, tc_L, tc_A, Nat.reduceAdd, Nat.reduceLeDiff, Nat.reduceEqDiff, Int.reduceEq, Int.reduceLT, Int.reduceLE, Int.reduceNeg, Int.reduceToNat, Int.cast_ofNat_Int, if_true, if_false, and_self, or_self, ite_self, bI_0, bI_1, bI_01, Bool.false_eq_true, reduceCtorEq, hl.1]
    refine m_fails h.1 (fun g2 a b c => ?_)
    simp only [u_M_opens_0, u_M_opens_1, u_M_opens_4, u_M_opens_6, u_M_opens_9, u_M_opens_10, u_M_opens_11, u_M_opens_12, u_M_opens_15, u_M_opens_18, u_M_opens_19, u_M_opens_20, u_M_opens_21, u_M_opens_24, u_M_opens_25, u_M_opens_26, u_M_opens_29, u_M_opens_30, h1_156, gt_156_16, pt_156_16, gt_156_5, pt_156_5, ne_eq, not_false_eq_true, not_true_eq_false, true_and, and_true, true_or, or_true, eq_self, Option.toList_some, Option.toList_none, List.cons_append, List.nil_append, tc_0, tc_I, tc_L, tc_A, Nat.reduceAdd, Nat.reduceLeDiff, Nat.reduceEqDiff, Int.reduceEq, Int.reduceLT, Int.reduceLE, Int.reduceNeg, Int.reduceToNat, Int.cast_ofNat_Int, if_true, if_false, and_self, or_self, ite_self, bI_0, bI_1, bI_01, Bool.false_eq_true, reduceCtorEq]
    exact hN e g2 a b c
  · simp only [e, ne_eq, not_false_eq_true, not_true_eq_false, true_and, and_true, true_or, or_true, eq_self, Option.toList_some, Option.toList_none, List.cons_append, List.nil_append, tc_0, tc_I, tc_L, tc_A, Nat.reduceAdd, Nat.reduceLeDiff, Nat.reduceEqDiff, Int.reduceEq, Int.reduceLT, Int.reduceLE, Int.reduceNeg, Int.reduceToNat, Int.cast_ofNat_Int, if_true, if_false, and_self, or_self, ite_self, bI_0, bI_1, bI_01, Bool.false_eq_true, reduceCtorEq, w32_id (show (-2147483648 : Int) ≤ op + 1 by omega) (show op + 1 < (2147483648 : Int) by omega)]
    exact hY e
end
theorem msk_or {N x : Nat} (hN : N < 67108864) (hx : x < 26) : o32 (fun x y => x ||| y) (N : Int) (o32 (fun x y => x <<< (y &&& 31)) 1 (x : Int)) = ((N ||| 2 ^ x : Nat) : Int) ∧ N ||| 2 ^ x < 67108864 := by
  have h2 : 2 ^ x < 67108864 := by
    have : 2 ^ x ≤ 2 ^ 25 := Nat.pow_le_pow_right (by omega) (by omega)
    omega
  rw [o32_shl1 (by omega), o32_or (by omega) (by omega)]
  exact ⟨rfl, Nat.or_lt_two_pow (n := 26) hN h2⟩
theorem msk_b {N x z : Nat} : (N ||| 2 ^ x).testBit z = (N.testBit z || decide (x = z)) := by
  rw [Nat.testBit_or, Nat.testBit_two_pow]
