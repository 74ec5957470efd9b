/-! turn, the reference: how large it would be -/
theorem RO_1 {g : Mem} {r q : Nat} {op ro a b c e h x y : Int} (H : RO g r q ((op, ro, a, b, c, e, h), x, y)) (hro : ¬ ro = 0) : g 167 (40 * r + q) = dzC op ro := by
  unfold RO at H; rw [if_neg hro] at H; exact H.1
section
variable {L d r len : Nat} {f t g : Mem} {T : Int → Int} {Q : Option TV → Wd → Prop} {i j n m p i4 : Int} {k : List Int} {u4 u5 u6 u7 u8 u9 : Option TV}
theorem l_M_pl2 (h : SMr g r len T i j n k) {m p i4 : Int} : VV L (d + 3) m_M_turnedSize 91 [some (tA 156), some (tI r), some (tI m), some (tI p), some (tI i4), some (tI (i + 3)), some (tI j), some (tI (n - 97)), some (tI (whc (T (i + 3 + 1)))), u9] [] (WW f t g) Q = VV L (d + 3) m_M_turnedSize 170 [some (tA 156), some (tI r), some (tI m), some (tI p), some (tI i4), some (tI (i + 3)), some (tI j), some (tI (n - 97)), some (tI (whc (T (i + 3 + 1)))), some (tI (bB (plQ n k)))] [] (WW f t g) Q := by
  have hrt := h.rt
  have e := seg_len h.hs
  obtain ⟨w1, w2, w3, l1, l2, l3, l4, l5, l6, l7⟩ := ar_sm h.h0 e h.k1 h.hjl (by have := hrt.l1; omega)
  have hoki : okT (T (i + 3)) := by
    have hs := h.hs
    have hk := h.ok
    have k1 := h.k1
    match k, hs, hk, k1 with
    | v :: m, hs, hk, _ => rw [(seg_hd hs).1]; exact hk v List.mem_cons_self
  have I1 := fun D Q => s_M_isNm (L := L) (d := D) (f := f) (t := t) (Q := Q) hrt l4 l2 hoki h.kn
  have S1 := fun D Q => s_M_sums (L := L) (d := D) (f := f) (t := t) (Q := Q) hrt l5 l4 h.hs
  rw [show i + 3 - 1 = i + 2 by omega] at S1
  obtain ⟨x1, x2, x3, x4, x5, x6, x7⟩ := hrt.ix1 l4 l3
  rcases pl5 h with ⟨p0, p1, p2, p3, p4, p5, p6⟩ | ⟨p0, hc⟩
  · have N1 := fun D Q => s_M_standsIn (L := L) (d := D) (f := f) (t := t) (Q := Q) hrt h.kn l5 l7 (h.dr p5) (fun v hv => h.ok v (List.mem_of_mem_drop hv))
    have p2' : ((cntS (T (i + 2)) 0 k : Nat) : Int) = 1 := by rw [p2]; rfl
    rw [p0]
    simp only [u_M_turnedSize_91, u_M_turnedSize_92, u_M_turnedSize_93, u_M_turnedSize_95, u_M_turnedSize_96, u_M_turnedSize_98, u_M_turnedSize_101, u_M_turnedSize_104, u_M_turnedSize_105, u_M_turnedSize_106, u_M_turnedSize_108, u_M_turnedSize_110, u_M_turnedSize_113, u_M_turnedSize_114, u_M_turnedSize_117, u_M_turnedSize_118, u_M_turnedSize_121, u_M_turnedSize_124, u_M_turnedSize_125, u_M_turnedSize_126, u_M_turnedSize_128, u_M_turnedSize_129, u_M_turnedSize_130, u_M_turnedSize_131, u_M_turnedSize_132, u_M_turnedSize_134, u_M_turnedSize_137, u_M_turnedSize_140, u_M_turnedSize_142, u_M_turnedSize_144, u_M_turnedSize_147, u_M_turnedSize_148, u_M_turnedSize_149, u_M_turnedSize_151, u_M_turnedSize_152, u_M_turnedSize_153, u_M_turnedSize_155, u_M_turnedSize_157, u_M_turnedSize_160, u_M_turnedSize_163, u_M_turnedSize_164, u_M_turnedSize_167, u_M_turnedSize_168, h1_156, gt_156_25, h1_164, h2_164, gt_164, pt_164, ne_eq, not_false_eq_true, not_true_eq_false, true_and, and_true, true_or, or_true, eq_self, Option.toList_some, Option.toList_none, List.cons_append, List.nil_append, tc_0, tc_I, tc_L, tc_A, Nat.reduceAdd, Nat.reduceLeDiff, Nat.reduceEqDiff, Int.reduceEq, Int.reduceLT, Int.reduceLE, Int.reduceNeg, Int.reduceToNat, Int.cast_ofNat_Int, if_true, if_false, and_self, or_self, ite_self, bI_0, bI_1, bI_01, Bool.false_eq_true, reduceCtorEq, I1, p1, decide_true, bB_t, S1, p2', x1, x2, x3, x4, x5, x6, s_M_isSum, p3, p4, w2, N1, p6, decide_false, bB_f]
  · rw [p0]
    rcases hc with p1 | ⟨p1, p2⟩ | ⟨p1, p2, p3⟩ | ⟨p1, p2, p3, p4⟩ | ⟨p1, p2, p3, p4, p5, p6⟩
    · simp only [u_M_turnedSize_91, u_M_turnedSize_92, u_M_turnedSize_93, u_M_turnedSize_95, u_M_turnedSize_96, u_M_turnedSize_98, u_M_turnedSize_101, u_M_turnedSize_167, u_M_turnedSize_168, h1_156, ne_eq, not_false_eq_true, not_true_eq_false, true_and, and_true, true_or, or_true, eq_self, Option.toList_some, Option.toList_none, List.cons_append, List.nil_append, tc_0, tc_I, tc_L, tc_A, Nat.reduceAdd, Nat.reduceLeDiff, Nat.reduceEqDiff, Int.reduceEq, Int.reduceLT, Int.reduceLE, Int.reduceNeg, Int.reduceToNat, Int.cast_ofNat_Int, if_true, if_false, and_self, or_self, ite_self, bI_0, bI_1, bI_01, Bool.false_eq_true, reduceCtorEq, I1, p1, decide_false, bB_f]
    · have p2' : ¬ ((cntS (T (i + 2)) 0 k : Nat) : Int) = 1 := by omega
      simp only [u_M_turnedSize_91, u_M_turnedSize_92, u_M_turnedSize_93, u_M_turnedSize_95, u_M_turnedSize_96, u_M_turnedSize_98, u_M_turnedSize_101, u_M_turnedSize_104, u_M_turnedSize_105, u_M_turnedSize_106, u_M_turnedSize_108, u_M_turnedSize_110, u_M_turnedSize_113, u_M_turnedSize_114, u_M_turnedSize_167, u_M_turnedSize_168, h1_156, ne_eq, not_false_eq_true, not_true_eq_false, true_and, and_true, true_or, or_true, eq_self, Option.toList_some, Option.toList_none, List.cons_append, List.nil_append, tc_0, tc_I, tc_L, tc_A, Nat.reduceAdd, Nat.reduceLeDiff, Nat.reduceEqDiff, Int.reduceEq, Int.reduceLT, Int.reduceLE, Int.reduceNeg, Int.reduceToNat, Int.cast_ofNat_Int, if_true, if_false, and_self, or_self, ite_self, bI_0, bI_1, bI_01, Bool.false_eq_true, reduceCtorEq, I1, p1, decide_true, bB_t, S1, p2', bB_f]
    · have p2' : ((cntS (T (i + 2)) 0 k : Nat) : Int) = 1 := by rw [p2]; rfl
      simp only [u_M_turnedSize_91, u_M_turnedSize_92, u_M_turnedSize_93, u_M_turnedSize_95, u_M_turnedSize_96, u_M_turnedSize_98, u_M_turnedSize_101, u_M_turnedSize_104, u_M_turnedSize_105, u_M_turnedSize_106, u_M_turnedSize_108, u_M_turnedSize_110, u_M_turnedSize_113, u_M_turnedSize_114, u_M_turnedSize_117, u_M_turnedSize_118, u_M_turnedSize_121, u_M_turnedSize_124, u_M_turnedSize_125, u_M_turnedSize_126, u_M_turnedSize_128, u_M_turnedSize_129, u_M_turnedSize_130, u_M_turnedSize_131, u_M_turnedSize_132, u_M_turnedSize_134, u_M_turnedSize_137, u_M_turnedSize_167, u_M_turnedSize_168, h1_156, gt_156_25, h1_164, h2_164, gt_164, pt_164, ne_eq, not_false_eq_true, not_true_eq_false, true_and, and_true, true_or, or_true, eq_self, Option.toList_some, Option.toList_none, List.cons_append, List.nil_append, tc_0, tc_I, tc_L, tc_A, Nat.reduceAdd, Nat.reduceLeDiff, Nat.reduceEqDiff, Int.reduceEq, Int.reduceLT, Int.reduceLE, Int.reduceNeg, Int.reduceToNat, Int.cast_ofNat_Int, if_true, if_false, and_self, or_self, ite_self, bI_0, bI_1, bI_01, Bool.false_eq_true, reduceCtorEq, I1, p1, decide_true, bB_t, S1, p2', x1, x2, x3, x4, x5, x6, s_M_isSum, p3, bB_f]
    · have p2' : ((cntS (T (i + 2)) 0 k : Nat) : Int) = 1 := by rw [p2]; rfl
      simp only [u_M_turnedSize_91, u_M_turnedSize_92, u_M_turnedSize_93, u_M_turnedSize_95, u_M_turnedSize_96, u_M_turnedSize_98, u_M_turnedSize_101, u_M_turnedSize_104, u_M_turnedSize_105, u_M_turnedSize_106, u_M_turnedSize_108, u_M_turnedSize_110, u_M_turnedSize_113, u_M_turnedSize_114, u_M_turnedSize_117, u_M_turnedSize_118, u_M_turnedSize_121, u_M_turnedSize_124, u_M_turnedSize_125, u_M_turnedSize_126, u_M_turnedSize_128, u_M_turnedSize_129, u_M_turnedSize_130, u_M_turnedSize_131, u_M_turnedSize_132, u_M_turnedSize_134, u_M_turnedSize_137, u_M_turnedSize_140, u_M_turnedSize_142, u_M_turnedSize_144, u_M_turnedSize_167, u_M_turnedSize_168, h1_156, gt_156_25, h1_164, h2_164, gt_164, pt_164, ne_eq, not_false_eq_true, not_true_eq_false, true_and, and_true, true_or, or_true, eq_self, Option.toList_some, Option.toList_none, List.cons_append, List.nil_append, tc_0, tc_I, tc_L, tc_A, Nat.reduceAdd, Nat.reduceLeDiff, Nat.reduceEqDiff, Int.reduceEq, Int.reduceLT, Int.reduceLE, Int.reduceNeg, Int.reduceToNat, Int.cast_ofNat_Int, if_true, if_false, and_self, or_self, ite_self, bI_0, bI_1, bI_01, Bool.false_eq_true, reduceCtorEq, I1, p1, decide_true, bB_t, S1, p2', x1, x2, x3, x4, x5, x6, s_M_isSum, p3, p4, bB_f]
    · have N1 := fun D Q => s_M_standsIn (L := L) (d := D) (f := f) (t := t) (Q := Q) hrt h.kn l5 l7 (h.dr p5) (fun v hv => h.ok v (List.mem_of_mem_drop hv))
      have p2' : ((cntS (T (i + 2)) 0 k : Nat) : Int) = 1 := by rw [p2]; rfl
      simp only [u_M_turnedSize_91, u_M_turnedSize_92, u_M_turnedSize_93, u_M_turnedSize_95, u_M_turnedSize_96, u_M_turnedSize_98, u_M_turnedSize_101, u_M_turnedSize_104, u_M_turnedSize_105, u_M_turnedSize_106, u_M_turnedSize_108, u_M_turnedSize_110, u_M_turnedSize_113, u_M_turnedSize_114, u_M_turnedSize_117, u_M_turnedSize_118, u_M_turnedSize_121, u_M_turnedSize_124, u_M_turnedSize_125, u_M_turnedSize_126, u_M_turnedSize_128, u_M_turnedSize_129, u_M_turnedSize_130, u_M_turnedSize_131, u_M_turnedSize_132, u_M_turnedSize_134, u_M_turnedSize_137, u_M_turnedSize_140, u_M_turnedSize_142, u_M_turnedSize_144, u_M_turnedSize_147, u_M_turnedSize_148, u_M_turnedSize_149, u_M_turnedSize_151, u_M_turnedSize_152, u_M_turnedSize_153, u_M_turnedSize_155, u_M_turnedSize_157, u_M_turnedSize_160, u_M_turnedSize_163, u_M_turnedSize_164, u_M_turnedSize_167, u_M_turnedSize_168, h1_156, gt_156_25, h1_164, h2_164, gt_164, pt_164, ne_eq, not_false_eq_true, not_true_eq_false, true_and, and_true, true_or, or_true, eq_self, Option.toList_some, Option.toList_none, List.cons_append, List.nil_append, tc_0, tc_I, tc_L, tc_A, Nat.reduceAdd, Nat.reduceLeDiff, Nat.reduceEqDiff, Int.reduceEq, Int.reduceLT, Int.reduceLE, Int.reduceNeg, Int.reduceToNat, Int.cast_ofNat_Int, if_true, if_false, and_self, or_self, ite_self, bI_0, bI_1, bI_01, Bool.false_eq_true, reduceCtorEq, I1, p1, decide_true, bB_t, S1, p2', x1, x2, x3, x4, x5, x6, s_M_isSum, p3, p4, w2, N1, p6, bB_f]
theorem ar_zm {r : Nat} {p : Nat} {m n6 q : Int} (hr : r < 10) (hp : (p : Int) < n6) (h6 : n6 ≤ 40) (hm : 0 ≤ m ∧ m ≤ 100000) (hq : 0 ≤ q ∧ q ≤ 10) : ¬ n6 ≤ (p : Int) ∧ w32 (40 * (r : Int)) = 40 * r ∧ w32 (40 * (r : Int) + p) = 40 * r + p ∧ 0 ≤ 40 * (r : Int) + p ∧ 40 * (r : Int) + p < 400 ∧ (40 * (r : Int) + p).toNat = 40 * r + p ∧ w32 ((p : Int) + 1) = ((p + 1 : Nat) : Int) ∧ w32 (m + q) = m + q ∧ 0 ≤ (r : Int) ∧ (r : Int) < 10 ∧ w32 (m + q + 0) = m + q ∧ (r : Int).toNat = r := by
  refine ⟨by omega, w32_id (by omega) (by omega), w32_id (by omega) (by omega), by omega, by omega, by omega, ?_, w32_id (by omega) (by omega), by omega, by omega, ?_, by omega⟩ <;> rw [w32_id (by omega) (by omega)] <;> omega
theorem zm_o {p : Nat} {dz : Int} {q : Int} (hr : r < 10) (hp : (p : Int) < g 166 r) (h6 : g 166 r ≤ 40) (hm : 0 ≤ m ∧ m ≤ 100000) (hdz : g 167 (40 * r + p) = dz) (hq : (dz = 15 ∧ q = 7) ∨ (dz = 16 ∧ q = 6) ∨ (30 ≤ dz ∧ dz ≤ 32 ∧ q = 0)) : VV L (d + 3) m_M_turnedSize 4 [some (tA 156), some (tI r), some (tI m), some (tI p), u4, u5, u6, u7, u8, u9] [] (WW f t g) Q = VV L (d + 3) m_M_turnedSize 4 [some (tA 156), some (tI r), some (tI (m + q)), some (tI ((p + 1 : Nat) : Int)), some (tI (40 * (r : Int) + p)), u5, u6, u7, u8, u9] [] (WW f t g) Q := by
  obtain ⟨z1, z2, z3, z4, z5, z6, z7, z8, z9, z10, _, z12⟩ := ar_zm (q := q) hr hp h6 hm (by omega)
  rw [u_M_turnedSize_4]
  rcases hq with ⟨rfl, rfl⟩ | ⟨rfl, rfl⟩ | ⟨q1, q2, rfl⟩
  · simp only [u_M_turnedSize_5, u_M_turnedSize_6, u_M_turnedSize_9, u_M_turnedSize_10, u_M_turnedSize_11, u_M_turnedSize_14, u_M_turnedSize_16, u_M_turnedSize_17, u_M_turnedSize_18, u_M_turnedSize_19, u_M_turnedSize_20, u_M_turnedSize_22, u_M_turnedSize_23, u_M_turnedSize_26, u_M_turnedSize_28, u_M_turnedSize_29, u_M_turnedSize_31, u_M_turnedSize_201, u_M_turnedSize_202, u_M_turnedSize_203, u_M_turnedSize_206, u_M_turnedSize_208, u_M_turnedSize_209, u_M_turnedSize_211, u_M_turnedSize_214, u_M_turnedSize_216, u_M_turnedSize_219, u_M_turnedSize_220, u_M_turnedSize_223, u_M_turnedSize_225, u_M_turnedSize_226, u_M_turnedSize_228, u_M_turnedSize_231, u_M_turnedSize_233, u_M_turnedSize_236, u_M_turnedSize_237, u_M_turnedSize_238, u_M_turnedSize_239, u_M_turnedSize_242, h1_156, gt_156_27, gt_156_28, h1_166, h2_166, gt_166, pt_166, h1_167, h2_167, gt_167, pt_167, ne_eq, not_false_eq_true, not_true_eq_false, true_and, and_true, true_or, or_true, eq_self, Option.toList_some, Option.toList_none, List.cons_append, List.nil_append, tc_0, tc_I, tc_L, tc_A, Nat.reduceAdd, Nat.reduceLeDiff, Nat.reduceEqDiff, Int.reduceEq, Int.reduceLT, Int.reduceLE, Int.reduceNeg, Int.reduceToNat, Int.cast_ofNat_Int, if_true, if_false, and_self, or_self, ite_self, bI_0, bI_1, bI_01, Bool.false_eq_true, reduceCtorEq, z1, z2, z3, z4, z5, z6, z9, z10, z12, hdz, Int.reduceEq, z8, z7]
  · simp only [u_M_turnedSize_5, u_M_turnedSize_6, u_M_turnedSize_9, u_M_turnedSize_10, u_M_turnedSize_11, u_M_turnedSize_14, u_M_turnedSize_16, u_M_turnedSize_17, u_M_turnedSize_18, u_M_turnedSize_19, u_M_turnedSize_20, u_M_turnedSize_22, u_M_turnedSize_23, u_M_turnedSize_26, u_M_turnedSize_28, u_M_turnedSize_29, u_M_turnedSize_31, u_M_turnedSize_201, u_M_turnedSize_202, u_M_turnedSize_203, u_M_turnedSize_206, u_M_turnedSize_208, u_M_turnedSize_209, u_M_turnedSize_211, u_M_turnedSize_214, u_M_turnedSize_216, u_M_turnedSize_219, u_M_turnedSize_220, u_M_turnedSize_223, u_M_turnedSize_225, u_M_turnedSize_226, u_M_turnedSize_228, u_M_turnedSize_231, u_M_turnedSize_233, u_M_turnedSize_236, u_M_turnedSize_237, u_M_turnedSize_238, u_M_turnedSize_239, u_M_turnedSize_242, h1_156, gt_156_27, gt_156_28, h1_166, h2_166, gt_166, pt_166, h1_167, h2_167, gt_167, pt_167, ne_eq, not_false_eq_true, not_true_eq_false, true_and, and_true, true_or, or_true, eq_self, Option.toList_some, Option.toList_none, List.cons_append, List.nil_append, tc_0, tc_I, tc_L, tc_A, Nat.reduceAdd, Nat.reduceLeDiff, Nat.reduceEqDiff, Int.reduceEq, Int.reduceLT, Int.reduceLE, Int.reduceNeg, Int.reduceToNat, Int.cast_ofNat_Int, if_true, if_false, and_self, or_self, ite_self, bI_0, bI_1, bI_01, Bool.false_eq_true, reduceCtorEq, z1, z2, z3, z4, z5, z6, z9, z10, z12, hdz, Int.reduceEq, z8, z7]
  · simp only [u_M_turnedSize_5, u_M_turnedSize_6, u_M_turnedSize_9, u_M_turnedSize_10, u_M_turnedSize_11, u_M_turnedSize_14, u_M_turnedSize_16, u_M_turnedSize_17, u_M_turnedSize_18, u_M_turnedSize_19, u_M_turnedSize_20, u_M_turnedSize_22, u_M_turnedSize_23, u_M_turnedSize_26, u_M_turnedSize_28, u_M_turnedSize_29, u_M_turnedSize_31, u_M_turnedSize_201, u_M_turnedSize_202, u_M_turnedSize_203, u_M_turnedSize_206, u_M_turnedSize_208, u_M_turnedSize_209, u_M_turnedSize_211, u_M_turnedSize_214, u_M_turnedSize_216, u_M_turnedSize_219, u_M_turnedSize_220, u_M_turnedSize_223, u_M_turnedSize_225, u_M_turnedSize_226, u_M_turnedSize_228, u_M_turnedSize_231, u_M_turnedSize_233, u_M_turnedSize_236, u_M_turnedSize_237, u_M_turnedSize_238, u_M_turnedSize_239, u_M_turnedSize_242, h1_156, gt_156_27, gt_156_28, h1_166, h2_166, gt_166, pt_166, h1_167, h2_167, gt_167, pt_167, ne_eq, not_false_eq_true, not_true_eq_false, true_and, and_true, true_or, or_true, eq_self, Option.toList_some, Option.toList_none, List.cons_append, List.nil_append, tc_0, tc_I, tc_L, tc_A, Nat.reduceAdd, Nat.reduceLeDiff, Nat.reduceEqDiff, Int.reduceEq, Int.reduceLT, Int.reduceLE, Int.reduceNeg, Int.reduceToNat, Int.cast_ofNat_Int, if_true, if_false, and_self, or_self, ite_self, bI_0, bI_1, bI_01, Bool.false_eq_true, reduceCtorEq, z1, z2, z3, z4, z5, z6, z9, z10, z12, hdz, show ¬ dz = 14 by omega, show ¬ dz = 15 by omega, show ¬ dz = 16 by omega, z8, z7]
theorem zm_s {p : Nat} (h : SMr g r len T i j n k) (hp : (p : Int) < g 166 r) (h6 : g 166 r ≤ 40) (hm : 0 ≤ m ∧ m ≤ 100000) (hdz : g 167 (40 * r + p) = 14) (h8 : g 168 (40 * r + p) = i + 1) (h9 : g 169 (40 * r + p) = i + 3) : ∃ v4 v5 v6 v7 v8 v9, ∀ Q, VV L (d + 3) m_M_turnedSize 4 [some (tA 156), some (tI r), some (tI m), some (tI p), u4, u5, u6, u7, u8, u9] [] (WW f t g) Q = VV L (d + 3) m_M_turnedSize 4 [some (tA 156), some (tI r), some (tI (m + (if plQ n k = true then 1 else if n ∈ k then 4 else 2))), some (tI ((p + 1 : Nat) : Int)), v4, v5, v6, v7, v8, v9] [] (WW f t g) Q := by
  have hrt := h.rt
  have hr := hrt.r10
  have kn := h.kn
  have e := seg_len h.hs
  obtain ⟨w1, w2, w3, l1, l2, l3, l4, l5, l6, l7⟩ := ar_sm h.h0 e h.k1 h.hjl (by have := hrt.l1; omega)
  obtain ⟨x1, x2, x3, x4, _, x6⟩ := hrt.ix (show 0 ≤ i + 1 by have := h.h0; omega) l1
  rw [h.hn, (srt_name kn).2] at x6
  obtain ⟨_, y2, y3, y4, y5, _, y7⟩ := hrt.ix1 l4 l3
  have F1 := fun D Q => s_M_find (L := L) (d := D) (f := f) (t := t) (Q := Q) (l := k) hrt (sg := 59) (by decide) (by decide) (by decide) h.hj (Skp_0 _ (fun v hv => by
      have q := eTk_no (h.hk v hv)
      exact ⟨⟨q.1, q.2.1, q.2.2.1⟩, q.1⟩)) h.hs l4
  have N1 := fun D Q => s_M_standsIn (L := L) (d := D) (f := f) (t := t) (Q := Q) hrt kn l5 l4 h.hs h.ok
  refine ⟨some (tI (40 * (r : Int) + p)), some (tI (i + 3)), some (tI j), some (tI (n - 97)), some (tI (whc (T (i + 3 + 1)))), some (tI (bB (plQ n k))), fun Q => ?_⟩
  have st1 : VV L (d + 3) m_M_turnedSize 4 [some (tA 156), some (tI r), some (tI m), some (tI p), u4, u5, u6, u7, u8, u9] [] (WW f t g) Q = VV L (d + 3) m_M_turnedSize 170 [some (tA 156), some (tI r), some (tI m), some (tI p), some (tI (40 * (r : Int) + p)), some (tI (i + 3)), some (tI j), some (tI (n - 97)), some (tI (whc (T (i + 3 + 1)))), some (tI (bB (plQ n k)))] [] (WW f t g) Q := by
    obtain ⟨z1, z2, z3, z4, z5, z6, z7, z8, z9, z10, _, z12⟩ := ar_zm (q := 0) hr hp h6 hm (by omega)
    rw [← l_M_pl2 h (u9 := u9), u_M_turnedSize_4]
    simp only [u_M_turnedSize_5, u_M_turnedSize_6, u_M_turnedSize_9, u_M_turnedSize_10, u_M_turnedSize_11, u_M_turnedSize_14, u_M_turnedSize_16, u_M_turnedSize_17, u_M_turnedSize_18, u_M_turnedSize_19, u_M_turnedSize_20, u_M_turnedSize_22, u_M_turnedSize_23, u_M_turnedSize_26, u_M_turnedSize_28, u_M_turnedSize_29, u_M_turnedSize_31, u_M_turnedSize_34, u_M_turnedSize_35, u_M_turnedSize_38, u_M_turnedSize_40, u_M_turnedSize_41, u_M_turnedSize_43, u_M_turnedSize_44, u_M_turnedSize_45, u_M_turnedSize_47, u_M_turnedSize_49, u_M_turnedSize_52, u_M_turnedSize_54, u_M_turnedSize_55, u_M_turnedSize_58, u_M_turnedSize_61, u_M_turnedSize_62, u_M_turnedSize_63, u_M_turnedSize_64, u_M_turnedSize_67, u_M_turnedSize_69, u_M_turnedSize_70, u_M_turnedSize_71, u_M_turnedSize_72, u_M_turnedSize_74, u_M_turnedSize_75, u_M_turnedSize_78, u_M_turnedSize_81, u_M_turnedSize_82, u_M_turnedSize_83, u_M_turnedSize_85, u_M_turnedSize_86, u_M_turnedSize_87, u_M_turnedSize_88, u_M_turnedSize_89, h1_156, gt_156_26, gt_156_27, gt_156_28, gt_156_29, gt_156_30, h1_165, h2_165, gt_165, pt_165, h1_166, h2_166, gt_166, pt_166, h1_167, h2_167, gt_167, pt_167, h1_168, h2_168, gt_168, pt_168, h1_169, h2_169, gt_169, pt_169, ne_eq, not_false_eq_true, not_true_eq_false, true_and, and_true, true_or, or_true, eq_self, Option.toList_some, Option.toList_none, List.cons_append, List.nil_append, tc_0, tc_I, tc_L, tc_A, Nat.reduceAdd, Nat.reduceLeDiff, Nat.reduceEqDiff, Int.reduceEq, Int.reduceLT, Int.reduceLE, Int.reduceNeg, Int.reduceToNat, Int.cast_ofNat_Int, if_true, if_false, and_self, or_self, ite_self, bI_0, bI_1, bI_01, Bool.false_eq_true, reduceCtorEq, z1, z2, z3, z4, z5, z6, z9, z10, z12, hdz, h8, h9, F1, x1, x2, x3, x4, x6, y2, y3, y4, y5, y7]
  rw [st1]
  cases hpl : plQ n k with
  | true =>
    obtain ⟨z1, z2, z3, z4, z5, z6, z7, z8, z9, z10, z11, _⟩ := ar_zm (q := 1) hr hp h6 hm (by omega)
    rw [if_pos rfl]
    simp only [u_M_turnedSize_170, u_M_turnedSize_171, u_M_turnedSize_173, u_M_turnedSize_176, u_M_turnedSize_177, u_M_turnedSize_180, u_M_turnedSize_181, u_M_turnedSize_182, u_M_turnedSize_184, u_M_turnedSize_186, u_M_turnedSize_188, u_M_turnedSize_191, u_M_turnedSize_194, u_M_turnedSize_195, u_M_turnedSize_198, u_M_turnedSize_199, u_M_turnedSize_200, u_M_turnedSize_201, u_M_turnedSize_202, u_M_turnedSize_203, u_M_turnedSize_206, u_M_turnedSize_208, u_M_turnedSize_209, u_M_turnedSize_211, u_M_turnedSize_214, u_M_turnedSize_216, u_M_turnedSize_219, u_M_turnedSize_220, u_M_turnedSize_223, u_M_turnedSize_225, u_M_turnedSize_226, u_M_turnedSize_228, u_M_turnedSize_231, u_M_turnedSize_233, u_M_turnedSize_236, u_M_turnedSize_237, u_M_turnedSize_238, u_M_turnedSize_239, u_M_turnedSize_242, h1_156, gt_156_28, h1_167, h2_167, gt_167, pt_167, ne_eq, not_false_eq_true, not_true_eq_false, true_and, and_true, true_or, or_true, eq_self, Option.toList_some, Option.toList_none, List.cons_append, List.nil_append, tc_0, tc_I, tc_L, tc_A, Nat.reduceAdd, Nat.reduceLeDiff, Nat.reduceEqDiff, Int.reduceEq, Int.reduceLT, Int.reduceLE, Int.reduceNeg, Int.reduceToNat, Int.cast_ofNat_Int, if_true, if_false, and_self, or_self, ite_self, bI_0, bI_1, bI_01, Bool.false_eq_true, reduceCtorEq, bB_t, z8, z11, z4, z5, z6, hdz, Int.reduceEq, z7]
  | false =>
    rw [if_neg (show ¬ false = true by decide)]
    by_cases hin : n ∈ k
    · obtain ⟨z1, z2, z3, z4, z5, z6, z7, z8, z9, z10, z11, _⟩ := ar_zm (q := 4) hr hp h6 hm (by omega)
      rw [if_pos hin]
      simp only [u_M_turnedSize_170, u_M_turnedSize_171, u_M_turnedSize_173, u_M_turnedSize_176, u_M_turnedSize_177, u_M_turnedSize_180, u_M_turnedSize_181, u_M_turnedSize_182, u_M_turnedSize_184, u_M_turnedSize_186, u_M_turnedSize_188, u_M_turnedSize_191, u_M_turnedSize_194, u_M_turnedSize_195, u_M_turnedSize_198, u_M_turnedSize_199, u_M_turnedSize_200, u_M_turnedSize_201, u_M_turnedSize_202, u_M_turnedSize_203, u_M_turnedSize_206, u_M_turnedSize_208, u_M_turnedSize_209, u_M_turnedSize_211, u_M_turnedSize_214, u_M_turnedSize_216, u_M_turnedSize_219, u_M_turnedSize_220, u_M_turnedSize_223, u_M_turnedSize_225, u_M_turnedSize_226, u_M_turnedSize_228, u_M_turnedSize_231, u_M_turnedSize_233, u_M_turnedSize_236, u_M_turnedSize_237, u_M_turnedSize_238, u_M_turnedSize_239, u_M_turnedSize_242, h1_156, gt_156_28, h1_167, h2_167, gt_167, pt_167, ne_eq, not_false_eq_true, not_true_eq_false, true_and, and_true, true_or, or_true, eq_self, Option.toList_some, Option.toList_none, List.cons_append, List.nil_append, tc_0, tc_I, tc_L, tc_A, Nat.reduceAdd, Nat.reduceLeDiff, Nat.reduceEqDiff, Int.reduceEq, Int.reduceLT, Int.reduceLE, Int.reduceNeg, Int.reduceToNat, Int.cast_ofNat_Int, if_true, if_false, and_self, or_self, ite_self, bI_0, bI_1, bI_01, Bool.false_eq_true, reduceCtorEq, bB_f, N1, hin, decide_true, bB_t, z8, z11, z4, z5, z6, hdz, Int.reduceEq, z7]
    · obtain ⟨z1, z2, z3, z4, z5, z6, z7, z8, z9, z10, z11, _⟩ := ar_zm (q := 2) hr hp h6 hm (by omega)
      rw [if_neg hin]
      simp only [u_M_turnedSize_170, u_M_turnedSize_171, u_M_turnedSize_173, u_M_turnedSize_176, u_M_turnedSize_177, u_M_turnedSize_180, u_M_turnedSize_181, u_M_turnedSize_182, u_M_turnedSize_184, u_M_turnedSize_186, u_M_turnedSize_188, u_M_turnedSize_191, u_M_turnedSize_194, u_M_turnedSize_195, u_M_turnedSize_198, u_M_turnedSize_199, u_M_turnedSize_200, u_M_turnedSize_201, u_M_turnedSize_202, u_M_turnedSize_203, u_M_turnedSize_206, u_M_turnedSize_208, u_M_turnedSize_209, u_M_turnedSize_211, u_M_turnedSize_214, u_M_turnedSize_216, u_M_turnedSize_219, u_M_turnedSize_220, u_M_turnedSize_223, u_M_turnedSize_225, u_M_turnedSize_226, u_M_turnedSize_228, u_M_turnedSize_231, u_M_turnedSize_233, u_M_turnedSize_236, u_M_turnedSize_237, u_M_turnedSize_238, u_M_turnedSize_239, u_M_turnedSize_242, h1_156, gt_156_28, h1_167, h2_167, gt_167, pt_167, ne_eq, not_false_eq_true, not_true_eq_false, true_and, and_true, true_or, or_true, eq_self, Option.toList_some, Option.toList_none, List.cons_append, List.nil_append, tc_0, tc_I, tc_L, tc_A, Nat.reduceAdd, Nat.reduceLeDiff, Nat.reduceEqDiff, Int.reduceEq, Int.reduceLT, Int.reduceLE, Int.reduceNeg, Int.reduceToNat, Int.cast_ofNat_Int, if_true, if_false, and_self, or_self, ite_self, bI_0, bI_1, bI_01, Bool.false_eq_true, reduceCtorEq, bB_f, N1, hin, decide_false, z8, z11, z4, z5, z6, hdz, Int.reduceEq, z7]
end
section
variable {L d r len c : Nat} {f t g : Mem} {T : Int → Int} {Y : Type} {kb : Y → List Int} {nb : Y → Nat} {tb : Y → Int → Int → List En9} {wb : Y → Prop} {nu : Y → Nat}
def ZMok (L D r : Nat) (T : Int → Int) (f t g : Mem) {Y : Type} (kb : Y → List Int) (nb : Y → Nat) (tb : Y → Int → Int → List En9) (wb : Y → Prop) (nu : Y → Nat) : Prop := ∀ (x : Y), wb x → ∀ (i j : Int) (p : Nat) (m : Int) (u4 u5 u6 u7 u8 u9 : Option TV), 0 ≤ i → 0 ≤ m → ((p + nb x : Nat) : Int) ≤ g 166 r → seg T i j (kb x) → RLt g r p (tb x i p) → m + nu x ≤ 100000 → ∃ v4 v5 v6 v7 v8 v9, ∀ (Q : Option TV → Wd → Prop), VV L D m_M_turnedSize 4 [some (tA 156), some (tI r), some (tI m), some (tI p), u4, u5, u6, u7, u8, u9] [] (WW f t g) Q = VV L D m_M_turnedSize 4 [some (tA 156), some (tI r), some (tI (m + nu x)), some (tI ((p + nb x : Nat) : Int)), v4, v5, v6, v7, v8, v9] [] (WW f t g) Q
theorem zm_C (h : RT g r T len) (h6 : g 166 r ≤ 40) (hl9 : ∀ x i p, (tb x i p).length = nb x) (hR : ZMok L (d + 3) r T f t g kb nb tb wb nu) (s : CC c Y) (hw : wC true wb s) (i j : Int) (p : Nat) (m : Int) (u4 u5 u6 u7 u8 u9 : Option TV) (hi : 0 ≤ i) (hm : 0 ≤ m) (hp6 : ((p + nC nb s : Nat) : Int) ≤ g 166 r) (hs : seg T i j (kC kb s)) (hto : RLt g r p (t9C kb nb tb i p s)) (hlen : m + nt1 nu (.inr s : SS c ⊕ CC c Y) ≤ 100000) : ∃ v4 v5 v6 v7 v8 v9, ∀ (Q : Option TV → Wd → Prop), VV L (d + 3) m_M_turnedSize 4 [some (tA 156), some (tI r), some (tI m), some (tI p), u4, u5, u6, u7, u8, u9] [] (WW f t g) Q = VV L (d + 3) m_M_turnedSize 4 [some (tA 156), some (tI r), some (tI (m + nt1 nu (.inr s : SS c ⊕ CC c Y))), some (tI ((p + nC nb s : Nat) : Int)), v4, v5, v6, v7, v8, v9] [] (WW f t g) Q := by
  have hr := h.r10
  match s, hw, hp6, hs, hto, hlen with
  | .inl (k, e, x, y, e2), hw, _, _, _, _ => exact absurd hw.1 (by decide)
  | .inr (.inl (e, x, y)), hw, hp6, hs, hto, hlen =>
    obtain ⟨_, he, hx, hy⟩ := hw
    obtain ⟨r1, hs⟩ := seg_hd hs
    obtain ⟨r2, hs⟩ := seg_split hs
    obtain ⟨r3, hs⟩ := seg_hd hs
    obtain ⟨r4, hs⟩ := seg_split hs
    obtain ⟨r5, hs⟩ := seg_hd hs
    obtain ⟨r6, hs⟩ := seg_hd hs
    obtain ⟨r7, hs⟩ := seg_hd hs
    obtain ⟨r8, hs⟩ := seg_split hs
    have hto' : RLt g r p (_ :: (_ ++ _ :: (_ ++ [_]))) := hto
    rw [RLt, RLt_app, RLt, RLt_app, RLt, RLt, hl9, hl9] at hto'
    obtain ⟨E1, A1, E2, B1, E3, _⟩ := hto'
    have hnC : nC nb (.inr (.inl (e, x, y)) : CC c Y) = nb x + nb y + 3 := rfl
    have hnt : nt1 nu (.inr (.inr (.inl (e, x, y))) : SS c ⊕ CC c Y) = nu x + nu y + 6 := rfl
    rw [hnC] at hp6 ⊢
    rw [hnt] at hlen ⊢
    have o1 : g 167 (40 * r + p) = 16 := (RO_1 E1 (by decide)).trans (by decide)
    have o2 : g 167 (40 * r + (p + 1 + nb x)) = 31 := (RO_1 E2 (by decide)).trans (by decide)
    have o3 : g 167 (40 * r + (p + 1 + nb x + 1 + nb y)) = 32 := (RO_1 E3 (by decide)).trans (by decide)
    obtain ⟨a4, a5, a6, a7, a8, a9, hA⟩ := hR x hx (i + (kX e).length + 2) _ (p + 1) (m + 6) (some (tI (40 * (r : Int) + p))) u5 u6 u7 u8 u9 (by omega) (by omega) (by omega) (by rw [show i + ((kX e).length : Int) + 2 = i + 1 + (kX e).length + 1 by omega]; exact r4) A1 (by omega)
    obtain ⟨b4, b5, b6, b7, b8, b9, hB⟩ := hR y hy (i + (kX e).length + 2 + (kb x).length + 3) _ (p + 1 + nb x + 1) (m + 6 + nu x) (some (tI (40 * (r : Int) + ((p + 1 + nb x : Nat) : Int)))) a5 a6 a7 a8 a9 (by omega) (by omega) (by omega) (by rw [show i + ((kX e).length : Int) + 2 + (kb x).length + 3 = i + 1 + (kX e).length + 1 + (kb x).length + 1 + 1 + 1 by omega]; exact r8) (by rw [show ((p + 1 + nb x + 1 : Nat) : Int) = (p : Int) + nb x + 1 + 1 by omega]; exact B1) (by omega)
    refine ⟨some (tI (40 * (r : Int) + ((p + 1 + nb x + 1 + nb y : Nat) : Int))), b5, b6, b7, b8, b9, fun Q => ?_⟩
    rw [zm_o (q := 6) hr (by omega) h6 (by omega) o1 (Or.inr (Or.inl ⟨rfl, rfl⟩)), hA Q, zm_o (q := 0) hr (by omega) h6 (by omega) o2 (Or.inr (Or.inr ⟨by omega, by omega, rfl⟩)), show m + 6 + (nu x : Int) + 0 = m + 6 + nu x by omega, hB Q, zm_o (q := 0) hr (by omega) h6 (by omega) o3 (Or.inr (Or.inr ⟨by omega, by omega, rfl⟩)), show m + 6 + (nu x : Int) + nu y + 0 = m + ((nu x + nu y + 6 : Nat) : Int) by omega, show p + 1 + nb x + 1 + nb y + 1 = p + (nb x + nb y + 3) by omega]
  | .inr (.inr (e, x)), hw, hp6, hs, hto, hlen =>
    obtain ⟨_, he, hx⟩ := hw
    obtain ⟨r1, hs⟩ := seg_hd hs
    obtain ⟨r2, hs⟩ := seg_split hs
    obtain ⟨r3, hs⟩ := seg_hd hs
    obtain ⟨r4, hs⟩ := seg_split hs
    have hto' : RLt g r p (_ :: (_ ++ [_])) := hto
    rw [RLt, RLt_app, RLt, RLt, hl9] at hto'
    obtain ⟨E1, A1, E3, _⟩ := hto'
    have hnC : nC nb (.inr (.inr (e, x)) : CC c Y) = nb x + 2 := rfl
    have hnt : nt1 nu (.inr (.inr (.inr (e, x))) : SS c ⊕ CC c Y) = nu x + 7 := rfl
    rw [hnC] at hp6 ⊢
    rw [hnt] at hlen ⊢
    have o1 : g 167 (40 * r + p) = 15 := (RO_1 E1 (by decide)).trans (by decide)
    have o3 : g 167 (40 * r + (p + 1 + nb x)) = 30 := (RO_1 E3 (by decide)).trans (by decide)
    obtain ⟨a4, a5, a6, a7, a8, a9, hA⟩ := hR x hx (i + (kX e).length + 2) _ (p + 1) (m + 7) (some (tI (40 * (r : Int) + p))) u5 u6 u7 u8 u9 (by omega) (by omega) (by omega) (by rw [show i + ((kX e).length : Int) + 2 = i + 1 + (kX e).length + 1 by omega]; exact r4) A1 (by omega)
    refine ⟨some (tI (40 * (r : Int) + ((p + 1 + nb x : Nat) : Int))), a5, a6, a7, a8, a9, fun Q => ?_⟩
    rw [zm_o (q := 7) hr (by omega) h6 (by omega) o1 (Or.inl ⟨rfl, rfl⟩), hA Q, zm_o (q := 0) hr (by omega) h6 (by omega) o3 (Or.inr (Or.inr ⟨by omega, by omega, rfl⟩)), show m + 7 + (nu x : Int) + 0 = m + ((nu x + 7 : Nat) : Int) by omega, show p + 1 + nb x + 1 = p + (nb x + 2) by omega]
theorem zm_L (h : RT g r T len) (h6 : g 166 r ≤ 40) (hl9 : ∀ x i p, (tb x i p).length = nb x) (hR : ZMok L (d + 3) r T f t g kb nb tb wb nu) : ZMok L (d + 3) r T f t g (fun x : List (SS c ⊕ CC c Y) => x.flatMap (k1 kb)) (fun x => (x.map (n1 nb)).sum) (fun x i p => t9L kb nb tb x i p) (fun x => allL (w1 true wb) x) (fun x => (x.map (nt1 nu)).sum) := by
  intro x
  induction x with
  | nil =>
    intro _ i j p m u4 u5 u6 u7 u8 u9 _ _ _ _ _ _
    refine ⟨u4, u5, u6, u7, u8, u9, fun Q => ?_⟩
    simp only [List.map_nil, List.sum_nil, Nat.add_zero]
    rw [show m + ((0 : Nat) : Int) = m by omega]
  | cons s x ih =>
    intro hw i j p m u4 u5 u6 u7 u8 u9 hi hm hp6 hs hto hlen
    have hws := hw s (List.mem_cons_self ..)
    have hwr : allL (w1 true wb) x := fun v hv => hw v (List.mem_cons_of_mem _ hv)
    simp only [List.map_cons, List.sum_cons, List.flatMap_cons] at hp6 hs hlen ⊢
    have hto2 : RLt g r p (t91 kb nb tb i p s ++ t9L kb nb tb x (i + (k1 kb s).length) (p + n1 nb s)) := hto
    rw [RLt_app, t91_len hl9] at hto2
    obtain ⟨s1, s2⟩ := seg_split hs
    obtain ⟨_, _, _, x4, x5⟩ := ar_tl hm hlen
    obtain ⟨t1, t2⟩ := hto2
    have hstep : ∃ v4 v5 v6 v7 v8 v9, ∀ (Q : Option TV → Wd → Prop), VV L (d + 3) m_M_turnedSize 4 [some (tA 156), some (tI r), some (tI m), some (tI p), u4, u5, u6, u7, u8, u9] [] (WW f t g) Q = VV L (d + 3) m_M_turnedSize 4 [some (tA 156), some (tI r), some (tI (m + nt1 nu s)), some (tI ((p + n1 nb s : Nat) : Int)), v4, v5, v6, v7, v8, v9] [] (WW f t g) Q := by
      match s, hws, s1, t1, hp6, x4 with
      | .inl (.inl (k, n, e)), hws, s1, t1, hp6, x4 =>
        have hk : k = 214 := by have := hws.1; simpa using this
        have hS := SMr_of h hws.2.1 hws.2.2 hi s1
        have E1 : RO g r p ((opS1 (.inl (k, n, e) : SS c), 0, i, i + boS1 (.inl (k, n, e) : SS c), p, 0, 0), 0, 0) := t1.1
        unfold RO at E1
        rw [if_pos rfl] at E1
        have o1 : g 167 (40 * r + p) = 14 := by rw [E1.1]; show dzS k = 14; rw [hk]; decide
        have o2 : g 168 (40 * r + p) = i + 1 := by rw [E1.2.1]; show (if k < 200 then i else i + 1) = i + 1; rw [if_neg (by omega)]
        have o3 : g 169 (40 * r + p) = i + 3 := by rw [E1.2.2]; rfl
        have hp1 : ((p + (1 + (x.map (n1 nb)).sum) : Nat) : Int) ≤ g 166 r := hp6
        obtain ⟨v4, v5, v6, v7, v8, v9, hS2⟩ := zm_s (L := L) (d := d) (f := f) (t := t) (u4 := u4) (u5 := u5) (u6 := u6) (u7 := u7) (u8 := u8) (u9 := u9) (m := m) hS (by omega) h6 ⟨hm, by omega⟩ o1 o2 o3
        have hl2 := tuS_len e hws.2.2 hws.2.1
        have hcast : (if plQ n (kX e) = true then (1 : Int) else if n ∈ kX e then 4 else 2) = ((nt1 nu (.inl (.inl (k, n, e)) : SS c ⊕ CC c Y) : Nat) : Int) := by
          show _ = (((tuS n e).length : Nat) : Int)
          rw [hl2]; (repeat' split) <;> rfl
        rw [hcast] at hS2
        exact ⟨v4, v5, v6, v7, v8, v9, hS2⟩
      | .inl (.inr s), hws, _, _, _, _ =>
        exfalso
        match s, hws with
        | .inl (q, o, e), hws => exact absurd hws.1 (by decide)
        | .inr (.inl (q, q2)), hws => exact absurd hws.1 (by decide)
        | .inr (.inr (.inl (k, n, s))), hws => exact absurd hws.1 (by decide)
        | .inr (.inr (.inr (.inl (k, r, dd, e)))), hws => exact absurd hws.1 (by decide)
        | .inr (.inr (.inr (.inr (k, n)))), hws => exact absurd hws.1 (by decide)
      | .inr s, hws, s1, t1, hp6, x4 =>
        have hp1 : ((p + (nC nb s + (x.map (n1 nb)).sum) : Nat) : Int) ≤ g 166 r := hp6
        exact zm_C h h6 hl9 hR s hws i _ p m u4 u5 u6 u7 u8 u9 hi hm (by omega) s1 t1 (by omega)
    obtain ⟨a4, a5, a6, a7, a8, a9, hA⟩ := hstep
    obtain ⟨b4, b5, b6, b7, b8, b9, hB⟩ := ih hwr (i + ((k1 kb s).length : Int)) j (p + n1 nb s) (m + nt1 nu s) a4 a5 a6 a7 a8 a9 (Int.add_nonneg hi (Int.natCast_nonneg _)) (Int.add_nonneg hm (Int.natCast_nonneg _)) (by rw [Nat.add_assoc]; exact hp6) s2 (by rw [show ((p + n1 nb s : Nat) : Int) = (p : Int) + n1 nb s by omega]; exact t2) x4
    refine ⟨b4, b5, b6, b7, b8, b9, fun Q => ?_⟩
    rw [hA Q, hB Q, x5, Nat.add_assoc]
end
section
variable {L d r len c : Nat} {f t g : Mem} {T : Int → Int}
theorem s_M_zB (h : RT g r T len) (h6 : g 166 r ≤ 40) : ∀ (bb : Nat), bb ≤ 6 → ZMok L (d + 3) r T f t g (kB (c := c) bb) (nB bb) (t9B bb) (wB true bb) (fun x => nB bb (tuB bb (115 + bb) x)) := by
  intro bb
  induction bb with
  | zero => intro _ x; exact nomatch x
  | succ bb ih =>
    intro hb
    have hR := ih (by omega)
    have hL := zm_L (c := c) (Y := TB c bb) h h6 (t9B_len bb) hR
    intro x hx i j p m u4 u5 u6 u7 u8 u9 h1 h2 h3 h4 h5 h7
    have ek := (tuB_k (c := c) bb (115 + ((bb + 1 : Nat) : Int)) rfl hb x hx).2
    rw [show (115 : Int) + ((bb + 1 : Nat) : Int) - 1 = 115 + bb by omega] at ek
    have e2 : (List.map (nt1 (fun y => nB bb (tuB bb (115 + bb) y))) x).sum = nB (bb + 1) (tuB (bb + 1) (115 + ((bb + 1 : Nat) : Int)) x) := ek.symm
    have h7' : m + ((List.map (nt1 (fun y => nB bb (tuB bb (115 + bb) y))) x).sum : Nat) ≤ 100000 := by rw [e2]; exact h7
    obtain ⟨v4, v5, v6, v7, v8, v9, hv⟩ := hL x hx i j p m u4 u5 u6 u7 u8 u9 h1 h2 h3 h4 h5 h7'
    refine ⟨v4, v5, v6, v7, v8, v9, fun Q => ?_⟩
    exact (hv Q).trans (congrArg (fun (z : Nat) => VV L (d + 3) m_M_turnedSize 4 [some (tA 156), some (tI r), some (tI (m + z)), some (tI ((p + nB (bb + 1) x : Nat) : Int)), v4, v5, v6, v7, v8, v9] [] (WW f t g) Q) e2)
end
