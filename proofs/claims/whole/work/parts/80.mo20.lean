/-! The reference lays steps that have parts, and lists of steps -/
section
variable {L d r len : Nat} {f t : Mem} {T : Int → Int}
theorem LsP_C2 {c : Nat} {ka kb z0 : List Int} {na nb : Nat} {ta tb : Int → Int → List En9} {op y : Int} (e : EE c) (he : wX e) (hop : op = 208 ∨ op = 211 ∨ op = 216) (hz : Skp 59 0 z0 0) (wa : LyP L (d + 1) r f t T len ka na ta) (wb : LyP L (d + 1) r f t T len kb nb tb) : LsP L (d + 2) r f t T len (op :: (kX e ++ 123 :: (ka ++ 125 :: y :: 123 :: (kb ++ 125 :: (z0 ++ [59]))))) (na + nb + 3) (fun i p =>
    let i1 := i + (kX e).length + 2
    let m := p + na + 1
    let i2 := i1 + ka.length + 3
    let q := m + nb + 1
    let i3 := i2 + kb.length + 1
    ((op, 1, i, i + 1, p, m, q), i + 1, i3 + 1) :: (ta i1 (p + 1) ++ ((op, 2, i2 - 2, i2 - 1, p, m, q), i + 1, i3 + 1) :: (tb i2 (m + 1) ++ [((op, 3, i3, i3 + 1, p, m, q), i + 1, i3 + 1)]))) := by
  intro g i j Q hR h0 h1 hs hi hj hQ
  have hr := hR.r10
  have hl1 := hR.l1
  obtain ⟨r1, hs⟩ := seg_hd hs
  obtain ⟨r2, hs⟩ := seg_split hs
  obtain ⟨r3, hs⟩ := seg_hd hs
  obtain ⟨r4, hs⟩ := seg_split hs
  obtain ⟨r5, hs⟩ := seg_hd hs
  obtain ⟨r6, hs⟩ := seg_hd hs
  obtain ⟨r7, hs⟩ := seg_hd hs
  obtain ⟨r8, hs⟩ := seg_split hs
  obtain ⟨r9, hs⟩ := seg_hd hs
  obtain ⟨r10, hs⟩ := seg_split hs
  obtain ⟨r11, hs⟩ := seg_hd hs
  have hjl := seg_len hs
  simp at hjl
  generalize hA : i + 1 + ((kX e).length : Int) = A at *
  generalize hB : A + 1 + (ka.length : Int) = B at *
  generalize hC : B + 1 + 1 + 1 + (kb.length : Int) = C at *
  generalize hJ : C + 1 + (z0.length : Int) = J at *
  have hfA : ∀ (g' : Mem) (Q : Option TV → Wd → Prop), RT g' r T len → VV L (d + 1) m_M_find 0 [some (tA 156), some (tI r), some (tI i), some (tI 123), none, none] [] (WW f t g') Q = Q (some (tI A)) (WW f t g') := fun g' Q hR' =>
    s_M_find hR' (by decide) (by omega) (by omega) r3 (l := op :: kX e) (Skp_0 _ (fun v hv => by
      rcases List.mem_cons.mp hv with rfl | hv
      · unfold nSep; omega
      · exact ⟨eTk_s (kX_e e he v hv), (eTk_s (kX_e e he v hv)).2.1⟩)) (seg_cons r1 r2) hi
  have hfJ : ∀ (g' : Mem) (Q : Option TV → Wd → Prop), RT g' r T len → VV L (d + 1) m_M_find 0 [some (tA 156), some (tI r), some (tI (C + 1)), some (tI 59), none, none] [] (WW f t g') Q = Q (some (tI J)) (WW f t g') := fun g' Q hR' =>
    s_M_find hR' (by decide) (by omega) (by omega) r11 hz r10 (by omega)
  have w1 : w32 (i + 1) = i + 1 := w32_id (by omega) (by omega)
  have wA : w32 (A + 1) = A + 1 := w32_id (by omega) (by omega)
  have wB3 : w32 (B + 3) = B + 3 := w32_id (by omega) (by omega)
  have wC1 : w32 (C + 1) = C + 1 := w32_id (by omega) (by omega)
  have wC2 : w32 (C + 2) = C + 2 := w32_id (by omega) (by omega)
  have wJ : w32 (J + 1) = J + 1 := w32_id (by omega) (by omega)
  obtain ⟨x1, x2, x3, x4, x5, x6⟩ := hR.ix hi (show i < len by omega)
  have k5 : eS T i = 5 := eS_key (by omega) (by omega)
  have kw : whc (T i) = op - 200 := by rw [r1]; exact (key_w (by omega) (by omega)).2
  have hkey : op - 200 = 8 ∨ op - 200 = 11 ∨ op - 200 = 16 := by omega
  have P1 := AdP_ad3 (r := r) (wt := op - 200) (of := i) (e := i + 1) h0
  have h113 : VV L (d + 2) m_M_layStep 0 [some (tA 156), some (tI r), some (tI i), none, none, none, none, none, none, none] [] (WW f t g) Q = VV L (d + 2) m_M_layStep 113 [some (tA 156), some (tI r), some (tI i), some (tI (op - 200)), some (tI (g 166 r)), some (tI A), none, none, none, none] [] (WW f t (ad3 g r (op - 200) i (i + 1))) Q := by
    have hRa : RT (ad3 g r (op - 200) i (i + 1)) r T len := RT_fr hR (fun c k hc => P1.fr c k (by omega))
    rcases hkey with hk | hk | hk
    all_goals simp only [u_M_layStep_0, u_M_layStep_1, u_M_layStep_4, u_M_layStep_7, u_M_layStep_8, u_M_layStep_9, u_M_layStep_10, u_M_layStep_11, u_M_layStep_12, u_M_layStep_13, u_M_layStep_16, u_M_layStep_17, u_M_layStep_18, u_M_layStep_19, u_M_layStep_22, u_M_layStep_23, u_M_layStep_24, u_M_layStep_25, u_M_layStep_27, u_M_layStep_28, u_M_layStep_31, u_M_layStep_34, u_M_layStep_35, u_M_layStep_36, u_M_layStep_37, u_M_layStep_38, u_M_layStep_39, u_M_layStep_40, u_M_layStep_41, u_M_layStep_42, u_M_layStep_43, u_M_layStep_44, u_M_layStep_47, u_M_layStep_49, u_M_layStep_50, u_M_layStep_51, u_M_layStep_52, u_M_layStep_54, u_M_layStep_57, u_M_layStep_58, u_M_layStep_59, u_M_layStep_60, u_M_layStep_61, u_M_layStep_64, u_M_layStep_67, u_M_layStep_68, u_M_layStep_69, u_M_layStep_70, u_M_layStep_71, u_M_layStep_72, u_M_layStep_73, u_M_layStep_74, u_M_layStep_76, u_M_layStep_79, u_M_layStep_80, u_M_layStep_82, u_M_layStep_85, u_M_layStep_86, u_M_layStep_88, u_M_layStep_91, u_M_layStep_92, u_M_layStep_93, u_M_layStep_94, u_M_layStep_95, u_M_layStep_96, u_M_layStep_97, u_M_layStep_98, u_M_layStep_101, u_M_layStep_103, u_M_layStep_104, u_M_layStep_105, u_M_layStep_106, u_M_layStep_108, u_M_layStep_111, h1_156, gt_156_25, gt_156_26, h1_164, h2_164, gt_164, pt_164, h1_165, h2_165, gt_165, pt_165, ne_eq, not_false_eq_true, not_true_eq_false, true_and, and_true, true_or, or_true, eq_self, Option.toList_some, Option.toList_none, List.cons_append, List.nil_append, tc_0, tc_I, tc_L, tc_A, Nat.reduceAdd, Nat.reduceLeDiff, Nat.reduceEqDiff, Int.reduceEq, Int.reduceLT, Int.reduceLE, Int.reduceNeg, Int.reduceToNat, Int.cast_ofNat_Int, if_true, if_false, and_self, or_self, ite_self, bI_0, bI_1, bI_01, Bool.false_eq_true, reduceCtorEq, x1, x2, x3, x4, x5, x6, k5, kw, hk, w1, s_M_adds hr h0 (show g 166 r < 40 by omega)]
    all_goals rw [hk] at hRa
    all_goals simp only [hfA _ _ hRa, u_M_layStep_103, u_M_layStep_104, u_M_layStep_105, u_M_layStep_106, u_M_layStep_108, u_M_layStep_111, ne_eq, not_false_eq_true, not_true_eq_false, true_and, and_true, true_or, or_true, eq_self, Option.toList_some, Option.toList_none, List.cons_append, List.nil_append, tc_0, tc_I, tc_L, tc_A, Nat.reduceAdd, Nat.reduceLeDiff, Nat.reduceEqDiff, Int.reduceEq, Int.reduceLT, Int.reduceLE, Int.reduceNeg, Int.reduceToNat, Int.cast_ofNat_Int, if_true, if_false, and_self, or_self, ite_self, bI_0, bI_1, bI_01, Bool.false_eq_true, reduceCtorEq]
  rw [h113]
  generalize hg1 : ad3 g r (op - 200) i (i + 1) = g1 at *
  have hR1 : RT g1 r T len := RT_fr hR (fun c k hc => P1.fr c k (by omega))
  have n1 := P1.n6
  simp only [u_M_layStep_113, u_M_layStep_114, u_M_layStep_115, u_M_layStep_117, u_M_layStep_118, u_M_layStep_119, h1_156, ne_eq, not_false_eq_true, not_true_eq_false, true_and, and_true, true_or, or_true, eq_self, Option.toList_some, Option.toList_none, List.cons_append, List.nil_append, tc_0, tc_I, tc_L, tc_A, Nat.reduceAdd, Nat.reduceLeDiff, Nat.reduceEqDiff, Int.reduceEq, Int.reduceLT, Int.reduceLE, Int.reduceNeg, Int.reduceToNat, Int.cast_ofNat_Int, if_true, if_false, and_self, or_self, ite_self, bI_0, bI_1, bI_01, Bool.false_eq_true, reduceCtorEq, wA]
  refine wa g1 (A + 1) B _ hR1 (by omega) (by omega) r4 (by omega) (by omega) (Or.inl r5) (fun g2 S2 => ?_)
  have n2 := S2.n6
  have hR2 : RT g2 r T len := RT_fr hR1 (fun c k hc => S2.fr c k (by omega))
  have h159 : VV L (d + 2) m_M_layStep 122 [some (tA 156), some (tI r), some (tI i), some (tI (op - 200)), some (tI (g 166 r)), some (tI A), none, none, none, none] [tI B] (WW f t g2) Q = VV L (d + 2) m_M_layStep 159 [some (tA 156), some (tI r), some (tI i), some (tI (op - 200)), some (tI (g 166 r)), some (tI A), some (tI B), some (tI (g2 166 r)), none, none] [] (WW f t (ad3 g2 r (dzC op 2) i (i + 1))) Q := by
    rcases hop with hk | hk | hk
    all_goals subst hk
    all_goals simp only [u_M_layStep_122, u_M_layStep_124, u_M_layStep_125, u_M_layStep_126, u_M_layStep_127, u_M_layStep_129, u_M_layStep_132, u_M_layStep_134, u_M_layStep_137, u_M_layStep_138, u_M_layStep_140, u_M_layStep_143, u_M_layStep_145, u_M_layStep_148, u_M_layStep_150, u_M_layStep_151, u_M_layStep_152, u_M_layStep_153, u_M_layStep_154, u_M_layStep_157, h1_156, ne_eq, not_false_eq_true, not_true_eq_false, true_and, and_true, true_or, or_true, eq_self, Option.toList_some, Option.toList_none, List.cons_append, List.nil_append, tc_0, tc_I, tc_L, tc_A, Nat.reduceAdd, Nat.reduceLeDiff, Nat.reduceEqDiff, Int.reduceEq, Int.reduceLT, Int.reduceLE, Int.reduceNeg, Int.reduceToNat, Int.cast_ofNat_Int, if_true, if_false, and_self, or_self, ite_self, bI_0, bI_1, bI_01, Bool.false_eq_true, reduceCtorEq, Int.reduceSub, w1, s_M_adds hr (show 0 ≤ g2 166 r by omega) (show g2 166 r < 40 by omega), dzC]
  refine Eq.mpr h159 ?_
  have P3 := AdP_ad3 (r := r) (g := g2) (wt := dzC op 2) (of := i) (e := i + 1) (by omega)
  generalize hg3 : ad3 g2 r (dzC op 2) i (i + 1) = g3 at *
  have hR3 : RT g3 r T len := RT_fr hR2 (fun c k hc => P3.fr c k (by omega))
  have n3 := P3.n6
  simp only [u_M_layStep_159, u_M_layStep_160, u_M_layStep_161, u_M_layStep_163, u_M_layStep_164, u_M_layStep_165, h1_156, ne_eq, not_false_eq_true, not_true_eq_false, true_and, and_true, true_or, or_true, eq_self, Option.toList_some, Option.toList_none, List.cons_append, List.nil_append, tc_0, tc_I, tc_L, tc_A, Nat.reduceAdd, Nat.reduceLeDiff, Nat.reduceEqDiff, Int.reduceEq, Int.reduceLT, Int.reduceLE, Int.reduceNeg, Int.reduceToNat, Int.cast_ofNat_Int, if_true, if_false, and_self, or_self, ite_self, bI_0, bI_1, bI_01, Bool.false_eq_true, reduceCtorEq, wB3]
  refine wb g3 (B + 3) C _ hR3 (by omega) (by omega) (by rw [show B + 3 = B + 1 + 1 + 1 by omega]; exact r8) (by omega) (by omega) (Or.inl r9) (fun g4 S4 => ?_)
  have n4 := S4.n6
  have hR4 : RT g4 r T len := RT_fr hR3 (fun c k hc => S4.fr c k (by omega))
  have P5 := AdP_ad3 (r := r) (g := g4) (wt := dzC op 3) (of := i) (e := i + 1) (by omega)
  have hend : VV L (d + 2) m_M_layStep 168 [some (tA 156), some (tI r), some (tI i), some (tI (op - 200)), some (tI (g 166 r)), some (tI A), some (tI B), some (tI (g2 166 r)), none, none] [tI C] (WW f t g4) Q = VV L (d + 2) m_M_layStep 205 [some (tA 156), some (tI r), some (tI i), some (tI (op - 200)), some (tI (g 166 r)), some (tI A), some (tI B), some (tI (g2 166 r)), some (tI C), some (tI (g4 166 r))] [] (WW f t (ad3 g4 r (dzC op 3) i (i + 1))) Q := by
    rcases hop with hk | hk | hk
    all_goals subst hk
    all_goals simp only [u_M_layStep_168, u_M_layStep_170, u_M_layStep_171, u_M_layStep_172, u_M_layStep_173, u_M_layStep_175, u_M_layStep_178, u_M_layStep_180, u_M_layStep_183, u_M_layStep_184, u_M_layStep_186, u_M_layStep_189, u_M_layStep_191, u_M_layStep_194, u_M_layStep_196, u_M_layStep_197, u_M_layStep_198, u_M_layStep_199, u_M_layStep_200, u_M_layStep_203, h1_156, ne_eq, not_false_eq_true, not_true_eq_false, true_and, and_true, true_or, or_true, eq_self, Option.toList_some, Option.toList_none, List.cons_append, List.nil_append, tc_0, tc_I, tc_L, tc_A, Nat.reduceAdd, Nat.reduceLeDiff, Nat.reduceEqDiff, Int.reduceEq, Int.reduceLT, Int.reduceLE, Int.reduceNeg, Int.reduceToNat, Int.cast_ofNat_Int, if_true, if_false, and_self, or_self, ite_self, bI_0, bI_1, bI_01, Bool.false_eq_true, reduceCtorEq, Int.reduceSub, w1, s_M_adds hr (show 0 ≤ g4 166 r by omega) (show g4 166 r < 40 by omega), dzC]
  refine Eq.mpr hend ?_
  generalize hg5 : ad3 g4 r (dzC op 3) i (i + 1) = g5 at *
  have hR5 : RT g5 r T len := RT_fr hR4 (fun c k hc => P5.fr c k (by omega))
  have J6 := fun x y => JnP_jn (r := r) (g := g5) (x := x) (y := y) (i := g 166 r) (j := g2 166 r) (k := g4 166 r) h0 (by omega) (by omega)
  have hjn := fun (x y : Int) (Q : Option TV → Wd → Prop) => s_M_joins (L := L) (d := d + 1) (f := f) (t := t) (g := g5) (Q := Q) (x := x) (y := y) (i := g 166 r) (j := g2 166 r) (k := g4 166 r) hr (by omega) (by omega) (by omega)
  have hR6 := fun x y => RT_fr hR5 (fun c k hc => (J6 x y).fr c k (by omega))
  have fin : ∀ x y, x = i + 1 → (op = 208 ∨ op = 211 → y = C + 1 + 1) → Q (some (tI (J + 1))) (WW f t (jn1 (jn1 (jn1 g5 (40 * (r : Int) + g 166 r).toNat x y (g 166 r) (g2 166 r) (g4 166 r)) (40 * (r : Int) + g2 166 r).toNat x y (g 166 r) (g2 166 r) (g4 166 r)) (40 * (r : Int) + g4 166 r).toNat x y (g 166 r) (g2 166 r) (g4 166 r))) := by
    intro x y hx hy
    rw [← hjl]
    refine hQ _ ?_
    have em : g2 166 r = g 166 r + na + 1 := by omega
    have eq : g4 166 r = g 166 r + na + 1 + nb + 1 := by omega
    have J := J6 x y
    rw [em, eq] at J ⊢
    have F := SetR_2 (op := op) (i := i) (b := i + 1) (i2 := B + 1) (b2 := B + 2) (i3 := C + 1) (b3 := C + 1 + 1) (hb := i + 1) (qb := C + 1 + 1) h0 rfl rfl rfl (by omega) P1 S2 P3 S4 P5 J (by simp [dzC]) rfl rfl hx hy
    have q1 : i + ((kX e).length : Int) + 2 = A + 1 := by omega
    have q2 : A + 1 + (ka.length : Int) + 3 = B + 3 := by omega
    have q3 : B + 3 + (kb.length : Int) + 1 = C + 1 := by omega
    have q4 : B + 3 - 2 = B + 1 := by omega
    have q5 : B + 3 - 1 = B + 2 := by omega
    simp only [q1, q2, q3, q4, q5]
    rw [n1] at F
    rw [show g3 166 r = g 166 r + na + 1 + 1 by omega] at F
    exact F
  rcases hop with hk | hk | hk
  · subst hk
    simp only [u_M_layStep_205, u_M_layStep_206, u_M_layStep_207, u_M_layStep_209, u_M_layStep_211, u_M_layStep_213, u_M_layStep_214, u_M_layStep_215, u_M_layStep_216, u_M_layStep_217, u_M_layStep_219, u_M_layStep_222, u_M_layStep_223, u_M_layStep_224, u_M_layStep_225, u_M_layStep_228, u_M_layStep_230, u_M_layStep_231, u_M_layStep_232, u_M_layStep_235, u_M_layStep_236, u_M_layStep_237, u_M_layStep_239, u_M_layStep_240, u_M_layStep_241, u_M_layStep_243, u_M_layStep_246, u_M_layStep_247, u_M_layStep_248, h1_156, ne_eq, not_false_eq_true, not_true_eq_false, true_and, and_true, true_or, or_true, eq_self, Option.toList_some, Option.toList_none, List.cons_append, List.nil_append, tc_0, tc_I, tc_L, tc_A, Nat.reduceAdd, Nat.reduceLeDiff, Nat.reduceEqDiff, Int.reduceEq, Int.reduceLT, Int.reduceLE, Int.reduceNeg, Int.reduceToNat, Int.cast_ofNat_Int, if_true, if_false, and_self, or_self, ite_self, bI_0, bI_1, bI_01, Bool.false_eq_true, reduceCtorEq, Int.reduceSub, w1, wC1, wC2, hjn, hfJ _ _ (hR6 _ _), wJ]
    exact fin _ _ rfl (fun _ => by omega)
  · subst hk
    simp only [u_M_layStep_205, u_M_layStep_206, u_M_layStep_207, u_M_layStep_209, u_M_layStep_211, u_M_layStep_213, u_M_layStep_214, u_M_layStep_215, u_M_layStep_216, u_M_layStep_217, u_M_layStep_219, u_M_layStep_222, u_M_layStep_223, u_M_layStep_224, u_M_layStep_225, u_M_layStep_228, u_M_layStep_230, u_M_layStep_231, u_M_layStep_232, u_M_layStep_235, u_M_layStep_236, u_M_layStep_237, u_M_layStep_239, u_M_layStep_240, u_M_layStep_241, u_M_layStep_243, u_M_layStep_246, u_M_layStep_247, u_M_layStep_248, h1_156, ne_eq, not_false_eq_true, not_true_eq_false, true_and, and_true, true_or, or_true, eq_self, Option.toList_some, Option.toList_none, List.cons_append, List.nil_append, tc_0, tc_I, tc_L, tc_A, Nat.reduceAdd, Nat.reduceLeDiff, Nat.reduceEqDiff, Int.reduceEq, Int.reduceLT, Int.reduceLE, Int.reduceNeg, Int.reduceToNat, Int.cast_ofNat_Int, if_true, if_false, and_self, or_self, ite_self, bI_0, bI_1, bI_01, Bool.false_eq_true, reduceCtorEq, Int.reduceSub, w1, wC1, wC2, hjn, hfJ _ _ (hR6 _ _), wJ]
    exact fin _ _ rfl (fun _ => by omega)
  · subst hk
    simp only [u_M_layStep_205, u_M_layStep_206, u_M_layStep_207, u_M_layStep_209, u_M_layStep_211, u_M_layStep_213, u_M_layStep_214, u_M_layStep_215, u_M_layStep_216, u_M_layStep_217, u_M_layStep_219, u_M_layStep_222, u_M_layStep_223, u_M_layStep_224, u_M_layStep_225, u_M_layStep_228, u_M_layStep_230, u_M_layStep_231, u_M_layStep_232, u_M_layStep_235, u_M_layStep_236, u_M_layStep_237, u_M_layStep_239, u_M_layStep_240, u_M_layStep_241, u_M_layStep_243, u_M_layStep_246, u_M_layStep_247, u_M_layStep_248, h1_156, ne_eq, not_false_eq_true, not_true_eq_false, true_and, and_true, true_or, or_true, eq_self, Option.toList_some, Option.toList_none, List.cons_append, List.nil_append, tc_0, tc_I, tc_L, tc_A, Nat.reduceAdd, Nat.reduceLeDiff, Nat.reduceEqDiff, Int.reduceEq, Int.reduceLT, Int.reduceLE, Int.reduceNeg, Int.reduceToNat, Int.cast_ofNat_Int, if_true, if_false, and_self, or_self, ite_self, bI_0, bI_1, bI_01, Bool.false_eq_true, reduceCtorEq, Int.reduceSub, w1, wC1, wC2, hjn, hfJ _ _ (hR6 _ _), wJ]
    exact fin _ _ rfl (fun h => by omega)
theorem LsP_C1 {c : Nat} {ka : List Int} {na : Nat} {ta : Int → Int → List En9} (e : EE c) (he : wX e) (wa : LyP L (d + 1) r f t T len ka na ta) : LsP L (d + 2) r f t T len (215 :: (kX e ++ 123 :: (ka ++ [125, 59]))) (na + 2) (fun i p =>
    let i1 := i + (kX e).length + 2
    let q := p + na + 1
    let i3 := i1 + ka.length + 1
    ((215, 1, i, i + 1, p, q, q), i + 1, i3 + 1) :: (ta i1 (p + 1) ++ [((215, 3, i3, i3 + 1, p, q, q), i + 1, i3 + 1)])) := by
  intro g i j Q hR h0 h1 hs hi hj hQ
  have hr := hR.r10
  have hl1 := hR.l1
  obtain ⟨r1, hs⟩ := seg_hd hs
  obtain ⟨r2, hs⟩ := seg_split hs
  obtain ⟨r3, hs⟩ := seg_hd hs
  obtain ⟨r4, hs⟩ := seg_split hs
  obtain ⟨r5, hs⟩ := seg_hd hs
  obtain ⟨r6, hs⟩ := seg_hd hs
  have hjl := seg_len hs
  simp at hjl
  generalize hA : i + 1 + ((kX e).length : Int) = A at *
  generalize hB : A + 1 + (ka.length : Int) = B at *
  have hfA : ∀ (g' : Mem) (Q : Option TV → Wd → Prop), RT g' r T len → VV L (d + 1) m_M_find 0 [some (tA 156), some (tI r), some (tI i), some (tI 123), none, none] [] (WW f t g') Q = Q (some (tI A)) (WW f t g') := fun g' Q hR' =>
    s_M_find hR' (by decide) (by omega) (by omega) r3 (l := 215 :: kX e) (Skp_0 _ (fun v hv => by
      rcases List.mem_cons.mp hv with rfl | hv
      · unfold nSep; omega
      · exact ⟨eTk_s (kX_e e he v hv), (eTk_s (kX_e e he v hv)).2.1⟩)) (seg_cons r1 r2) hi
  have w1 : w32 (i + 1) = i + 1 := w32_id (by omega) (by omega)
  have wA : w32 (A + 1) = A + 1 := w32_id (by omega) (by omega)
  have wB2 : w32 (B + 2) = B + 2 := w32_id (by omega) (by omega)
  obtain ⟨x1, x2, x3, x4, x5, x6⟩ := hR.ix hi (show i < len by omega)
  have k5 : eS T i = 5 := eS_key (by omega) (by omega)
  have kw : whc (T i) = 15 := by rw [r1]; exact (key_w (by omega) (by omega)).2
  have P1 := AdP_ad3 (r := r) (wt := 15) (of := i) (e := i + 1) h0
  have hR1 : RT (ad3 g r 15 i (i + 1)) r T len := RT_fr hR (fun c k hc => P1.fr c k (by omega))
  simp only [u_M_layStep_0, u_M_layStep_1, u_M_layStep_4, u_M_layStep_7, u_M_layStep_8, u_M_layStep_9, u_M_layStep_10, u_M_layStep_11, u_M_layStep_12, u_M_layStep_13, u_M_layStep_16, u_M_layStep_17, u_M_layStep_18, u_M_layStep_19, u_M_layStep_22, u_M_layStep_23, u_M_layStep_24, u_M_layStep_25, u_M_layStep_27, u_M_layStep_28, u_M_layStep_31, u_M_layStep_34, u_M_layStep_35, u_M_layStep_36, u_M_layStep_37, u_M_layStep_38, u_M_layStep_39, u_M_layStep_40, u_M_layStep_41, u_M_layStep_42, u_M_layStep_43, u_M_layStep_44, u_M_layStep_47, u_M_layStep_49, u_M_layStep_50, u_M_layStep_51, u_M_layStep_52, u_M_layStep_54, u_M_layStep_57, u_M_layStep_58, u_M_layStep_59, u_M_layStep_60, u_M_layStep_61, u_M_layStep_64, u_M_layStep_67, u_M_layStep_68, u_M_layStep_69, u_M_layStep_70, u_M_layStep_71, u_M_layStep_72, u_M_layStep_73, u_M_layStep_74, u_M_layStep_76, u_M_layStep_79, u_M_layStep_80, u_M_layStep_82, u_M_layStep_85, u_M_layStep_86, u_M_layStep_88, u_M_layStep_91, u_M_layStep_92, u_M_layStep_93, u_M_layStep_94, u_M_layStep_95, u_M_layStep_96, u_M_layStep_97, u_M_layStep_98, u_M_layStep_101, u_M_layStep_103, u_M_layStep_104, u_M_layStep_105, u_M_layStep_106, u_M_layStep_108, u_M_layStep_111, u_M_layStep_113, u_M_layStep_114, u_M_layStep_115, u_M_layStep_117, u_M_layStep_118, u_M_layStep_119, u_M_layStep_122, u_M_layStep_124, u_M_layStep_125, u_M_layStep_126, u_M_layStep_127, u_M_layStep_129, u_M_layStep_132, u_M_layStep_134, u_M_layStep_137, u_M_layStep_138, u_M_layStep_140, u_M_layStep_143, u_M_layStep_145, u_M_layStep_148, u_M_layStep_150, u_M_layStep_151, u_M_layStep_152, u_M_layStep_153, u_M_layStep_154, u_M_layStep_157, u_M_layStep_159, u_M_layStep_160, u_M_layStep_161, u_M_layStep_163, u_M_layStep_164, u_M_layStep_165, u_M_layStep_168, u_M_layStep_170, u_M_layStep_171, u_M_layStep_172, u_M_layStep_173, u_M_layStep_175, u_M_layStep_178, u_M_layStep_180, u_M_layStep_183, u_M_layStep_184, u_M_layStep_186, u_M_layStep_189, u_M_layStep_191, u_M_layStep_194, u_M_layStep_196, u_M_layStep_197, u_M_layStep_198, u_M_layStep_199, u_M_layStep_200, u_M_layStep_203, u_M_layStep_205, u_M_layStep_206, u_M_layStep_207, u_M_layStep_209, u_M_layStep_211, u_M_layStep_213, u_M_layStep_214, u_M_layStep_215, u_M_layStep_216, u_M_layStep_217, u_M_layStep_219, u_M_layStep_222, u_M_layStep_223, u_M_layStep_224, u_M_layStep_225, u_M_layStep_228, u_M_layStep_230, u_M_layStep_231, u_M_layStep_232, u_M_layStep_235, u_M_layStep_236, u_M_layStep_237, u_M_layStep_239, u_M_layStep_240, u_M_layStep_241, u_M_layStep_243, u_M_layStep_246, u_M_layStep_247, u_M_layStep_248, u_M_layStep_249, u_M_layStep_250, u_M_layStep_252, u_M_layStep_255, u_M_layStep_256, u_M_layStep_257, u_M_layStep_259, u_M_layStep_260, u_M_layStep_261, u_M_layStep_262, u_M_layStep_263, u_M_layStep_266, u_M_layStep_268, u_M_layStep_269, u_M_layStep_270, u_M_layStep_271, u_M_layStep_273, u_M_layStep_276, u_M_layStep_278, u_M_layStep_279, u_M_layStep_280, u_M_layStep_282, u_M_layStep_283, u_M_layStep_284, h1_156, gt_156_25, gt_156_26, h1_164, h2_164, gt_164, pt_164, h1_165, h2_165, gt_165, pt_165, ne_eq, not_false_eq_true, not_true_eq_false, true_and, and_true, true_or, or_true, eq_self, Option.toList_some, Option.toList_none, List.cons_append, List.nil_append, tc_0, tc_I, tc_L, tc_A, Nat.reduceAdd, Nat.reduceLeDiff, Nat.reduceEqDiff, Int.reduceEq, Int.reduceLT, Int.reduceLE, Int.reduceNeg, Int.reduceToNat, Int.cast_ofNat_Int, if_true, if_false, and_self, or_self, ite_self, bI_0, bI_1, bI_01, Bool.false_eq_true, reduceCtorEq, x1, x2, x3, x4, x5, x6, k5, kw, w1, s_M_adds hr h0 (show g 166 r < 40 by omega), hfA _ _ hR1, wA]
  generalize hg1 : ad3 g r 15 i (i + 1) = g1 at *
  have n1 := P1.n6
  refine wa g1 (A + 1) B _ hR1 (by omega) (by omega) r4 (by omega) (by omega) (Or.inl r5) (fun g2 S2 => ?_)
  have n2 := S2.n6
  have hR2 : RT g2 r T len := RT_fr hR1 (fun c k hc => S2.fr c k (by omega))
  have P5 := AdP_ad3 (r := r) (g := g2) (wt := 30) (of := i) (e := i + 1) (by omega)
  have hjn := fun (g : Mem) (i j k x y : Int) (hi : 0 ≤ i ∧ i < 40) (hj : 0 ≤ j ∧ j < 40) (hk : 0 ≤ k ∧ k < 40) (Q : Option TV → Wd → Prop) => s_M_joins (L := L) (d := d + 1) (f := f) (t := t) (g := g) (Q := Q) (x := x) (y := y) hr hi hj hk
  have hjn' := fun (g' : Mem) (x y : Int) (Q : Option TV → Wd → Prop) => hjn g' (g 166 r) (g2 166 r) (g2 166 r) x y (by omega) (by omega) (by omega) Q
  simp only [u_M_layStep_287, u_M_layStep_289, u_M_layStep_290, u_M_layStep_291, u_M_layStep_293, u_M_layStep_294, u_M_layStep_295, u_M_layStep_296, u_M_layStep_297, u_M_layStep_300, u_M_layStep_302, u_M_layStep_303, u_M_layStep_304, u_M_layStep_306, u_M_layStep_308, u_M_layStep_310, u_M_layStep_311, u_M_layStep_312, u_M_layStep_313, u_M_layStep_314, u_M_layStep_315, u_M_layStep_316, u_M_layStep_319, u_M_layStep_321, u_M_layStep_322, u_M_layStep_323, h1_156, ne_eq, not_false_eq_true, not_true_eq_false, true_and, and_true, true_or, or_true, eq_self, Option.toList_some, Option.toList_none, List.cons_append, List.nil_append, tc_0, tc_I, tc_L, tc_A, Nat.reduceAdd, Nat.reduceLeDiff, Nat.reduceEqDiff, Int.reduceEq, Int.reduceLT, Int.reduceLE, Int.reduceNeg, Int.reduceToNat, Int.cast_ofNat_Int, if_true, if_false, and_self, or_self, ite_self, bI_0, bI_1, bI_01, Bool.false_eq_true, reduceCtorEq, w1, s_M_adds hr (show 0 ≤ g2 166 r by omega) (show g2 166 r < 40 by omega), hjn', wB2]
  rw [show B + 2 = j by omega]
  refine hQ _ ?_
  generalize hg5 : ad3 g2 r 30 i (i + 1) = g5 at *
  have J := JnP_jn (r := r) (g := g5) (x := i + 1) (y := i + 1) (i := g 166 r) (j := g2 166 r) (k := g2 166 r) h0 (by omega) (by omega)
  have em : g2 166 r = g 166 r + na + 1 := by omega
  rw [em] at J ⊢
  have F := SetR_1 (i := i) (b := i + 1) (i3 := B + 1) (b3 := B + 1 + 1) (hb := i + 1) (qb := B + 1 + 1) h0 rfl rfl (by omega) P1 S2 P5 J rfl rfl rfl
  have q1 : i + ((kX e).length : Int) + 2 = A + 1 := by omega
  simp only [q1, hB]
  rw [n1] at F
  exact F
theorem k1_hd {c : Nat} {o : Bool} {Y : Type} {kb : Y → List Int} {wb : Y → Prop} {i j : Int} (s : SS c ⊕ CC c Y) (h : w1 o wb s) (hs : seg T i j (k1 kb s)) : ¬ T i = 125 ∧ i < j := by
  have hl := seg_len hs
  have := k1_pos kb s
  refine ⟨?_, by omega⟩
  match s, h, hs with
  | .inl s, h, hs =>
    have := seg_at hs (Int.le_refl _) (by omega)
    have e : k1 kb (.inl s) = kS0 s ++ [59] := kS_0 s
    rw [e] at this
    rcases List.mem_append.mp this with hh | hh
    · exact (kS0_s s h _ hh).2.2
    · rw [List.mem_singleton.mp hh]; omega
  | .inr (.inl (k, e, a, b, e2)), h, hs => have := (seg_hd hs).1; have := h.2.1; omega
  | .inr (.inr (.inl (e, a, b))), h, hs => have := (seg_hd hs).1; omega
  | .inr (.inr (.inr (e, a))), h, hs => have := (seg_hd hs).1; omega
theorem LsP_1 {c : Nat} {o : Bool} {Y : Type} {kb : Y → List Int} {nb : Y → Nat} {tb : Y → Int → Int → List En9} {wb : Y → Prop} (hb : ∀ x, wb x → LyP L (d + 1) r f t T len (kb x) (nb x) (tb x)) (s : SS c ⊕ CC c Y) (hs : w1 o wb s) : LsP L (d + 2) r f t T len (k1 kb s) (n1 nb s) (fun i p => t91 kb nb tb i p s) := by
  match s, hs with
  | .inl s, hs => exact LsP_S s hs
  | .inr (.inl (k, e, x, y, e2)), hs =>
    obtain ⟨_, hk, he, hx, hy, he2⟩ := hs
    have := LsP_C2 (op := k) (y := if k = 208 then 209 else 212) (z0 := (if k = 208 then 210 else 213) :: kX e2) e he (by omega) (sk1 (by split <;> omega) (brc_0 (by unfold nSep; split <;> omega)) (Skp_0 _ (fun v hv => ⟨eTk_s (kX_e e2 he2 v hv), (eTk_s (kX_e e2 he2 v hv)).1⟩))) (hb x hx) (hb y hy)
    simp only [List.cons_append] at this
    exact this
  | .inr (.inr (.inl (e, x, y))), hs =>
    obtain ⟨_, he, hx, hy⟩ := hs
    exact LsP_C2 (op := 216) (y := 209) (z0 := []) e he (by omega) rfl (hb x hx) (hb y hy)
  | .inr (.inr (.inr (e, x))), hs =>
    obtain ⟨_, he, hx⟩ := hs
    exact LsP_C1 e he (hb x hx)
theorem l_laySteps {c : Nat} {o : Bool} {Y : Type} {kb : Y → List Int} {nb : Y → Nat} {tb : Y → Int → Int → List En9} {wb : Y → Prop} {fr : Int} (hb : ∀ x, wb x → LyP L (d + 1) r f t T len (kb x) (nb x) (tb x)) : ∀ (l : List (SS c ⊕ CC c Y)), allL (w1 o wb) l → ∀ (g : Mem) (i j : Int) (Q : Option TV → Wd → Prop), RT g r T len → 0 ≤ g 166 r → g 166 r + (List.map (n1 nb) l).sum ≤ 40 → seg T i j (List.flatMap (k1 kb) l) → 0 ≤ i → j ≤ len → (T j = 125 ∨ j = len) → (∀ g', SetR r g g' (List.map (n1 nb) l).sum (t9L kb nb tb l i (g 166 r)) → Q (some (tI j)) (WW f t g')) → VV L (d + 3) m_M_laySteps 2 [some (tA 156), some (tI r), some (tI fr), some (tI i)] [] (WW f t g) Q := by
  intro l
  induction l with
  | nil =>
    intro _ g i j Q hR h0 h1 hs hi hj hT hQ
    have e := seg_len hs
    simp at e
    subst e
    obtain ⟨q0, q1, q2⟩ := hR.ir
    rw [u_M_laySteps_2]
    rcases hT with hT | hT
    · have hjl : j < len := by
        by_cases hq : j < len
        · exact hq
        · have := hR.z j (Or.inr (by omega)); omega
      simp only [u_M_laySteps_0, u_M_laySteps_1, u_M_laySteps_3, u_M_laySteps_4, u_M_laySteps_7, u_M_laySteps_8, u_M_laySteps_9, u_M_laySteps_12, u_M_laySteps_13, u_M_laySteps_14, u_M_laySteps_15, u_M_laySteps_17, u_M_laySteps_19, u_M_laySteps_22, u_M_laySteps_25, u_M_laySteps_26, u_M_laySteps_27, u_M_laySteps_28, u_M_laySteps_31, u_M_laySteps_32, u_M_laySteps_35, u_M_laySteps_36, h1_156, gt_156_24, h1_163, h2_163, gt_163, pt_163, ne_eq, not_false_eq_true, not_true_eq_false, true_and, and_true, true_or, or_true, eq_self, Option.toList_some, Option.toList_none, List.cons_append, List.nil_append, tc_0, tc_I, tc_L, tc_A, Nat.reduceAdd, Nat.reduceLeDiff, Nat.reduceEqDiff, Int.reduceEq, Int.reduceLT, Int.reduceLE, Int.reduceNeg, Int.reduceToNat, Int.cast_ofNat_Int, if_true, if_false, and_self, or_self, ite_self, bI_0, bI_1, bI_01, Bool.false_eq_true, reduceCtorEq, q0, q1, q2, show ¬ (len : Int) ≤ j by omega, s_M_is125 hR hi, hT, decide_true, bB_t]
      exact hQ g SetR_nil
    · simp only [u_M_laySteps_0, u_M_laySteps_1, u_M_laySteps_3, u_M_laySteps_4, u_M_laySteps_7, u_M_laySteps_8, u_M_laySteps_9, u_M_laySteps_12, u_M_laySteps_13, u_M_laySteps_14, u_M_laySteps_15, u_M_laySteps_17, u_M_laySteps_19, u_M_laySteps_22, u_M_laySteps_25, u_M_laySteps_26, u_M_laySteps_27, u_M_laySteps_28, u_M_laySteps_31, u_M_laySteps_32, u_M_laySteps_35, u_M_laySteps_36, h1_156, gt_156_24, h1_163, h2_163, gt_163, pt_163, ne_eq, not_false_eq_true, not_true_eq_false, true_and, and_true, true_or, or_true, eq_self, Option.toList_some, Option.toList_none, List.cons_append, List.nil_append, tc_0, tc_I, tc_L, tc_A, Nat.reduceAdd, Nat.reduceLeDiff, Nat.reduceEqDiff, Int.reduceEq, Int.reduceLT, Int.reduceLE, Int.reduceNeg, Int.reduceToNat, Int.cast_ofNat_Int, if_true, if_false, and_self, or_self, ite_self, bI_0, bI_1, bI_01, Bool.false_eq_true, reduceCtorEq, q0, q1, q2, show (len : Int) ≤ j by omega]
      exact hQ g SetR_nil
  | cons s l ih =>
    intro hw g i j Q hR h0 h1 hs hi hj hT hQ
    rw [List.flatMap_cons] at hs
    rw [List.map_cons, List.sum_cons] at h1 hQ
    obtain ⟨q0, q1, q2⟩ := hR.ir
    obtain ⟨s1, s2⟩ := seg_split hs
    have hd := k1_hd s (hw s List.mem_cons_self) s1
    have := s2.1
    rw [u_M_laySteps_2]
    simp only [u_M_laySteps_0, u_M_laySteps_1, u_M_laySteps_3, u_M_laySteps_4, u_M_laySteps_7, u_M_laySteps_8, u_M_laySteps_9, u_M_laySteps_12, u_M_laySteps_13, u_M_laySteps_14, u_M_laySteps_15, u_M_laySteps_17, u_M_laySteps_19, u_M_laySteps_22, u_M_laySteps_25, u_M_laySteps_26, u_M_laySteps_27, u_M_laySteps_28, u_M_laySteps_31, u_M_laySteps_32, u_M_laySteps_35, u_M_laySteps_36, h1_156, gt_156_24, h1_163, h2_163, gt_163, pt_163, ne_eq, not_false_eq_true, not_true_eq_false, true_and, and_true, true_or, or_true, eq_self, Option.toList_some, Option.toList_none, List.cons_append, List.nil_append, tc_0, tc_I, tc_L, tc_A, Nat.reduceAdd, Nat.reduceLeDiff, Nat.reduceEqDiff, Int.reduceEq, Int.reduceLT, Int.reduceLE, Int.reduceNeg, Int.reduceToNat, Int.cast_ofNat_Int, if_true, if_false, and_self, or_self, ite_self, bI_0, bI_1, bI_01, Bool.false_eq_true, reduceCtorEq, q0, q1, q2, show ¬ (len : Int) ≤ i by omega, s_M_is125 hR hi, hd.1, decide_false, bB_f]
    refine LsP_1 hb s (hw s List.mem_cons_self) g i _ _ hR h0 (by omega) s1 hi (by omega) (fun g1 S1 => ?_)
    simp only [u_M_laySteps_0, u_M_laySteps_1, u_M_laySteps_3, u_M_laySteps_4, u_M_laySteps_7, u_M_laySteps_8, u_M_laySteps_9, u_M_laySteps_12, u_M_laySteps_13, u_M_laySteps_14, u_M_laySteps_15, u_M_laySteps_17, u_M_laySteps_19, u_M_laySteps_22, u_M_laySteps_25, u_M_laySteps_26, u_M_laySteps_27, u_M_laySteps_28, u_M_laySteps_31, u_M_laySteps_32, u_M_laySteps_35, u_M_laySteps_36, h1_156, gt_156_24, h1_163, h2_163, gt_163, pt_163, ne_eq, not_false_eq_true, not_true_eq_false, true_and, and_true, true_or, or_true, eq_self, Option.toList_some, Option.toList_none, List.cons_append, List.nil_append, tc_0, tc_I, tc_L, tc_A, Nat.reduceAdd, Nat.reduceLeDiff, Nat.reduceEqDiff, Int.reduceEq, Int.reduceLT, Int.reduceLE, Int.reduceNeg, Int.reduceToNat, Int.cast_ofNat_Int, if_true, if_false, and_self, or_self, ite_self, bI_0, bI_1, bI_01, Bool.false_eq_true, reduceCtorEq]
    have n1 := S1.n6
    refine ih (fun y hy => hw y (List.mem_cons_of_mem _ hy)) g1 _ j Q (RT_fr hR (fun c k hc => S1.fr c k (by omega))) (by omega) (by omega) s2 (by omega) hj hT (fun g2 S2 => hQ g2 ?_)
    have := SetR_app h0 S1 S2
    rw [n1] at this
    exact this
theorem LyP_B {c : Nat} {o : Bool} : ∀ (b : Nat) (x : TB c b), wB o b x → LyP L (d + 1 + 2 * b) r f t T len (kB b x) (nB b x) (t9B b x) := by
  intro b
  induction b with
  | zero => intro x; exact nomatch x
  | succ b ih =>
    intro x hx g i j Q hR h0 h1 hs hi hj hT hQ
    have hb : ∀ x : TB c b, wB o b x → LyP L (d + 2 * b + 1) r f t T len (kB b x) (nB b x) (t9B b x) := by
      rw [show d + 2 * b + 1 = d + 1 + 2 * b by omega]; exact ih
    rw [show d + 1 + 2 * (b + 1) = d + 2 * b + 3 by omega]
    simp only [u_M_laySteps_0, u_M_laySteps_1, ne_eq, not_false_eq_true, not_true_eq_false, true_and, and_true, true_or, or_true, eq_self, Option.toList_some, Option.toList_none, List.cons_append, List.nil_append, tc_0, tc_I, tc_L, tc_A, Nat.reduceAdd, Nat.reduceLeDiff, Nat.reduceEqDiff, Int.reduceEq, Int.reduceLT, Int.reduceLE, Int.reduceNeg, Int.reduceToNat, Int.cast_ofNat_Int, if_true, if_false, and_self, or_self, ite_self, bI_0, bI_1, bI_01, Bool.false_eq_true, reduceCtorEq]
    exact l_laySteps hb x hx g i j Q hR h0 h1 hs hi hj hT hQ
end
