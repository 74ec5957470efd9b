/-! The reference's values: factor -/
section
variable {L D r len : Nat} {f t : Mem} {T : Int → Int}
theorem srt_num {x : Int} (h : x < 0) : srt x = 2 ∧ whc x = -1 - x := by
  unfold srt whc; rw [if_pos h, if_pos h]; exact ⟨rfl, rfl⟩
theorem p_M_leaf (x : Int ⊕ Int) (hx : wL x) : VMs L (D + 1) r f t T len m_M_factor [none, none, none, none, none, none, none] (kL x) (fun E => vL E x) (fun _ => True) := by
  intro g E TH N I i j Q hR hE hW h5 h6 h7 hi hK hs _ hQ
  have hl1 := hR.l1
  have hF1 : FM g (mset g 156 44 (i + 1)) := FM_m (by omega)
  have e5 : (mset g 156 44 (i + 1)) 156 45 = (r : Int) := by rw [rd, if_neg (by omega)]; exact h5
  have e6 : (mset g 156 44 (i + 1)) 156 44 = i + 1 := by rw [rd, if_pos (by simp)]
  have e7 : (mset g 156 44 (i + 1)) 156 46 = 0 := by rw [rd, if_neg (by omega)]; exact h7
  match x, hx, hs, hQ with
  | .inl v, hx, hs, hQ =>
    obtain ⟨hv, hs'⟩ := seg_hd hs
    have hj := seg_len hs
    simp [kL] at hj
    subst hj
    have hlt := T_in hR (show ¬ T i = 0 by
      rw [hv]; rcases hx with h | h
      · omega
      · exact knz (by simp [h]))
    have wi : w32 (i + 1) = i + 1 := w32_id (by omega) (by omega)
    obtain ⟨x1, x2, x3, x4, x5, x6⟩ := hR.ix hi hlt
    rcases hx with h | h
    · have hn := srt_num h.2
      have he : eS T i = 2 := by unfold eS; rw [if_neg (by omega), hv]; exact hn.1
      rw [hv, hn.2] at x6
      have hQ2 : VM g N I f t (i + 1) Q (.ok (-1 - v, [])) := by
        have e : vL E (.inl v) = .ok (-1 - v, []) := by unfold vL; dsimp only; rw [if_pos (by omega)]
        rw [← e]; exact hQ
      simp only [u_M_factor_0, u_M_factor_1, u_M_factor_4, u_M_factor_5, u_M_factor_6, u_M_factor_9, u_M_factor_12, u_M_factor_13, u_M_factor_16, u_M_factor_17, u_M_factor_18, u_M_factor_21, u_M_factor_22, u_M_factor_23, u_M_factor_24, u_M_factor_25, u_M_factor_26, u_M_factor_29, u_M_factor_30, u_M_factor_31, u_M_factor_34, u_M_factor_35, u_M_factor_36, u_M_factor_39, u_M_factor_40, u_M_factor_41, u_M_factor_42, u_M_factor_43, u_M_factor_44, u_M_factor_47, u_M_factor_48, u_M_factor_49, u_M_factor_52, u_M_factor_53, u_M_factor_54, u_M_factor_55, u_M_factor_56, u_M_factor_59, u_M_factor_60, u_M_factor_63, u_M_factor_64, u_M_factor_65, u_M_factor_66, u_M_factor_67, u_M_factor_68, u_M_factor_71, u_M_factor_72, u_M_factor_75, u_M_factor_76, u_M_factor_77, u_M_factor_78, u_M_factor_81, u_M_factor_82, u_M_factor_83, u_M_factor_86, u_M_factor_87, u_M_factor_88, u_M_factor_90, u_M_factor_93, u_M_factor_94, u_M_factor_97, u_M_factor_98, u_M_factor_99, u_M_factor_100, u_M_factor_101, u_M_factor_102, u_M_factor_103, u_M_factor_104, u_M_factor_107, u_M_factor_108, u_M_factor_109, u_M_factor_112, u_M_factor_113, u_M_factor_114, u_M_factor_117, u_M_factor_118, u_M_factor_121, u_M_factor_122, u_M_factor_123, u_M_factor_124, u_M_factor_127, u_M_factor_128, u_M_factor_129, u_M_factor_132, u_M_factor_133, u_M_factor_136, u_M_factor_139, u_M_factor_140, u_M_factor_141, u_M_factor_142, u_M_factor_145, u_M_factor_146, u_M_factor_147, u_M_factor_149, u_M_factor_151, u_M_factor_154, u_M_factor_155, u_M_factor_156, u_M_factor_159, u_M_factor_160, u_M_factor_161, u_M_factor_162, u_M_factor_163, u_M_factor_166, u_M_factor_167, u_M_factor_168, u_M_factor_171, u_M_factor_173, u_M_factor_174, u_M_factor_175, u_M_factor_176, u_M_factor_179, u_M_factor_180, u_M_factor_181, u_M_factor_184, u_M_factor_185, u_M_factor_187, u_M_factor_188, u_M_factor_191, u_M_factor_194, u_M_factor_195, u_M_factor_196, u_M_factor_199, u_M_factor_200, u_M_factor_201, u_M_factor_204, u_M_factor_205, u_M_factor_207, u_M_factor_210, u_M_factor_211, u_M_factor_212, u_M_factor_215, u_M_factor_217, u_M_factor_218, u_M_factor_219, u_M_factor_220, u_M_factor_221, u_M_factor_222, u_M_factor_223, u_M_factor_224, u_M_factor_225, u_M_factor_226, u_M_factor_229, u_M_factor_231, u_M_factor_233, u_M_factor_234, u_M_factor_235, u_M_factor_236, u_M_factor_237, u_M_factor_238, u_M_factor_239, u_M_factor_240, u_M_factor_242, u_M_factor_245, u_M_factor_246, u_M_factor_249, u_M_factor_250, u_M_factor_253, u_M_factor_256, u_M_factor_257, u_M_factor_260, u_M_factor_261, u_M_factor_262, u_M_factor_265, u_M_factor_266, u_M_factor_267, u_M_factor_268, u_M_factor_269, u_M_factor_270, u_M_factor_271, u_M_factor_274, u_M_factor_275, u_M_factor_276, u_M_factor_279, u_M_factor_280, u_M_factor_283, u_M_factor_284, u_M_factor_285, u_M_factor_288, u_M_factor_291, u_M_factor_292, u_M_factor_295, u_M_factor_296, u_M_factor_297, u_M_factor_298, u_M_factor_299, u_M_factor_300, u_M_factor_303, u_M_factor_304, u_M_factor_305, u_M_factor_308, u_M_factor_311, u_M_factor_312, u_M_factor_314, u_M_factor_317, u_M_factor_320, u_M_factor_321, u_M_factor_323, u_M_factor_326, u_M_factor_328, u_M_factor_329, u_M_factor_330, u_M_factor_333, u_M_factor_334, u_M_factor_335, u_M_factor_338, u_M_factor_339, u_M_factor_342, u_M_factor_344, u_M_factor_346, u_M_factor_349, u_M_factor_350, u_M_factor_352, u_M_factor_353, u_M_factor_356, u_M_factor_359, u_M_factor_360, u_M_factor_362, u_M_factor_363, u_M_factor_366, u_M_factor_367, u_M_factor_370, u_M_factor_371, u_M_factor_372, u_M_factor_373, u_M_factor_374, u_M_factor_377, u_M_factor_378, u_M_factor_379, u_M_factor_382, u_M_factor_383, h1_156, gt_156_26, h1_165, h2_165, gt_165, pt_165, gt_156_45, pt_156_45, gt_156_44, pt_156_44, gt_156_47, pt_156_47, gt_156_35, pt_156_35, gt_156_36, h1_174, h2_174, gt_174, pt_174, gt_156_46, pt_156_46, gt_156_37, h1_175, h2_175, gt_175, pt_175, gt_156_40, h1_177, h2_177, gt_177, pt_177, gt_156_49, pt_156_49, gt_156_50, pt_156_50, gt_156_48, h1_181, h2_181, gt_181, pt_181, gt_156_41, h1_178, h2_178, gt_178, pt_178, ne_eq, not_false_eq_true, not_true_eq_false, true_and, and_true, true_or, or_true, eq_self, Option.toList_some, Option.toList_none, List.cons_append, List.nil_append, tc_0, tc_I, tc_L, tc_A, Nat.reduceAdd, Nat.reduceLeDiff, Nat.reduceEqDiff, Int.reduceEq, Int.reduceLT, Int.reduceLE, Int.reduceNeg, Int.reduceToNat, Int.cast_ofNat_Int, if_true, if_false, and_self, or_self, ite_self, bI_0, bI_1, bI_01, Bool.false_eq_true, reduceCtorEq, s_M_sortHere hR h5 h6 hi hlt, he, h5, h6, x1, x2, x3, x4, x6, wi]
      exact hQ2 _ hF1 e6 e7 (WM_m hW (by omega))
    · have hn := srt_name h
      have hb : 97 ≤ v ∧ v ≤ 122 := by unfold kName at h; simpa using h
      have he : eS T i = 1 := by unfold eS; rw [if_neg (by omega), hv]; exact hn.1
      have vN : (((v - 97).toNat : Nat) : Int) = v - 97 := by omega
      rw [hv, hn.2, ← vN] at x6
      obtain ⟨w1, w2, w3⟩ := hW
      have hpb := p2_31 (show (v - 97).toNat < 31 by omega)
      have e47 : (mset g 156 44 (i + 1)) 156 47 = (N : Int) := by rw [rd, if_neg (by omega)]; exact w1
      have e35 : ∀ z, (mset (mset g 156 44 (i + 1)) 156 47 z) 156 35 = (TH : Int) := fun z => by rw [rd, if_neg (by omega), rd, if_neg (by omega)]; exact hE.t
      have hbit : o32 (fun x y => x &&& y) (o32 (fun x y => x >>> (y &&& 31)) (TH : Int) ((v - 97).toNat : Int)) 1 = bB (TH.testBit (v - 97).toNat) := o32_bit (by have := hE.tl; omega) (by omega)
      have hen := hE.n (v - 97).toNat (by omega)
      have e : vL E (.inl v) = (match E.1 (((v - 97).toNat : Nat) : Int) with
        | none => .error 1
        | some u => .ok (u, [(-1, (((v - 97).toNat : Nat) : Int))])) := by
        unfold vL; dsimp only; rw [if_neg (by omega), vN]; cases E.1 (v - 97) <;> rfl
      have hQ2 : VM g N I f t (i + 1) Q (vL E (.inl v)) := hQ
      rw [e] at hQ2
      rcases hen with ⟨n1, n2⟩ | ⟨n1, n2⟩
      · rw [n2] at hQ2
        simp only [u_M_factor_0, u_M_factor_1, u_M_factor_4, u_M_factor_5, u_M_factor_6, u_M_factor_9, u_M_factor_12, u_M_factor_13, u_M_factor_16, u_M_factor_17, u_M_factor_18, u_M_factor_21, u_M_factor_22, u_M_factor_23, u_M_factor_24, u_M_factor_25, u_M_factor_26, u_M_factor_29, u_M_factor_30, u_M_factor_31, u_M_factor_34, u_M_factor_35, u_M_factor_36, u_M_factor_39, u_M_factor_40, u_M_factor_41, u_M_factor_42, u_M_factor_43, u_M_factor_44, u_M_factor_47, u_M_factor_48, u_M_factor_49, u_M_factor_52, u_M_factor_53, u_M_factor_54, u_M_factor_55, u_M_factor_56, u_M_factor_59, u_M_factor_60, u_M_factor_63, u_M_factor_64, u_M_factor_65, u_M_factor_66, u_M_factor_67, u_M_factor_68, u_M_factor_71, u_M_factor_72, u_M_factor_75, u_M_factor_76, u_M_factor_77, u_M_factor_78, u_M_factor_81, u_M_factor_82, u_M_factor_83, u_M_factor_86, u_M_factor_87, u_M_factor_88, u_M_factor_90, u_M_factor_93, u_M_factor_94, u_M_factor_97, u_M_factor_98, u_M_factor_99, u_M_factor_100, u_M_factor_101, u_M_factor_102, u_M_factor_103, u_M_factor_104, u_M_factor_107, u_M_factor_108, u_M_factor_109, u_M_factor_112, u_M_factor_113, u_M_factor_114, u_M_factor_117, u_M_factor_118, u_M_factor_121, u_M_factor_122, u_M_factor_123, u_M_factor_124, u_M_factor_127, u_M_factor_128, u_M_factor_129, u_M_factor_132, u_M_factor_133, u_M_factor_136, u_M_factor_139, u_M_factor_140, u_M_factor_141, u_M_factor_142, u_M_factor_145, u_M_factor_146, u_M_factor_147, u_M_factor_149, u_M_factor_151, u_M_factor_154, u_M_factor_155, u_M_factor_156, u_M_factor_159, u_M_factor_160, u_M_factor_161, u_M_factor_162, u_M_factor_163, u_M_factor_166, u_M_factor_167, u_M_factor_168, u_M_factor_171, u_M_factor_173, u_M_factor_174, u_M_factor_175, u_M_factor_176, u_M_factor_179, u_M_factor_180, u_M_factor_181, u_M_factor_184, u_M_factor_185, u_M_factor_187, u_M_factor_188, u_M_factor_191, u_M_factor_194, u_M_factor_195, u_M_factor_196, u_M_factor_199, u_M_factor_200, u_M_factor_201, u_M_factor_204, u_M_factor_205, u_M_factor_207, u_M_factor_210, u_M_factor_211, u_M_factor_212, u_M_factor_215, u_M_factor_217, u_M_factor_218, u_M_factor_219, u_M_factor_220, u_M_factor_221, u_M_factor_222, u_M_factor_223, u_M_factor_224, u_M_factor_225, u_M_factor_226, u_M_factor_229, u_M_factor_231, u_M_factor_233, u_M_factor_234, u_M_factor_235, u_M_factor_236, u_M_factor_237, u_M_factor_238, u_M_factor_239, u_M_factor_240, u_M_factor_242, u_M_factor_245, u_M_factor_246, u_M_factor_249, u_M_factor_250, u_M_factor_253, u_M_factor_256, u_M_factor_257, u_M_factor_260, u_M_factor_261, u_M_factor_262, u_M_factor_265, u_M_factor_266, u_M_factor_267, u_M_factor_268, u_M_factor_269, u_M_factor_270, u_M_factor_271, u_M_factor_274, u_M_factor_275, u_M_factor_276, u_M_factor_279, u_M_factor_280, u_M_factor_283, u_M_factor_284, u_M_factor_285, u_M_factor_288, u_M_factor_291, u_M_factor_292, u_M_factor_295, u_M_factor_296, u_M_factor_297, u_M_factor_298, u_M_factor_299, u_M_factor_300, u_M_factor_303, u_M_factor_304, u_M_factor_305, u_M_factor_308, u_M_factor_311, u_M_factor_312, u_M_factor_314, u_M_factor_317, u_M_factor_320, u_M_factor_321, u_M_factor_323, u_M_factor_326, u_M_factor_328, u_M_factor_329, u_M_factor_330, u_M_factor_333, u_M_factor_334, u_M_factor_335, u_M_factor_338, u_M_factor_339, u_M_factor_342, u_M_factor_344, u_M_factor_346, u_M_factor_349, u_M_factor_350, u_M_factor_352, u_M_factor_353, u_M_factor_356, u_M_factor_359, u_M_factor_360, u_M_factor_362, u_M_factor_363, u_M_factor_366, u_M_factor_367, u_M_factor_370, u_M_factor_371, u_M_factor_372, u_M_factor_373, u_M_factor_374, u_M_factor_377, u_M_factor_378, u_M_factor_379, u_M_factor_382, u_M_factor_383, h1_156, gt_156_26, h1_165, h2_165, gt_165, pt_165, gt_156_45, pt_156_45, gt_156_44, pt_156_44, gt_156_47, pt_156_47, gt_156_35, pt_156_35, gt_156_36, h1_174, h2_174, gt_174, pt_174, gt_156_46, pt_156_46, gt_156_37, h1_175, h2_175, gt_175, pt_175, gt_156_40, h1_177, h2_177, gt_177, pt_177, gt_156_49, pt_156_49, gt_156_50, pt_156_50, gt_156_48, h1_181, h2_181, gt_181, pt_181, gt_156_41, h1_178, h2_178, gt_178, pt_178, ne_eq, not_false_eq_true, not_true_eq_false, true_and, and_true, true_or, or_true, eq_self, Option.toList_some, Option.toList_none, List.cons_append, List.nil_append, tc_0, tc_I, tc_L, tc_A, Nat.reduceAdd, Nat.reduceLeDiff, Nat.reduceEqDiff, Int.reduceEq, Int.reduceLT, Int.reduceLE, Int.reduceNeg, Int.reduceToNat, Int.cast_ofNat_Int, if_true, if_false, and_self, or_self, ite_self, bI_0, bI_1, bI_01, Bool.false_eq_true, reduceCtorEq, s_M_sortHere hR h5 h6 hi hlt, he, h5, h6, x1, x2, x3, x4, x6, wi, e47, o32_shl1 (show (v - 97).toNat < 31 by omega), o32_or (show N < 2147483648 by omega) hpb, e35, hbit, n1, bB_f, s_M_refuse]
        refine hQ2 _ _ ?_ ?_ ?_
        · exact FM_tr (FM_m (j := 44) (by omega)) (FM_tr (FM_m (j := 47) (by omega)) (FM_m (j := 46) (by omega)))
        · rw [rd, if_pos (by simp)]
        · omega
      · rw [n2] at hQ2
        have e174 : ∀ z, (mset (mset g 156 44 (i + 1)) 156 47 z) 174 (v - 97).toNat = g 174 (v - 97).toNat := fun z => by rw [rd, if_neg (by omega), rd, if_neg (by omega)]
        simp only [u_M_factor_0, u_M_factor_1, u_M_factor_4, u_M_factor_5, u_M_factor_6, u_M_factor_9, u_M_factor_12, u_M_factor_13, u_M_factor_16, u_M_factor_17, u_M_factor_18, u_M_factor_21, u_M_factor_22, u_M_factor_23, u_M_factor_24, u_M_factor_25, u_M_factor_26, u_M_factor_29, u_M_factor_30, u_M_factor_31, u_M_factor_34, u_M_factor_35, u_M_factor_36, u_M_factor_39, u_M_factor_40, u_M_factor_41, u_M_factor_42, u_M_factor_43, u_M_factor_44, u_M_factor_47, u_M_factor_48, u_M_factor_49, u_M_factor_52, u_M_factor_53, u_M_factor_54, u_M_factor_55, u_M_factor_56, u_M_factor_59, u_M_factor_60, u_M_factor_63, u_M_factor_64, u_M_factor_65, u_M_factor_66, u_M_factor_67, u_M_factor_68, u_M_factor_71, u_M_factor_72, u_M_factor_75, u_M_factor_76, u_M_factor_77, u_M_factor_78, u_M_factor_81, u_M_factor_82, u_M_factor_83, u_M_factor_86, u_M_factor_87, u_M_factor_88, u_M_factor_90, u_M_factor_93, u_M_factor_94, u_M_factor_97, u_M_factor_98, u_M_factor_99, u_M_factor_100, u_M_factor_101, u_M_factor_102, u_M_factor_103, u_M_factor_104, u_M_factor_107, u_M_factor_108, u_M_factor_109, u_M_factor_112, u_M_factor_113, u_M_factor_114, u_M_factor_117, u_M_factor_118, u_M_factor_121, u_M_factor_122, u_M_factor_123, u_M_factor_124, u_M_factor_127, u_M_factor_128, u_M_factor_129, u_M_factor_132, u_M_factor_133, u_M_factor_136, u_M_factor_139, u_M_factor_140, u_M_factor_141, u_M_factor_142, u_M_factor_145, u_M_factor_146, u_M_factor_147, u_M_factor_149, u_M_factor_151, u_M_factor_154, u_M_factor_155, u_M_factor_156, u_M_factor_159, u_M_factor_160, u_M_factor_161, u_M_factor_162, u_M_factor_163, u_M_factor_166, u_M_factor_167, u_M_factor_168, u_M_factor_171, u_M_factor_173, u_M_factor_174, u_M_factor_175, u_M_factor_176, u_M_factor_179, u_M_factor_180, u_M_factor_181, u_M_factor_184, u_M_factor_185, u_M_factor_187, u_M_factor_188, u_M_factor_191, u_M_factor_194, u_M_factor_195, u_M_factor_196, u_M_factor_199, u_M_factor_200, u_M_factor_201, u_M_factor_204, u_M_factor_205, u_M_factor_207, u_M_factor_210, u_M_factor_211, u_M_factor_212, u_M_factor_215, u_M_factor_217, u_M_factor_218, u_M_factor_219, u_M_factor_220, u_M_factor_221, u_M_factor_222, u_M_factor_223, u_M_factor_224, u_M_factor_225, u_M_factor_226, u_M_factor_229, u_M_factor_231, u_M_factor_233, u_M_factor_234, u_M_factor_235, u_M_factor_236, u_M_factor_237, u_M_factor_238, u_M_factor_239, u_M_factor_240, u_M_factor_242, u_M_factor_245, u_M_factor_246, u_M_factor_249, u_M_factor_250, u_M_factor_253, u_M_factor_256, u_M_factor_257, u_M_factor_260, u_M_factor_261, u_M_factor_262, u_M_factor_265, u_M_factor_266, u_M_factor_267, u_M_factor_268, u_M_factor_269, u_M_factor_270, u_M_factor_271, u_M_factor_274, u_M_factor_275, u_M_factor_276, u_M_factor_279, u_M_factor_280, u_M_factor_283, u_M_factor_284, u_M_factor_285, u_M_factor_288, u_M_factor_291, u_M_factor_292, u_M_factor_295, u_M_factor_296, u_M_factor_297, u_M_factor_298, u_M_factor_299, u_M_factor_300, u_M_factor_303, u_M_factor_304, u_M_factor_305, u_M_factor_308, u_M_factor_311, u_M_factor_312, u_M_factor_314, u_M_factor_317, u_M_factor_320, u_M_factor_321, u_M_factor_323, u_M_factor_326, u_M_factor_328, u_M_factor_329, u_M_factor_330, u_M_factor_333, u_M_factor_334, u_M_factor_335, u_M_factor_338, u_M_factor_339, u_M_factor_342, u_M_factor_344, u_M_factor_346, u_M_factor_349, u_M_factor_350, u_M_factor_352, u_M_factor_353, u_M_factor_356, u_M_factor_359, u_M_factor_360, u_M_factor_362, u_M_factor_363, u_M_factor_366, u_M_factor_367, u_M_factor_370, u_M_factor_371, u_M_factor_372, u_M_factor_373, u_M_factor_374, u_M_factor_377, u_M_factor_378, u_M_factor_379, u_M_factor_382, u_M_factor_383, h1_156, gt_156_26, h1_165, h2_165, gt_165, pt_165, gt_156_45, pt_156_45, gt_156_44, pt_156_44, gt_156_47, pt_156_47, gt_156_35, pt_156_35, gt_156_36, h1_174, h2_174, gt_174, pt_174, gt_156_46, pt_156_46, gt_156_37, h1_175, h2_175, gt_175, pt_175, gt_156_40, h1_177, h2_177, gt_177, pt_177, gt_156_49, pt_156_49, gt_156_50, pt_156_50, gt_156_48, h1_181, h2_181, gt_181, pt_181, gt_156_41, h1_178, h2_178, gt_178, pt_178, ne_eq, not_false_eq_true, not_true_eq_false, true_and, and_true, true_or, or_true, eq_self, Option.toList_some, Option.toList_none, List.cons_append, List.nil_append, tc_0, tc_I, tc_L, tc_A, Nat.reduceAdd, Nat.reduceLeDiff, Nat.reduceEqDiff, Int.reduceEq, Int.reduceLT, Int.reduceLE, Int.reduceNeg, Int.reduceToNat, Int.cast_ofNat_Int, if_true, if_false, and_self, or_self, ite_self, bI_0, bI_1, bI_01, Bool.false_eq_true, reduceCtorEq, s_M_sortHere hR h5 h6 hi hlt, he, h5, h6, x1, x2, x3, x4, x6, wi, e47, o32_shl1 (show (v - 97).toNat < 31 by omega), o32_or (show N < 2147483648 by omega) hpb, e35, hbit, n1, bB_t, show 0 ≤ ((v - 97).toNat : Int) by omega, show ((v - 97).toNat : Int) < 26 by omega, Int.toNat_natCast, e174]
        refine hQ2 _ ?_ ?_ ?_ ⟨?_, ?_, fun q hq => ?_⟩
        · exact FM_tr (FM_m (j := 44) (by omega)) (FM_m (j := 47) (by omega))
        · rw [rd, if_neg (by omega), rd, if_pos (by simp)]
        · rw [rd, if_neg (by omega), rd, if_neg (by omega)]; exact h7
        · rw [rd, if_pos (by simp)]; simp only [snN, List.foldl_cons, List.foldl_nil, if_true, Int.toNat_natCast]
        · simp only [snN, List.foldl_cons, List.foldl_nil, if_true, Int.toNat_natCast]; exact seen_1 w2 (by omega)
        · rw [rd, if_neg (by omega), rd, if_neg (by omega)]; exact w3 q hq
  | .inr rr, hx, hs, hQ =>
    obtain ⟨hv, hs⟩ := seg_hd hs
    obtain ⟨hv2, hs'⟩ := seg_hd hs
    have hj := seg_len hs
    simp at hj
    subst hj
    have hb : 65 ≤ rr ∧ rr ≤ 70 := by have : kRow rr = true := hx; unfold kRow at this; simpa using this
    have hlt := T_in hR (show ¬ T i = 0 by omega)
    have hlt1 := T_in hR (show ¬ T (i + 1) = 0 by omega)
    have wi : w32 (i + 1) = i + 1 := w32_id (by omega) (by omega)
    have wi2 : w32 (i + 1 + 1) = i + 1 + 1 := w32_id (by omega) (by omega)
    obtain ⟨x1, x2, x3, x4, x5, x6⟩ := hR.ix hi hlt
    obtain ⟨_, y2, y3, y4, y5, y6⟩ := hR.ix (show 0 ≤ i + 1 by omega) hlt1
    have he : eS T i = 7 := by unfold eS; rw [if_neg (by omega), hv]; decide
    have hw : whc (T i) = 35 := by rw [hv]; decide
    rw [hw] at x6
    have rN : (((rr - 65).toNat : Nat) : Int) = rr - 65 := by omega
    have hw2 : whc (T (i + 1)) = ((rr - 65).toNat : Int) := by rw [(eS_row (T := T) (x := i + 1) (by rw [hv2]; exact hx)).2, hv2, rN]
    rw [hw2] at y6
    have y6' : (mset g 156 44 (i + 1)) 165 (1600 * (r : Int) + (i + 1)).toNat = ((rr - 65).toNat : Int) := by rw [rd, if_neg (by omega)]; exact y6
    have e175 : (mset g 156 44 (i + 1)) 175 (rr - 65).toNat = g 175 (rr - 65).toNat := by rw [rd, if_neg (by omega)]
    have hQ2 : VM g N I f t (i + 1 + 1) Q (match E.2.1 (rr - 65) with
        | none => .error 2
        | some n => .ok (n, [])) := by
      have e : vL E (.inr rr) = (match E.2.1 (rr - 65) with
        | none => .error 2
        | some n => .ok (n, [])) := by unfold vL; dsimp only; cases E.2.1 (rr - 65) <;> rfl
      rw [← e]; exact hQ
    have q := hE.r (rr - 65).toNat (by omega)
    rw [rN] at q
    rcases q with ⟨n1, n2⟩ | ⟨n1, n3, n2⟩
    · rw [n2] at hQ2
      simp only [u_M_factor_0, u_M_factor_1, u_M_factor_4, u_M_factor_5, u_M_factor_6, u_M_factor_9, u_M_factor_12, u_M_factor_13, u_M_factor_16, u_M_factor_17, u_M_factor_18, u_M_factor_21, u_M_factor_22, u_M_factor_23, u_M_factor_24, u_M_factor_25, u_M_factor_26, u_M_factor_29, u_M_factor_30, u_M_factor_31, u_M_factor_34, u_M_factor_35, u_M_factor_36, u_M_factor_39, u_M_factor_40, u_M_factor_41, u_M_factor_42, u_M_factor_43, u_M_factor_44, u_M_factor_47, u_M_factor_48, u_M_factor_49, u_M_factor_52, u_M_factor_53, u_M_factor_54, u_M_factor_55, u_M_factor_56, u_M_factor_59, u_M_factor_60, u_M_factor_63, u_M_factor_64, u_M_factor_65, u_M_factor_66, u_M_factor_67, u_M_factor_68, u_M_factor_71, u_M_factor_72, u_M_factor_75, u_M_factor_76, u_M_factor_77, u_M_factor_78, u_M_factor_81, u_M_factor_82, u_M_factor_83, u_M_factor_86, u_M_factor_87, u_M_factor_88, u_M_factor_90, u_M_factor_93, u_M_factor_94, u_M_factor_97, u_M_factor_98, u_M_factor_99, u_M_factor_100, u_M_factor_101, u_M_factor_102, u_M_factor_103, u_M_factor_104, u_M_factor_107, u_M_factor_108, u_M_factor_109, u_M_factor_112, u_M_factor_113, u_M_factor_114, u_M_factor_117, u_M_factor_118, u_M_factor_121, u_M_factor_122, u_M_factor_123, u_M_factor_124, u_M_factor_127, u_M_factor_128, u_M_factor_129, u_M_factor_132, u_M_factor_133, u_M_factor_136, u_M_factor_139, u_M_factor_140, u_M_factor_141, u_M_factor_142, u_M_factor_145, u_M_factor_146, u_M_factor_147, u_M_factor_149, u_M_factor_151, u_M_factor_154, u_M_factor_155, u_M_factor_156, u_M_factor_159, u_M_factor_160, u_M_factor_161, u_M_factor_162, u_M_factor_163, u_M_factor_166, u_M_factor_167, u_M_factor_168, u_M_factor_171, u_M_factor_173, u_M_factor_174, u_M_factor_175, u_M_factor_176, u_M_factor_179, u_M_factor_180, u_M_factor_181, u_M_factor_184, u_M_factor_185, u_M_factor_187, u_M_factor_188, u_M_factor_191, u_M_factor_194, u_M_factor_195, u_M_factor_196, u_M_factor_199, u_M_factor_200, u_M_factor_201, u_M_factor_204, u_M_factor_205, u_M_factor_207, u_M_factor_210, u_M_factor_211, u_M_factor_212, u_M_factor_215, u_M_factor_217, u_M_factor_218, u_M_factor_219, u_M_factor_220, u_M_factor_221, u_M_factor_222, u_M_factor_223, u_M_factor_224, u_M_factor_225, u_M_factor_226, u_M_factor_229, u_M_factor_231, u_M_factor_233, u_M_factor_234, u_M_factor_235, u_M_factor_236, u_M_factor_237, u_M_factor_238, u_M_factor_239, u_M_factor_240, u_M_factor_242, u_M_factor_245, u_M_factor_246, u_M_factor_249, u_M_factor_250, u_M_factor_253, u_M_factor_256, u_M_factor_257, u_M_factor_260, u_M_factor_261, u_M_factor_262, u_M_factor_265, u_M_factor_266, u_M_factor_267, u_M_factor_268, u_M_factor_269, u_M_factor_270, u_M_factor_271, u_M_factor_274, u_M_factor_275, u_M_factor_276, u_M_factor_279, u_M_factor_280, u_M_factor_283, u_M_factor_284, u_M_factor_285, u_M_factor_288, u_M_factor_291, u_M_factor_292, u_M_factor_295, u_M_factor_296, u_M_factor_297, u_M_factor_298, u_M_factor_299, u_M_factor_300, u_M_factor_303, u_M_factor_304, u_M_factor_305, u_M_factor_308, u_M_factor_311, u_M_factor_312, u_M_factor_314, u_M_factor_317, u_M_factor_320, u_M_factor_321, u_M_factor_323, u_M_factor_326, u_M_factor_328, u_M_factor_329, u_M_factor_330, u_M_factor_333, u_M_factor_334, u_M_factor_335, u_M_factor_338, u_M_factor_339, u_M_factor_342, u_M_factor_344, u_M_factor_346, u_M_factor_349, u_M_factor_350, u_M_factor_352, u_M_factor_353, u_M_factor_356, u_M_factor_359, u_M_factor_360, u_M_factor_362, u_M_factor_363, u_M_factor_366, u_M_factor_367, u_M_factor_370, u_M_factor_371, u_M_factor_372, u_M_factor_373, u_M_factor_374, u_M_factor_377, u_M_factor_378, u_M_factor_379, u_M_factor_382, u_M_factor_383, h1_156, gt_156_26, h1_165, h2_165, gt_165, pt_165, gt_156_45, pt_156_45, gt_156_44, pt_156_44, gt_156_47, pt_156_47, gt_156_35, pt_156_35, gt_156_36, h1_174, h2_174, gt_174, pt_174, gt_156_46, pt_156_46, gt_156_37, h1_175, h2_175, gt_175, pt_175, gt_156_40, h1_177, h2_177, gt_177, pt_177, gt_156_49, pt_156_49, gt_156_50, pt_156_50, gt_156_48, h1_181, h2_181, gt_181, pt_181, gt_156_41, h1_178, h2_178, gt_178, pt_178, ne_eq, not_false_eq_true, not_true_eq_false, true_and, and_true, true_or, or_true, eq_self, Option.toList_some, Option.toList_none, List.cons_append, List.nil_append, tc_0, tc_I, tc_L, tc_A, Nat.reduceAdd, Nat.reduceLeDiff, Nat.reduceEqDiff, Int.reduceEq, Int.reduceLT, Int.reduceLE, Int.reduceNeg, Int.reduceToNat, Int.cast_ofNat_Int, if_true, if_false, and_self, or_self, ite_self, bI_0, bI_1, bI_01, Bool.false_eq_true, reduceCtorEq, s_M_sortHere hR h5 h6 hi hlt, he, h5, h6, x1, x2, x3, x4, x6, wi, e5, e6, y2, y3, y4, y6', show 0 ≤ ((rr - 65).toNat : Int) by omega, show ((rr - 65).toNat : Int) < 14 by omega, Int.toNat_natCast, e175, n1, wi2, s_M_refuse]
      refine hQ2 _ _ ?_ ?_ ?_
      · exact FM_tr (FM_m (j := 44) (by omega)) (FM_tr (FM_m (j := 44) (by omega)) (FM_m (j := 46) (by omega)))
      · rw [rd, if_pos (by simp)]
      · omega
    · rw [n2] at hQ2
      have e177 : (mset (mset g 156 44 (i + 1)) 156 44 (i + 1 + 1)) 177 (g 175 (rr - 65).toNat).toNat = g 177 (g 175 (rr - 65).toNat).toNat := by rw [rd, if_neg (by omega), rd, if_neg (by omega)]
      simp only [u_M_factor_0, u_M_factor_1, u_M_factor_4, u_M_factor_5, u_M_factor_6, u_M_factor_9, u_M_factor_12, u_M_factor_13, u_M_factor_16, u_M_factor_17, u_M_factor_18, u_M_factor_21, u_M_factor_22, u_M_factor_23, u_M_factor_24, u_M_factor_25, u_M_factor_26, u_M_factor_29, u_M_factor_30, u_M_factor_31, u_M_factor_34, u_M_factor_35, u_M_factor_36, u_M_factor_39, u_M_factor_40, u_M_factor_41, u_M_factor_42, u_M_factor_43, u_M_factor_44, u_M_factor_47, u_M_factor_48, u_M_factor_49, u_M_factor_52, u_M_factor_53, u_M_factor_54, u_M_factor_55, u_M_factor_56, u_M_factor_59, u_M_factor_60, u_M_factor_63, u_M_factor_64, u_M_factor_65, u_M_factor_66, u_M_factor_67, u_M_factor_68, u_M_factor_71, u_M_factor_72, u_M_factor_75, u_M_factor_76, u_M_factor_77, u_M_factor_78, u_M_factor_81, u_M_factor_82, u_M_factor_83, u_M_factor_86, u_M_factor_87, u_M_factor_88, u_M_factor_90, u_M_factor_93, u_M_factor_94, u_M_factor_97, u_M_factor_98, u_M_factor_99, u_M_factor_100, u_M_factor_101, u_M_factor_102, u_M_factor_103, u_M_factor_104, u_M_factor_107, u_M_factor_108, u_M_factor_109, u_M_factor_112, u_M_factor_113, u_M_factor_114, u_M_factor_117, u_M_factor_118, u_M_factor_121, u_M_factor_122, u_M_factor_123, u_M_factor_124, u_M_factor_127, u_M_factor_128, u_M_factor_129, u_M_factor_132, u_M_factor_133, u_M_factor_136, u_M_factor_139, u_M_factor_140, u_M_factor_141, u_M_factor_142, u_M_factor_145, u_M_factor_146, u_M_factor_147, u_M_factor_149, u_M_factor_151, u_M_factor_154, u_M_factor_155, u_M_factor_156, u_M_factor_159, u_M_factor_160, u_M_factor_161, u_M_factor_162, u_M_factor_163, u_M_factor_166, u_M_factor_167, u_M_factor_168, u_M_factor_171, u_M_factor_173, u_M_factor_174, u_M_factor_175, u_M_factor_176, u_M_factor_179, u_M_factor_180, u_M_factor_181, u_M_factor_184, u_M_factor_185, u_M_factor_187, u_M_factor_188, u_M_factor_191, u_M_factor_194, u_M_factor_195, u_M_factor_196, u_M_factor_199, u_M_factor_200, u_M_factor_201, u_M_factor_204, u_M_factor_205, u_M_factor_207, u_M_factor_210, u_M_factor_211, u_M_factor_212, u_M_factor_215, u_M_factor_217, u_M_factor_218, u_M_factor_219, u_M_factor_220, u_M_factor_221, u_M_factor_222, u_M_factor_223, u_M_factor_224, u_M_factor_225, u_M_factor_226, u_M_factor_229, u_M_factor_231, u_M_factor_233, u_M_factor_234, u_M_factor_235, u_M_factor_236, u_M_factor_237, u_M_factor_238, u_M_factor_239, u_M_factor_240, u_M_factor_242, u_M_factor_245, u_M_factor_246, u_M_factor_249, u_M_factor_250, u_M_factor_253, u_M_factor_256, u_M_factor_257, u_M_factor_260, u_M_factor_261, u_M_factor_262, u_M_factor_265, u_M_factor_266, u_M_factor_267, u_M_factor_268, u_M_factor_269, u_M_factor_270, u_M_factor_271, u_M_factor_274, u_M_factor_275, u_M_factor_276, u_M_factor_279, u_M_factor_280, u_M_factor_283, u_M_factor_284, u_M_factor_285, u_M_factor_288, u_M_factor_291, u_M_factor_292, u_M_factor_295, u_M_factor_296, u_M_factor_297, u_M_factor_298, u_M_factor_299, u_M_factor_300, u_M_factor_303, u_M_factor_304, u_M_factor_305, u_M_factor_308, u_M_factor_311, u_M_factor_312, u_M_factor_314, u_M_factor_317, u_M_factor_320, u_M_factor_321, u_M_factor_323, u_M_factor_326, u_M_factor_328, u_M_factor_329, u_M_factor_330, u_M_factor_333, u_M_factor_334, u_M_factor_335, u_M_factor_338, u_M_factor_339, u_M_factor_342, u_M_factor_344, u_M_factor_346, u_M_factor_349, u_M_factor_350, u_M_factor_352, u_M_factor_353, u_M_factor_356, u_M_factor_359, u_M_factor_360, u_M_factor_362, u_M_factor_363, u_M_factor_366, u_M_factor_367, u_M_factor_370, u_M_factor_371, u_M_factor_372, u_M_factor_373, u_M_factor_374, u_M_factor_377, u_M_factor_378, u_M_factor_379, u_M_factor_382, u_M_factor_383, h1_156, gt_156_26, h1_165, h2_165, gt_165, pt_165, gt_156_45, pt_156_45, gt_156_44, pt_156_44, gt_156_47, pt_156_47, gt_156_35, pt_156_35, gt_156_36, h1_174, h2_174, gt_174, pt_174, gt_156_46, pt_156_46, gt_156_37, h1_175, h2_175, gt_175, pt_175, gt_156_40, h1_177, h2_177, gt_177, pt_177, gt_156_49, pt_156_49, gt_156_50, pt_156_50, gt_156_48, h1_181, h2_181, gt_181, pt_181, gt_156_41, h1_178, h2_178, gt_178, pt_178, ne_eq, not_false_eq_true, not_true_eq_false, true_and, and_true, true_or, or_true, eq_self, Option.toList_some, Option.toList_none, List.cons_append, List.nil_append, tc_0, tc_I, tc_L, tc_A, Nat.reduceAdd, Nat.reduceLeDiff, Nat.reduceEqDiff, Int.reduceEq, Int.reduceLT, Int.reduceLE, Int.reduceNeg, Int.reduceToNat, Int.cast_ofNat_Int, if_true, if_false, and_self, or_self, ite_self, bI_0, bI_1, bI_01, Bool.false_eq_true, reduceCtorEq, s_M_sortHere hR h5 h6 hi hlt, he, h5, h6, x1, x2, x3, x4, x6, wi, e5, e6, y2, y3, y4, y6', show 0 ≤ ((rr - 65).toNat : Int) by omega, show ((rr - 65).toNat : Int) < 14 by omega, Int.toNat_natCast, e175, n1, show g 175 (rr - 65).toNat < 16 by omega, wi2, e177]
      refine hQ2 _ ?_ ?_ ?_ (WM_m (WM_m hW (by omega)) (by omega))
      · exact FM_tr (FM_m (j := 44) (by omega)) (FM_m (j := 44) (by omega))
      · rw [rd, if_pos (by simp)]
      · rw [rd, if_neg (by omega)]; exact e7
theorem p_M_factor : ∀ (b D : Nat), 3 * b + 3 ≤ D → ∀ x : FF b, wF b x → VMs L D r f t T len m_M_factor [none, none, none, none, none, none, none] (kF b x) (fun E => vF E b x) (fun _ => True) := by
  intro b
  induction b with
  | zero =>
    intro D hD x hx
    obtain ⟨d, rfl⟩ : ∃ d, D = d + 1 := ⟨D - 1, by omega⟩
    exact p_M_leaf x hx
  | succ b ih =>
    intro D hD x hx
    obtain ⟨d, rfl⟩ : ∃ d, D = d + 4 := ⟨D - 4, by omega⟩
    match x, hx with
    | .inl x, hx => exact p_M_leaf x hx
    | .inr y, hx =>
      have hsum : ∀ x : Exq (FF b), wE (wF b) x → VMs L (d + 3) r f t T len m_M_sum [none, none, none, none, none] (kE (kF b) x) (fun E => vE (vF E b) x) (fun v => kSum v = false ∧ kPro v = false) := p_M_sum (kF_z b) (ih (d + 1) (by omega))
      intro g E TH N I i j Q hR hE hW h5 h6 h7 hi hK hs _ hQ
      have hl1 := hR.l1
      have hF1 : FM g (mset g 156 44 (i + 1)) := FM_m (by omega)
      have e5 : (mset g 156 44 (i + 1)) 156 45 = (r : Int) := by rw [rd, if_neg (by omega)]; exact h5
      have e6 : (mset g 156 44 (i + 1)) 156 44 = i + 1 := by rw [rd, if_pos (by simp)]
      have e7 : (mset g 156 44 (i + 1)) 156 46 = 0 := by rw [rd, if_neg (by omega)]; exact h7
      match y, hx, hs, hQ with
      | .inl x, hx, hs, hQ =>
        obtain ⟨hv, hs⟩ := seg_hd hs
        have hlt := T_in hR (show ¬ T i = 0 by omega)
        have wi : w32 (i + 1) = i + 1 := w32_id (by omega) (by omega)
        obtain ⟨x1, x2, x3, x4, x5, x6⟩ := hR.ix hi hlt
        have he : eS T i = 8 := by unfold eS; rw [if_pos ⟨hv, hK⟩]
        have hw : whc (T i) = 45 := by rw [hv]; decide
        rw [hw] at x6
        rw [u_M_factor_0]
        simp only [u_M_factor_1, u_M_factor_4, u_M_factor_5, u_M_factor_6, u_M_factor_9, u_M_factor_12, u_M_factor_13, u_M_factor_16, u_M_factor_17, u_M_factor_18, u_M_factor_21, u_M_factor_22, u_M_factor_23, u_M_factor_24, u_M_factor_25, u_M_factor_26, u_M_factor_29, u_M_factor_30, u_M_factor_31, u_M_factor_34, u_M_factor_35, u_M_factor_36, u_M_factor_39, u_M_factor_40, u_M_factor_41, u_M_factor_42, u_M_factor_43, u_M_factor_44, u_M_factor_47, u_M_factor_48, u_M_factor_49, u_M_factor_52, u_M_factor_53, u_M_factor_54, u_M_factor_55, u_M_factor_56, u_M_factor_59, u_M_factor_60, u_M_factor_63, u_M_factor_64, u_M_factor_65, u_M_factor_66, u_M_factor_67, u_M_factor_68, u_M_factor_71, u_M_factor_72, u_M_factor_75, u_M_factor_76, u_M_factor_77, u_M_factor_78, u_M_factor_81, u_M_factor_82, u_M_factor_83, u_M_factor_86, u_M_factor_87, u_M_factor_88, u_M_factor_90, u_M_factor_93, u_M_factor_94, h1_156, gt_156_26, gt_156_45, gt_156_44, pt_156_44, h1_165, h2_165, gt_165, pt_165, ne_eq, not_false_eq_true, not_true_eq_false, true_and, and_true, true_or, or_true, eq_self, Option.toList_some, Option.toList_none, List.cons_append, List.nil_append, tc_0, tc_I, tc_L, tc_A, Nat.reduceAdd, Nat.reduceLeDiff, Nat.reduceEqDiff, Int.reduceEq, Int.reduceLT, Int.reduceLE, Int.reduceNeg, Int.reduceToNat, Int.cast_ofNat_Int, if_true, if_false, and_self, or_self, ite_self, bI_0, bI_1, bI_01, Bool.false_eq_true, reduceCtorEq, s_M_sortHere hR h5 h6 hi hlt, he, h5, h6, x1, x2, x3, x4, x6, wi]
        refine ih (d + 3) (by omega) x hx _ E TH N I (i + 1) j _ (RT_FM hR hF1) (EnM_FM hE hF1) (WM_m hW (by omega)) e5 e6 e7 (by omega) (by rw [show i + 1 - 1 = i by omega, hv]; decide) hs trivial ?_
        have hQ2 : VM (mset g 156 44 (i + 1)) N I f t j Q (match vF E b x with
          | .error e => .error e
          | .ok (v, q) => .ok (w64 (-v), q)) := VM_FM hF1 hQ
        show VM _ _ _ _ _ _ _ (vF E b x)
        cases hv2 : vF E b x with
        | error w => rw [hv2] at hQ2; intro g' u a1 a2 a3; simp only [u_M_factor_97, u_M_factor_98, u_M_factor_99, u_M_factor_100, u_M_factor_101, ne_eq, not_false_eq_true, not_true_eq_false, true_and, and_true, true_or, or_true, eq_self, Option.toList_some, Option.toList_none, List.cons_append, List.nil_append, tc_0, tc_I, tc_L, tc_A, Nat.reduceAdd, Nat.reduceLeDiff, Nat.reduceEqDiff, Int.reduceEq, Int.reduceLT, Int.reduceLE, Int.reduceNeg, Int.reduceToNat, Int.cast_ofNat_Int, if_true, if_false, and_self, or_self, ite_self, bI_0, bI_1, bI_01, Bool.false_eq_true, reduceCtorEq]; exact hQ2 g' _ a1 a2 a3
        | ok z =>
          obtain ⟨v, q⟩ := z
          rw [hv2] at hQ2
          intro g' a1 a2 a3 a4
          simp only [u_M_factor_97, u_M_factor_98, u_M_factor_99, u_M_factor_100, u_M_factor_101, ne_eq, not_false_eq_true, not_true_eq_false, true_and, and_true, true_or, or_true, eq_self, Option.toList_some, Option.toList_none, List.cons_append, List.nil_append, tc_0, tc_I, tc_L, tc_A, Nat.reduceAdd, Nat.reduceLeDiff, Nat.reduceEqDiff, Int.reduceEq, Int.reduceLT, Int.reduceLE, Int.reduceNeg, Int.reduceToNat, Int.cast_ofNat_Int, if_true, if_false, and_self, or_self, ite_self, bI_0, bI_1, bI_01, Bool.false_eq_true, reduceCtorEq]
          rw [show (0 : Int) - v = -v by omega]
          exact hQ2 g' a1 a2 a3 a4
      | .inr (.inl (rr, e)), hx, hs, hQ =>
        obtain ⟨hv, hs⟩ := seg_hd hs
        obtain ⟨h91, hs⟩ := seg_hd hs
        obtain ⟨hs1, hs2⟩ := seg_split hs
        obtain ⟨h93, hs3⟩ := seg_hd hs2
        have hjl := seg_len hs3
        simp at hjl
        have hb : 65 ≤ rr ∧ rr ≤ 70 := by have := hx.1; unfold kRow at this; simpa using this
        have hlt := T_in hR (show ¬ T i = 0 by omega)
        have hlt2 := T_in hR (show ¬ T (i + 1 + 1 + ((kE (kF b) e).length : Int)) = 0 by omega)
        have wi : w32 (i + 1) = i + 1 := w32_id (by omega) (by omega)
        have wi2 : w32 (i + 1 + 1) = i + 1 + 1 := w32_id (by omega) (by omega)
        have wj : w32 (i + 1 + 1 + ((kE (kF b) e).length : Int) + 1) = j := by rw [w32_id (by omega) (by omega)]; omega
        obtain ⟨x1, x2, x3, x4, x5, x6⟩ := hR.ix hi hlt
        have hrr := eS_row (T := T) (x := i) (by rw [hv]; exact hx.1)
        have rN : (((rr - 65).toNat : Nat) : Int) = rr - 65 := by omega
        rw [hrr.2, hv, ← rN] at x6
        have hF2 : FM g (mset (mset g 156 44 (i + 1)) 156 44 (i + 1 + 1)) := FM_tr hF1 (FM_m (by omega))
        simp only [u_M_factor_0, u_M_factor_1, u_M_factor_4, u_M_factor_5, u_M_factor_6, u_M_factor_9, u_M_factor_12, u_M_factor_13, u_M_factor_16, u_M_factor_17, u_M_factor_18, u_M_factor_21, u_M_factor_22, u_M_factor_23, u_M_factor_24, u_M_factor_25, u_M_factor_26, u_M_factor_29, u_M_factor_30, u_M_factor_31, u_M_factor_34, u_M_factor_35, u_M_factor_36, u_M_factor_39, u_M_factor_40, u_M_factor_41, u_M_factor_42, u_M_factor_43, u_M_factor_44, u_M_factor_47, u_M_factor_48, u_M_factor_49, u_M_factor_52, u_M_factor_53, u_M_factor_54, u_M_factor_55, u_M_factor_56, u_M_factor_59, u_M_factor_60, u_M_factor_63, u_M_factor_64, u_M_factor_65, u_M_factor_66, u_M_factor_67, u_M_factor_68, u_M_factor_71, u_M_factor_72, u_M_factor_75, u_M_factor_76, u_M_factor_77, u_M_factor_78, u_M_factor_81, u_M_factor_82, u_M_factor_83, u_M_factor_86, u_M_factor_87, u_M_factor_88, u_M_factor_90, u_M_factor_93, u_M_factor_94, u_M_factor_97, u_M_factor_98, u_M_factor_99, u_M_factor_100, u_M_factor_101, u_M_factor_102, u_M_factor_103, u_M_factor_104, u_M_factor_107, u_M_factor_108, u_M_factor_109, u_M_factor_112, u_M_factor_113, u_M_factor_114, u_M_factor_117, u_M_factor_118, h1_156, gt_156_26, gt_156_45, gt_156_44, pt_156_44, h1_165, h2_165, gt_165, pt_165, ne_eq, not_false_eq_true, not_true_eq_false, true_and, and_true, true_or, or_true, eq_self, Option.toList_some, Option.toList_none, List.cons_append, List.nil_append, tc_0, tc_I, tc_L, tc_A, Nat.reduceAdd, Nat.reduceLeDiff, Nat.reduceEqDiff, Int.reduceEq, Int.reduceLT, Int.reduceLE, Int.reduceNeg, Int.reduceToNat, Int.cast_ofNat_Int, if_true, if_false, and_self, or_self, ite_self, bI_0, bI_1, bI_01, Bool.false_eq_true, reduceCtorEq, s_M_sortHere hR h5 h6 hi hlt, hrr.1, h5, h6, x1, x2, x3, x4, x6, wi, e6, wi2]
        refine hsum e hx.2 _ E TH N I (i + 1 + 1) _ _ (RT_FM hR hF2) (EnM_FM hE hF2) (WM_m (WM_m hW (by omega)) (by omega)) (by rw [rd, if_neg (by omega)]; exact e5) (by rw [rd, if_pos (by simp)]) (by rw [rd, if_neg (by omega)]; exact e7) (by omega) (by rw [show i + 1 + 1 - 1 = i + 1 by omega, h91]; decide) hs1 (by rw [h93]; decide) ?_
        have hQ2 : VM g N I f t j Q (match vI E (rr - 65) (vE (vF E b) e) with
          | .error e => .error e
          | .ok (i, q) => if E.2.2.2 (rr - 65) i = true then .error 6 else .ok (E.2.2.1 (rr - 65) i, q ++ [(rr - 65, i)])) := hQ
        rw [vI_1] at hQ2
        show VM _ _ _ _ _ _ _ (vE (vF E b) e)
        cases hv2 : vE (vF E b) e with
        | error w =>
          rw [hv2] at hQ2
          intro g1 u a1 a2 a3
          have b7 : (mset g1 156 44 (w32 (g1 156 44 + 1))) 156 46 = w := by rw [rd, if_neg (by omega)]; exact a2
          simp only [u_M_factor_121, u_M_factor_122, u_M_factor_123, u_M_factor_124, u_M_factor_127, u_M_factor_128, u_M_factor_129, u_M_factor_132, u_M_factor_133, u_M_factor_136, u_M_factor_139, u_M_factor_140, h1_156, gt_156_44, pt_156_44, gt_156_46, ne_eq, not_false_eq_true, not_true_eq_false, true_and, and_true, true_or, or_true, eq_self, Option.toList_some, Option.toList_none, List.cons_append, List.nil_append, tc_0, tc_I, tc_L, tc_A, Nat.reduceAdd, Nat.reduceLeDiff, Nat.reduceEqDiff, Int.reduceEq, Int.reduceLT, Int.reduceLE, Int.reduceNeg, Int.reduceToNat, Int.cast_ofNat_Int, if_true, if_false, and_self, or_self, ite_self, bI_0, bI_1, bI_01, Bool.false_eq_true, reduceCtorEq, b7, a3]
          exact hQ2 _ _ (FM_tr hF2 (FM_tr a1 (FM_m (by omega)))) b7 a3
        | ok z =>
          obtain ⟨u, q⟩ := z
          rw [hv2] at hQ2
          dsimp only at hQ2
          intro g1 a1 a2 a3 a4
          have c1 : FM g (mset g1 156 44 j) := FM_tr hF2 (FM_tr a1 (FM_m (by omega)))
          have c7 : (mset g1 156 44 j) 156 46 = 0 := by rw [rd, if_neg (by omega)]; exact a3
          have c6 : (mset g1 156 44 j) 156 44 = j := by rw [rd, if_pos (by simp)]
          rw [hlm_FM hF2] at a4
          have c4 : WM (mset g1 156 44 j) (snN N q) (snI (hlm g) I q) := WM_m a4 (by omega)
          have c175 : (mset g1 156 44 j) 175 (rr - 65).toNat = g 175 (rr - 65).toNat := c1 175 _ (by omega)
          have hr' := hE.r (rr - 65).toNat (by omega)
          rw [rN] at hr'
          generalize hG : mset g1 156 44 j = G at c1 c7 c6 c4 c175
          have step : VV L (d + 4) m_M_factor 121 [some (tA 156), some (tI 3), some (tI ((rr - 65).toNat : Int)), none, none, none, none, none] [tL u] (WW f t g1) Q = VV L (d + 4) m_M_factor 149 [some (tA 156), some (tI 3), some (tI ((rr - 65).toNat : Int)), some (tL u), none, some (tI (g 175 (rr - 65).toNat)), none, none] [] (WW f t G) Q := by
            rw [← hG] at c175 c7 ⊢
            simp only [u_M_factor_121, u_M_factor_122, u_M_factor_123, u_M_factor_124, u_M_factor_127, u_M_factor_128, u_M_factor_129, u_M_factor_132, u_M_factor_133, u_M_factor_136, u_M_factor_139, u_M_factor_140, u_M_factor_141, u_M_factor_142, u_M_factor_145, u_M_factor_146, u_M_factor_147, h1_156, gt_156_44, pt_156_44, gt_156_46, gt_156_37, h1_175, h2_175, gt_175, pt_175, ne_eq, not_false_eq_true, not_true_eq_false, true_and, and_true, true_or, or_true, eq_self, Option.toList_some, Option.toList_none, List.cons_append, List.nil_append, tc_0, tc_I, tc_L, tc_A, Nat.reduceAdd, Nat.reduceLeDiff, Nat.reduceEqDiff, Int.reduceEq, Int.reduceLT, Int.reduceLE, Int.reduceNeg, Int.reduceToNat, Int.cast_ofNat_Int, if_true, if_false, and_self, or_self, ite_self, bI_0, bI_1, bI_01, Bool.false_eq_true, reduceCtorEq, a2, wj, c7, show 0 ≤ ((rr - 65).toNat : Int) by omega, show ((rr - 65).toNat : Int) < 14 by omega, Int.toNat_natCast, c175]
          refine Eq.mpr step ?_
          rcases hr' with ⟨n1, n2⟩ | ⟨n1, n3, n2⟩
          · rw [n2] at hQ2
            simp only [u_M_factor_149, u_M_factor_151, u_M_factor_154, u_M_factor_155, u_M_factor_156, u_M_factor_159, h1_156, ne_eq, not_false_eq_true, not_true_eq_false, true_and, and_true, true_or, or_true, eq_self, Option.toList_some, Option.toList_none, List.cons_append, List.nil_append, tc_0, tc_I, tc_L, tc_A, Nat.reduceAdd, Nat.reduceLeDiff, Nat.reduceEqDiff, Int.reduceEq, Int.reduceLT, Int.reduceLE, Int.reduceNeg, Int.reduceToNat, Int.cast_ofNat_Int, if_true, if_false, and_self, or_self, ite_self, bI_0, bI_1, bI_01, Bool.false_eq_true, reduceCtorEq, n1, s_M_refuse]
            exact hQ2 _ _ (FM_tr c1 (FM_m (by omega))) (by rw [rd, if_pos (by simp)]) (by omega)
          · rw [n2] at hQ2
            dsimp only at hQ2
            have hc := hE.c (g 175 (rr - 65).toNat).toNat (by omega)
            have c177 : G 177 (g 175 (rr - 65).toNat).toNat = g 177 (g 175 (rr - 65).toNat).toNat := c1 177 _ (by omega)
            by_cases hu0 : u < 0
            · rw [if_pos (Or.inl hu0)] at hQ2
              simp only [u_M_factor_149, u_M_factor_151, u_M_factor_154, u_M_factor_155, u_M_factor_156, u_M_factor_159, u_M_factor_160, u_M_factor_161, u_M_factor_162, u_M_factor_163, u_M_factor_166, u_M_factor_167, u_M_factor_168, u_M_factor_171, u_M_factor_173, u_M_factor_174, u_M_factor_175, u_M_factor_176, u_M_factor_179, u_M_factor_180, u_M_factor_181, u_M_factor_184, h1_156, ne_eq, not_false_eq_true, not_true_eq_false, true_and, and_true, true_or, or_true, eq_self, Option.toList_some, Option.toList_none, List.cons_append, List.nil_append, tc_0, tc_I, tc_L, tc_A, Nat.reduceAdd, Nat.reduceLeDiff, Nat.reduceEqDiff, Int.reduceEq, Int.reduceLT, Int.reduceLE, Int.reduceNeg, Int.reduceToNat, Int.cast_ofNat_Int, if_true, if_false, and_self, or_self, ite_self, bI_0, bI_1, bI_01, Bool.false_eq_true, reduceCtorEq, n1, lc_lt, hu0, s_M_refuse]
              exact hQ2 _ _ (FM_tr c1 (FM_m (by omega))) (by rw [rd, if_pos (by simp)]) (by omega)
            · by_cases hu1 : u < g 177 (g 175 (rr - 65).toNat).toNat
              · rw [if_neg (by omega)] at hQ2
                dsimp only at hQ2
                have hbb := hE.b (rr - 65).toNat u.toNat (by omega) n1 (by omega)
                have uN : ((u.toNat : Nat) : Int) = u := by omega
                rw [rN, uN] at hbb
                have c49 : G 156 49 = g 156 49 := c1 156 49 (by omega)
                have c50 : G 156 50 = g 156 50 := c1 156 50 (by omega)
                have wu : w32 u = u := w32_id (by omega) (by omega)
                obtain ⟨s1, s2, s3⟩ := c4
                have hI := s3 (g 175 (rr - 65).toNat).toNat (by omega)
                have hp := p2_31 (show u.toNat < 31 by omega)
                have hor : o32 (fun x y => x ||| y) (G 181 (g 175 (rr - 65).toNat).toNat) (o32 (fun x y => x <<< (y &&& 31)) 1 u) = ((snI (hlm g) I q (g 175 (rr - 65).toNat).toNat ||| 2 ^ u.toNat : Nat) : Int) := by
                  rw [hI.1, ← uN, o32_shl1 (show u.toNat < 31 by omega), o32_or (show snI (hlm g) I q (g 175 (rr - 65).toNat).toNat < 2147483648 by omega) hp, uN]
                have w12 : w32 (12 * g 175 (rr - 65).toNat) = 12 * g 175 (rr - 65).toNat := w32_id (by omega) (by omega)
                have w12u : w32 (12 * g 175 (rr - 65).toNat + u) = 12 * g 175 (rr - 65).toNat + u := w32_id (by omega) (by omega)
                have hit := hE.i (rr - 65).toNat u.toNat (by omega) n1 (by omega)
                rw [rN, uN] at hit
                have ix : (12 * g 175 (rr - 65).toNat + u).toNat = 12 * (g 175 (rr - 65).toNat).toNat + u.toNat := by omega
                have hend : ¬ E.2.2.2 (rr - 65) u = true → VV L (d + 4) m_M_factor 211 [some (tA 156), some (tI 3), some (tI ((rr - 65).toNat : Int)), some (tL u), none, some (tI (g 175 (rr - 65).toNat)), none, none] [] (WW f t G) Q := by
                  intro hbar
                  rw [if_neg hbar] at hQ2
                  have c178 : ∀ z, (mset G 181 (g 175 (rr - 65).toNat).toNat z) 178 (12 * (g 175 (rr - 65).toNat).toNat + u.toNat) = E.2.2.1 (rr - 65) u := fun z => by rw [rd, if_neg (by omega), c1 178 _ (by omega), hit]
                  simp only [u_M_factor_211, u_M_factor_212, u_M_factor_215, u_M_factor_217, u_M_factor_218, u_M_factor_219, u_M_factor_220, u_M_factor_221, u_M_factor_222, u_M_factor_223, u_M_factor_224, u_M_factor_225, u_M_factor_226, u_M_factor_229, u_M_factor_231, u_M_factor_233, u_M_factor_234, u_M_factor_235, u_M_factor_236, u_M_factor_237, u_M_factor_238, h1_156, gt_156_48, gt_156_41, h1_181, h2_181, gt_181, pt_181, h1_178, h2_178, gt_178, pt_178, ne_eq, not_false_eq_true, not_true_eq_false, true_and, and_true, true_or, or_true, eq_self, Option.toList_some, Option.toList_none, List.cons_append, List.nil_append, tc_0, tc_I, tc_L, tc_A, Nat.reduceAdd, Nat.reduceLeDiff, Nat.reduceEqDiff, Int.reduceEq, Int.reduceLT, Int.reduceLE, Int.reduceNeg, Int.reduceToNat, Int.cast_ofNat_Int, if_true, if_false, and_self, or_self, ite_self, bI_0, bI_1, bI_01, Bool.false_eq_true, reduceCtorEq, n1, show g 175 (rr - 65).toNat < 16 by omega, wu, hor, w12, w12u, show 0 ≤ 12 * g 175 (rr - 65).toNat + u by omega, show 12 * g 175 (rr - 65).toNat + u < 192 by omega, ix, c178]
                  refine hQ2 _ ?_ ?_ ?_ ?_
                  · exact FM_tr c1 (fun b j hh => by rw [rd, if_neg (by omega)])
                  · rw [rd, if_neg (by omega)]; exact c6
                  · rw [rd, if_neg (by omega)]; exact c7
                  · have eN : snN N (q ++ [(rr - 65, u)]) = snN N q := by
                      rw [snN_app]
                      conv => lhs; unfold snN
                      simp only [List.foldl_cons, List.foldl_nil]
                      rw [if_neg (by omega)]
                      rfl
                    have eI : snI (hlm g) I (q ++ [(rr - 65, u)]) = fun k : Nat => if (k : Int) = g 175 (rr - 65).toNat then snI (hlm g) I q k ||| 2 ^ u.toNat else snI (hlm g) I q k := by
                      rw [snI_app]
                      conv => lhs; unfold snI
                      simp only [List.foldl_cons, List.foldl_nil]
                      rw [if_neg (by omega)]
                      rfl
                    rw [eN, eI]
                    refine ⟨by rw [rd, if_neg (by omega)]; exact s1, s2, fun k hk' => ?_⟩
                    dsimp only
                    by_cases e : (k : Int) = g 175 (rr - 65).toNat
                    · have ek : k = (g 175 (rr - 65).toNat).toNat := by omega
                      subst ek
                      rw [rd, if_pos (by simp), if_pos e]
                      exact ⟨rfl, seen_2 hI.2 (by omega)⟩
                    · rw [rd, if_neg (by omega), if_neg e]; exact s3 k hk'
                have h185 : VV L (d + 4) m_M_factor 149 [some (tA 156), some (tI 3), some (tI ((rr - 65).toNat : Int)), some (tL u), none, some (tI (g 175 (rr - 65).toNat)), none, none] [] (WW f t G) Q = VV L (d + 4) m_M_factor 185 [some (tA 156), some (tI 3), some (tI ((rr - 65).toNat : Int)), some (tL u), none, some (tI (g 175 (rr - 65).toNat)), none, none] [] (WW f t G) Q := by
                  simp only [u_M_factor_149, u_M_factor_151, u_M_factor_154, u_M_factor_155, u_M_factor_156, u_M_factor_159, u_M_factor_160, u_M_factor_161, u_M_factor_162, u_M_factor_163, u_M_factor_166, u_M_factor_167, u_M_factor_168, u_M_factor_171, u_M_factor_173, u_M_factor_174, u_M_factor_175, u_M_factor_176, h1_156, gt_156_40, h1_177, h2_177, gt_177, pt_177, ne_eq, not_false_eq_true, not_true_eq_false, true_and, and_true, true_or, or_true, eq_self, Option.toList_some, Option.toList_none, List.cons_append, List.nil_append, tc_0, tc_I, tc_L, tc_A, Nat.reduceAdd, Nat.reduceLeDiff, Nat.reduceEqDiff, Int.reduceEq, Int.reduceLT, Int.reduceLE, Int.reduceNeg, Int.reduceToNat, Int.cast_ofNat_Int, if_true, if_false, and_self, or_self, ite_self, bI_0, bI_1, bI_01, Bool.false_eq_true, reduceCtorEq, n1, lc_lt, hu0, show g 175 (rr - 65).toNat < 16 by omega, c177, hu1]
                rw [h185]
                by_cases k1 : g 175 (rr - 65).toNat = g 156 49
                · by_cases k2 : u = g 156 50
                  · have hbar : E.2.2.2 (rr - 65) u = true := by rw [hbb]; simp [k1, k2]
                    rw [if_pos hbar] at hQ2
                    simp only [u_M_factor_185, u_M_factor_187, u_M_factor_188, u_M_factor_191, u_M_factor_194, u_M_factor_195, u_M_factor_196, u_M_factor_199, u_M_factor_200, u_M_factor_201, u_M_factor_204, u_M_factor_205, u_M_factor_207, u_M_factor_210, h1_156, gt_156_49, gt_156_50, ne_eq, not_false_eq_true, not_true_eq_false, true_and, and_true, true_or, or_true, eq_self, Option.toList_some, Option.toList_none, List.cons_append, List.nil_append, tc_0, tc_I, tc_L, tc_A, Nat.reduceAdd, Nat.reduceLeDiff, Nat.reduceEqDiff, Int.reduceEq, Int.reduceLT, Int.reduceLE, Int.reduceNeg, Int.reduceToNat, Int.cast_ofNat_Int, if_true, if_false, and_self, or_self, ite_self, bI_0, bI_1, bI_01, Bool.false_eq_true, reduceCtorEq, c49, c50, ← k1, lc_eq, ← k2, s_M_refuse]
                    exact hQ2 _ _ (FM_tr c1 (FM_m (by omega))) (by rw [rd, if_pos (by simp)]) (by omega)
                  · have hbar : ¬ E.2.2.2 (rr - 65) u = true := by rw [hbb]; simp; intro _ hh; exact k2 hh.symm
                    simp only [u_M_factor_185, u_M_factor_187, u_M_factor_188, u_M_factor_191, u_M_factor_194, u_M_factor_195, u_M_factor_196, u_M_factor_199, u_M_factor_200, u_M_factor_201, h1_156, gt_156_49, gt_156_50, ne_eq, not_false_eq_true, not_true_eq_false, true_and, and_true, true_or, or_true, eq_self, Option.toList_some, Option.toList_none, List.cons_append, List.nil_append, tc_0, tc_I, tc_L, tc_A, Nat.reduceAdd, Nat.reduceLeDiff, Nat.reduceEqDiff, Int.reduceEq, Int.reduceLT, Int.reduceLE, Int.reduceNeg, Int.reduceToNat, Int.cast_ofNat_Int, if_true, if_false, and_self, or_self, ite_self, bI_0, bI_1, bI_01, Bool.false_eq_true, reduceCtorEq, c49, c50, ← k1, lc_eq, k2]
                    exact hend hbar
                · have hbar : ¬ E.2.2.2 (rr - 65) u = true := by rw [hbb]; simp; intro hh; exact absurd hh.symm k1
                  simp only [u_M_factor_185, u_M_factor_187, u_M_factor_188, u_M_factor_191, h1_156, gt_156_49, ne_eq, not_false_eq_true, not_true_eq_false, true_and, and_true, true_or, or_true, eq_self, Option.toList_some, Option.toList_none, List.cons_append, List.nil_append, tc_0, tc_I, tc_L, tc_A, Nat.reduceAdd, Nat.reduceLeDiff, Nat.reduceEqDiff, Int.reduceEq, Int.reduceLT, Int.reduceLE, Int.reduceNeg, Int.reduceToNat, Int.cast_ofNat_Int, if_true, if_false, and_self, or_self, ite_self, bI_0, bI_1, bI_01, Bool.false_eq_true, reduceCtorEq, c49, k1]
                  exact hend hbar
              · rw [if_pos (Or.inr (by omega))] at hQ2
                simp only [u_M_factor_149, u_M_factor_151, u_M_factor_154, u_M_factor_155, u_M_factor_156, u_M_factor_159, u_M_factor_160, u_M_factor_161, u_M_factor_162, u_M_factor_163, u_M_factor_166, u_M_factor_167, u_M_factor_168, u_M_factor_171, u_M_factor_173, u_M_factor_174, u_M_factor_175, u_M_factor_176, u_M_factor_179, u_M_factor_180, u_M_factor_181, u_M_factor_184, h1_156, gt_156_40, h1_177, h2_177, gt_177, pt_177, ne_eq, not_false_eq_true, not_true_eq_false, true_and, and_true, true_or, or_true, eq_self, Option.toList_some, Option.toList_none, List.cons_append, List.nil_append, tc_0, tc_I, tc_L, tc_A, Nat.reduceAdd, Nat.reduceLeDiff, Nat.reduceEqDiff, Int.reduceEq, Int.reduceLT, Int.reduceLE, Int.reduceNeg, Int.reduceToNat, Int.cast_ofNat_Int, if_true, if_false, and_self, or_self, ite_self, bI_0, bI_1, bI_01, Bool.false_eq_true, reduceCtorEq, n1, lc_lt, hu0, show g 175 (rr - 65).toNat < 16 by omega, c177, hu1, s_M_refuse]
                exact hQ2 _ _ (FM_tr c1 (FM_m (by omega))) (by rw [rd, if_pos (by simp)]) (by omega)
      | .inr (.inr (.inl e)), hx, hs, hQ =>
        obtain ⟨hv, hs⟩ := seg_hd hs
        obtain ⟨hs1, hs2⟩ := seg_split hs
        obtain ⟨h41, hs3⟩ := seg_hd hs2
        have hjl := seg_len hs3
        simp at hjl
        have hlt := T_in hR (show ¬ T i = 0 by omega)
        have hlt2 := T_in hR (show ¬ T (i + 1 + ((kE (kF b) e).length : Int)) = 0 by omega)
        have wi : w32 (i + 1) = i + 1 := w32_id (by omega) (by omega)
        have wj : w32 (i + 1 + ((kE (kF b) e).length : Int) + 1) = j := by rw [w32_id (by omega) (by omega)]; omega
        obtain ⟨x1, x2, x3, x4, x5, x6⟩ := hR.ix hi hlt
        have he : eS T i = 7 := by unfold eS; rw [if_neg (by omega), hv]; decide
        have hw : whc (T i) = 40 := by rw [hv]; decide
        rw [hw] at x6
        simp only [u_M_factor_0, u_M_factor_1, u_M_factor_4, u_M_factor_5, u_M_factor_6, u_M_factor_9, u_M_factor_12, u_M_factor_13, u_M_factor_16, u_M_factor_17, u_M_factor_18, u_M_factor_21, u_M_factor_22, u_M_factor_23, u_M_factor_24, u_M_factor_25, u_M_factor_26, u_M_factor_29, u_M_factor_30, u_M_factor_31, u_M_factor_34, u_M_factor_35, u_M_factor_36, u_M_factor_39, u_M_factor_40, u_M_factor_41, u_M_factor_42, u_M_factor_43, u_M_factor_44, u_M_factor_47, u_M_factor_48, u_M_factor_49, u_M_factor_52, u_M_factor_53, u_M_factor_54, u_M_factor_55, u_M_factor_56, u_M_factor_59, u_M_factor_60, u_M_factor_63, u_M_factor_64, u_M_factor_65, u_M_factor_66, u_M_factor_67, u_M_factor_68, u_M_factor_71, u_M_factor_72, u_M_factor_75, u_M_factor_76, u_M_factor_77, u_M_factor_78, u_M_factor_81, u_M_factor_82, u_M_factor_83, u_M_factor_86, u_M_factor_87, u_M_factor_88, u_M_factor_90, u_M_factor_93, u_M_factor_94, u_M_factor_97, u_M_factor_98, u_M_factor_99, u_M_factor_100, u_M_factor_101, u_M_factor_102, u_M_factor_103, u_M_factor_104, u_M_factor_107, u_M_factor_108, u_M_factor_109, u_M_factor_112, u_M_factor_113, u_M_factor_114, u_M_factor_117, u_M_factor_118, u_M_factor_121, u_M_factor_122, u_M_factor_123, u_M_factor_124, u_M_factor_127, u_M_factor_128, u_M_factor_129, u_M_factor_132, u_M_factor_133, u_M_factor_136, u_M_factor_139, u_M_factor_140, u_M_factor_141, u_M_factor_142, u_M_factor_145, u_M_factor_146, u_M_factor_147, u_M_factor_149, u_M_factor_151, u_M_factor_154, u_M_factor_155, u_M_factor_156, u_M_factor_159, u_M_factor_160, u_M_factor_161, u_M_factor_162, u_M_factor_163, u_M_factor_166, u_M_factor_167, u_M_factor_168, u_M_factor_171, u_M_factor_173, u_M_factor_174, u_M_factor_175, u_M_factor_176, u_M_factor_179, u_M_factor_180, u_M_factor_181, u_M_factor_184, u_M_factor_185, u_M_factor_187, u_M_factor_188, u_M_factor_191, u_M_factor_194, u_M_factor_195, u_M_factor_196, u_M_factor_199, u_M_factor_200, u_M_factor_201, u_M_factor_204, u_M_factor_205, u_M_factor_207, u_M_factor_210, u_M_factor_211, u_M_factor_212, u_M_factor_215, u_M_factor_217, u_M_factor_218, u_M_factor_219, u_M_factor_220, u_M_factor_221, u_M_factor_222, u_M_factor_223, u_M_factor_224, u_M_factor_225, u_M_factor_226, u_M_factor_229, u_M_factor_231, u_M_factor_233, u_M_factor_234, u_M_factor_235, u_M_factor_236, u_M_factor_237, u_M_factor_238, u_M_factor_239, u_M_factor_240, u_M_factor_242, u_M_factor_245, u_M_factor_246, u_M_factor_249, u_M_factor_250, u_M_factor_253, u_M_factor_256, u_M_factor_257, u_M_factor_260, u_M_factor_261, u_M_factor_262, u_M_factor_265, u_M_factor_266, u_M_factor_267, u_M_factor_268, u_M_factor_269, u_M_factor_270, u_M_factor_271, u_M_factor_274, u_M_factor_275, u_M_factor_276, u_M_factor_279, u_M_factor_280, u_M_factor_283, u_M_factor_284, u_M_factor_285, u_M_factor_288, u_M_factor_291, u_M_factor_292, u_M_factor_295, u_M_factor_296, u_M_factor_297, u_M_factor_298, u_M_factor_299, u_M_factor_300, h1_156, gt_156_26, gt_156_45, gt_156_44, pt_156_44, h1_165, h2_165, gt_165, pt_165, ne_eq, not_false_eq_true, not_true_eq_false, true_and, and_true, true_or, or_true, eq_self, Option.toList_some, Option.toList_none, List.cons_append, List.nil_append, tc_0, tc_I, tc_L, tc_A, Nat.reduceAdd, Nat.reduceLeDiff, Nat.reduceEqDiff, Int.reduceEq, Int.reduceLT, Int.reduceLE, Int.reduceNeg, Int.reduceToNat, Int.cast_ofNat_Int, if_true, if_false, and_self, or_self, ite_self, bI_0, bI_1, bI_01, Bool.false_eq_true, reduceCtorEq, s_M_sortHere hR h5 h6 hi hlt, he, h5, h6, x1, x2, x3, x4, x6, wi]
        refine hsum e hx _ E TH N I (i + 1) _ _ (RT_FM hR hF1) (EnM_FM hE hF1) (WM_m hW (by omega)) e5 e6 e7 (by omega) (by rw [show i + 1 - 1 = i by omega, hv]; decide) hs1 (by rw [h41]; decide) ?_
        have hQ2 : VM g N I f t j Q (vE (vF E b) e) := hQ
        show VM _ _ _ _ _ _ _ (vE (vF E b) e)
        cases hv2 : vE (vF E b) e with
        | error w =>
          rw [hv2] at hQ2
          intro g1 u a1 a2 a3
          simp only [u_M_factor_303, u_M_factor_304, u_M_factor_305, u_M_factor_308, u_M_factor_372, u_M_factor_373, u_M_factor_374, u_M_factor_377, u_M_factor_378, u_M_factor_379, u_M_factor_382, u_M_factor_383, h1_156, gt_156_44, pt_156_44, gt_156_46, ne_eq, not_false_eq_true, not_true_eq_false, true_and, and_true, true_or, or_true, eq_self, Option.toList_some, Option.toList_none, List.cons_append, List.nil_append, tc_0, tc_I, tc_L, tc_A, Nat.reduceAdd, Nat.reduceLeDiff, Nat.reduceEqDiff, Int.reduceEq, Int.reduceLT, Int.reduceLE, Int.reduceNeg, Int.reduceToNat, Int.cast_ofNat_Int, if_true, if_false, and_self, or_self, ite_self, bI_0, bI_1, bI_01, Bool.false_eq_true, reduceCtorEq, a2, a3]
          exact hQ2 _ _ (FM_tr hF1 (FM_tr a1 (FM_m (by omega)))) (by rw [rd, if_neg (by omega)]; exact a2) a3
        | ok z =>
          obtain ⟨u, q⟩ := z
          rw [hv2] at hQ2
          intro g1 a1 a2 a3 a4
          rw [hlm_FM hF1] at a4
          have hR1 : RT g1 r T len := RT_FM hR (FM_tr hF1 a1)
          have f5 : g1 156 45 = (r : Int) := by rw [a1 156 45 (by omega)]; exact e5
          simp only [u_M_factor_303, u_M_factor_304, u_M_factor_305, u_M_factor_308, u_M_factor_311, u_M_factor_312, u_M_factor_314, u_M_factor_317, u_M_factor_372, u_M_factor_373, u_M_factor_374, u_M_factor_377, u_M_factor_378, u_M_factor_379, u_M_factor_382, u_M_factor_383, h1_156, gt_156_44, pt_156_44, gt_156_46, ne_eq, not_false_eq_true, not_true_eq_false, true_and, and_true, true_or, or_true, eq_self, Option.toList_some, Option.toList_none, List.cons_append, List.nil_append, tc_0, tc_I, tc_L, tc_A, Nat.reduceAdd, Nat.reduceLeDiff, Nat.reduceEqDiff, Int.reduceEq, Int.reduceLT, Int.reduceLE, Int.reduceNeg, Int.reduceToNat, Int.cast_ofNat_Int, if_true, if_false, and_self, or_self, ite_self, bI_0, bI_1, bI_01, Bool.false_eq_true, reduceCtorEq, a3, s_M_isHere hR1 f5 a2 (show 0 ≤ i + 1 + ((kE (kF b) e).length : Int) by omega) (show sgn 41 = true by decide) (show ¬ (41 : Int) = 45 by omega) (show ¬ (41 : Int) = 0 by omega), h41, decide_true, bB_t, a2, wj]
          exact hQ2 _ (FM_tr hF1 (FM_tr a1 (FM_m (by omega)))) (by rw [rd, if_pos (by simp)]) (by rw [rd, if_neg (by omega)]; exact a3) (WM_m a4 (by omega))
      | .inr (.inr (.inr (c, e1, e2))), hx, hs, hQ =>
        obtain ⟨hv, hs⟩ := seg_hd hs
        obtain ⟨hs1, hs2⟩ := seg_split hs
        obtain ⟨hcc, hs3⟩ := seg_hd hs2
        obtain ⟨hs4, hs5⟩ := seg_split hs3
        obtain ⟨h41, hs6⟩ := seg_hd hs5
        have hjl := seg_len hs6
        simp at hjl
        have hc : c = 60 ∨ c = 61 := hx.1
        have hlt := T_in hR (show ¬ T i = 0 by omega)
        generalize hA : i + 1 + ((kE (kF b) e1).length : Int) = A at *
        generalize hB : A + 1 + ((kE (kF b) e2).length : Int) = B at *
        have hltA := T_in hR (show ¬ T A = 0 by omega)
        have hltB := T_in hR (show ¬ T B = 0 by omega)
        have wi : w32 (i + 1) = i + 1 := w32_id (by omega) (by omega)
        have wA : w32 (A + 1) = A + 1 := w32_id (by omega) (by omega)
        have wB : w32 (B + 1) = j := by rw [w32_id (by omega) (by omega)]; omega
        obtain ⟨x1, x2, x3, x4, x5, x6⟩ := hR.ix hi hlt
        have he : eS T i = 7 := by unfold eS; rw [if_neg (by omega), hv]; decide
        have hw : whc (T i) = 40 := by rw [hv]; decide
        rw [hw] at x6
        simp only [u_M_factor_0, u_M_factor_1, u_M_factor_4, u_M_factor_5, u_M_factor_6, u_M_factor_9, u_M_factor_12, u_M_factor_13, u_M_factor_16, u_M_factor_17, u_M_factor_18, u_M_factor_21, u_M_factor_22, u_M_factor_23, u_M_factor_24, u_M_factor_25, u_M_factor_26, u_M_factor_29, u_M_factor_30, u_M_factor_31, u_M_factor_34, u_M_factor_35, u_M_factor_36, u_M_factor_39, u_M_factor_40, u_M_factor_41, u_M_factor_42, u_M_factor_43, u_M_factor_44, u_M_factor_47, u_M_factor_48, u_M_factor_49, u_M_factor_52, u_M_factor_53, u_M_factor_54, u_M_factor_55, u_M_factor_56, u_M_factor_59, u_M_factor_60, u_M_factor_63, u_M_factor_64, u_M_factor_65, u_M_factor_66, u_M_factor_67, u_M_factor_68, u_M_factor_71, u_M_factor_72, u_M_factor_75, u_M_factor_76, u_M_factor_77, u_M_factor_78, u_M_factor_81, u_M_factor_82, u_M_factor_83, u_M_factor_86, u_M_factor_87, u_M_factor_88, u_M_factor_90, u_M_factor_93, u_M_factor_94, u_M_factor_97, u_M_factor_98, u_M_factor_99, u_M_factor_100, u_M_factor_101, u_M_factor_102, u_M_factor_103, u_M_factor_104, u_M_factor_107, u_M_factor_108, u_M_factor_109, u_M_factor_112, u_M_factor_113, u_M_factor_114, u_M_factor_117, u_M_factor_118, u_M_factor_121, u_M_factor_122, u_M_factor_123, u_M_factor_124, u_M_factor_127, u_M_factor_128, u_M_factor_129, u_M_factor_132, u_M_factor_133, u_M_factor_136, u_M_factor_139, u_M_factor_140, u_M_factor_141, u_M_factor_142, u_M_factor_145, u_M_factor_146, u_M_factor_147, u_M_factor_149, u_M_factor_151, u_M_factor_154, u_M_factor_155, u_M_factor_156, u_M_factor_159, u_M_factor_160, u_M_factor_161, u_M_factor_162, u_M_factor_163, u_M_factor_166, u_M_factor_167, u_M_factor_168, u_M_factor_171, u_M_factor_173, u_M_factor_174, u_M_factor_175, u_M_factor_176, u_M_factor_179, u_M_factor_180, u_M_factor_181, u_M_factor_184, u_M_factor_185, u_M_factor_187, u_M_factor_188, u_M_factor_191, u_M_factor_194, u_M_factor_195, u_M_factor_196, u_M_factor_199, u_M_factor_200, u_M_factor_201, u_M_factor_204, u_M_factor_205, u_M_factor_207, u_M_factor_210, u_M_factor_211, u_M_factor_212, u_M_factor_215, u_M_factor_217, u_M_factor_218, u_M_factor_219, u_M_factor_220, u_M_factor_221, u_M_factor_222, u_M_factor_223, u_M_factor_224, u_M_factor_225, u_M_factor_226, u_M_factor_229, u_M_factor_231, u_M_factor_233, u_M_factor_234, u_M_factor_235, u_M_factor_236, u_M_factor_237, u_M_factor_238, u_M_factor_239, u_M_factor_240, u_M_factor_242, u_M_factor_245, u_M_factor_246, u_M_factor_249, u_M_factor_250, u_M_factor_253, u_M_factor_256, u_M_factor_257, u_M_factor_260, u_M_factor_261, u_M_factor_262, u_M_factor_265, u_M_factor_266, u_M_factor_267, u_M_factor_268, u_M_factor_269, u_M_factor_270, u_M_factor_271, u_M_factor_274, u_M_factor_275, u_M_factor_276, u_M_factor_279, u_M_factor_280, u_M_factor_283, u_M_factor_284, u_M_factor_285, u_M_factor_288, u_M_factor_291, u_M_factor_292, u_M_factor_295, u_M_factor_296, u_M_factor_297, u_M_factor_298, u_M_factor_299, u_M_factor_300, h1_156, gt_156_26, gt_156_45, gt_156_44, pt_156_44, h1_165, h2_165, gt_165, pt_165, ne_eq, not_false_eq_true, not_true_eq_false, true_and, and_true, true_or, or_true, eq_self, Option.toList_some, Option.toList_none, List.cons_append, List.nil_append, tc_0, tc_I, tc_L, tc_A, Nat.reduceAdd, Nat.reduceLeDiff, Nat.reduceEqDiff, Int.reduceEq, Int.reduceLT, Int.reduceLE, Int.reduceNeg, Int.reduceToNat, Int.cast_ofNat_Int, if_true, if_false, and_self, or_self, ite_self, bI_0, bI_1, bI_01, Bool.false_eq_true, reduceCtorEq, s_M_sortHere hR h5 h6 hi hlt, he, h5, h6, x1, x2, x3, x4, x6, wi]
        refine hsum e1 hx.2.1 _ E TH N I (i + 1) A _ (RT_FM hR hF1) (EnM_FM hE hF1) (WM_m hW (by omega)) e5 e6 e7 (by omega) (by rw [show i + 1 - 1 = i by omega, hv]; decide) hs1 (by rw [hcc]; rcases hc with rfl | rfl <;> decide) ?_
        have hQ2 : VM g N I f t j Q (match vE (vF E b) e1 with
          | .error e => .error e
          | .ok (v, q) => match vE (vF E b) e2 with
            | .error e => .error e
            | .ok (u, q') => .ok (if c = 60 then bI (v < u) else bI (v = u), q ++ q')) := hQ
        show VM _ _ _ _ _ _ _ (vE (vF E b) e1)
        cases hv2 : vE (vF E b) e1 with
        | error w =>
          rw [hv2] at hQ2
          intro g1 u a1 a2 a3
          simp only [u_M_factor_303, u_M_factor_304, u_M_factor_305, u_M_factor_308, u_M_factor_372, u_M_factor_373, u_M_factor_374, u_M_factor_377, u_M_factor_378, u_M_factor_379, u_M_factor_382, u_M_factor_383, h1_156, gt_156_44, pt_156_44, gt_156_46, ne_eq, not_false_eq_true, not_true_eq_false, true_and, and_true, true_or, or_true, eq_self, Option.toList_some, Option.toList_none, List.cons_append, List.nil_append, tc_0, tc_I, tc_L, tc_A, Nat.reduceAdd, Nat.reduceLeDiff, Nat.reduceEqDiff, Int.reduceEq, Int.reduceLT, Int.reduceLE, Int.reduceNeg, Int.reduceToNat, Int.cast_ofNat_Int, if_true, if_false, and_self, or_self, ite_self, bI_0, bI_1, bI_01, Bool.false_eq_true, reduceCtorEq, a2, a3]
          exact hQ2 _ _ (FM_tr hF1 (FM_tr a1 (FM_m (by omega)))) (by rw [rd, if_neg (by omega)]; exact a2) a3
        | ok z =>
          obtain ⟨v, q⟩ := z
          rw [hv2] at hQ2
          dsimp only at hQ2
          intro g1 a1 a2 a3 a4
          rw [hlm_FM hF1] at a4
          have hf1 := FM_tr hF1 a1
          have hR1 : RT g1 r T len := RT_FM hR hf1
          have f5 : g1 156 45 = (r : Int) := by rw [a1 156 45 (by omega)]; exact e5
          have c1 : FM g (mset g1 156 44 (A + 1)) := FM_tr hf1 (FM_m (by omega))
          have c7 : (mset g1 156 44 (A + 1)) 156 46 = 0 := by rw [rd, if_neg (by omega)]; exact a3
          have dl : decide (T A = 60) = decide (c = 60) := by rw [hcc]
          have hn41 : ¬ T A = 41 := by omega
          simp only [u_M_factor_303, u_M_factor_304, u_M_factor_305, u_M_factor_308, u_M_factor_311, u_M_factor_312, u_M_factor_314, u_M_factor_317, u_M_factor_320, u_M_factor_321, u_M_factor_323, u_M_factor_326, u_M_factor_328, u_M_factor_329, u_M_factor_330, u_M_factor_333, u_M_factor_334, u_M_factor_335, u_M_factor_338, u_M_factor_339, h1_156, gt_156_44, pt_156_44, gt_156_46, ne_eq, not_false_eq_true, not_true_eq_false, true_and, and_true, true_or, or_true, eq_self, Option.toList_some, Option.toList_none, List.cons_append, List.nil_append, tc_0, tc_I, tc_L, tc_A, Nat.reduceAdd, Nat.reduceLeDiff, Nat.reduceEqDiff, Int.reduceEq, Int.reduceLT, Int.reduceLE, Int.reduceNeg, Int.reduceToNat, Int.cast_ofNat_Int, if_true, if_false, and_self, or_self, ite_self, bI_0, bI_1, bI_01, Bool.false_eq_true, reduceCtorEq, a3, s_M_isHere hR1 f5 a2 (show 0 ≤ A by omega) (show sgn 41 = true by decide) (show ¬ (41 : Int) = 45 by omega) (show ¬ (41 : Int) = 0 by omega), s_M_isHere hR1 f5 a2 (show 0 ≤ A by omega) (show sgn 60 = true by decide) (show ¬ (60 : Int) = 45 by omega) (show ¬ (60 : Int) = 0 by omega), hn41, decide_false, bB_f, dl, a2, wA]
          refine hsum e2 hx.2.2 _ E TH _ _ (A + 1) B _ (RT_FM hR c1) (EnM_FM hE c1) (WM_m a4 (by omega)) (by rw [rd, if_neg (by omega)]; exact f5) (by rw [rd, if_pos (by simp)]) c7 (by omega) (by rw [show A + 1 - 1 = A by omega, hcc]; rcases hc with rfl | rfl <;> decide) hs4 (by rw [h41]; decide) ?_
          show VM _ _ _ _ _ _ _ (vE (vF E b) e2)
          cases hv3 : vE (vF E b) e2 with
          | error w =>
            rw [hv3] at hQ2
            intro g2 u d1 d2 d3
            have fin : ∀ u', Q (some (tL u')) (WW f t (mset g2 156 44 (w32 (g2 156 44 + 1)))) := fun u' => hQ2 _ _ (FM_tr (FM_tr c1 d1) (FM_m (by omega))) (by rw [rd, if_neg (by omega)]; exact d2) d3
            rcases hc with hc | hc
            · by_cases hz : u ≤ v
              · simp only [u_M_factor_342, u_M_factor_344, u_M_factor_346, u_M_factor_349, u_M_factor_350, u_M_factor_352, u_M_factor_353, u_M_factor_356, u_M_factor_359, u_M_factor_360, u_M_factor_362, u_M_factor_363, u_M_factor_366, u_M_factor_367, u_M_factor_370, u_M_factor_371, u_M_factor_372, u_M_factor_373, u_M_factor_374, u_M_factor_377, u_M_factor_378, u_M_factor_379, u_M_factor_382, u_M_factor_383, h1_156, gt_156_44, pt_156_44, ne_eq, not_false_eq_true, not_true_eq_false, true_and, and_true, true_or, or_true, eq_self, Option.toList_some, Option.toList_none, List.cons_append, List.nil_append, tc_0, tc_I, tc_L, tc_A, Nat.reduceAdd, Nat.reduceLeDiff, Nat.reduceEqDiff, Int.reduceEq, Int.reduceLT, Int.reduceLE, Int.reduceNeg, Int.reduceToNat, Int.cast_ofNat_Int, if_true, if_false, and_self, or_self, ite_self, bI_0, bI_1, bI_01, Bool.false_eq_true, reduceCtorEq, hc, decide_true, bB_t, lc_ge, hz]; exact fin _
              · simp only [u_M_factor_342, u_M_factor_344, u_M_factor_346, u_M_factor_349, u_M_factor_350, u_M_factor_352, u_M_factor_353, u_M_factor_356, u_M_factor_359, u_M_factor_360, u_M_factor_362, u_M_factor_363, u_M_factor_366, u_M_factor_367, u_M_factor_370, u_M_factor_371, u_M_factor_372, u_M_factor_373, u_M_factor_374, u_M_factor_377, u_M_factor_378, u_M_factor_379, u_M_factor_382, u_M_factor_383, h1_156, gt_156_44, pt_156_44, ne_eq, not_false_eq_true, not_true_eq_false, true_and, and_true, true_or, or_true, eq_self, Option.toList_some, Option.toList_none, List.cons_append, List.nil_append, tc_0, tc_I, tc_L, tc_A, Nat.reduceAdd, Nat.reduceLeDiff, Nat.reduceEqDiff, Int.reduceEq, Int.reduceLT, Int.reduceLE, Int.reduceNeg, Int.reduceToNat, Int.cast_ofNat_Int, if_true, if_false, and_self, or_self, ite_self, bI_0, bI_1, bI_01, Bool.false_eq_true, reduceCtorEq, hc, decide_true, bB_t, lc_ge, hz]; exact fin _
            · by_cases hz : v = u
              · simp only [u_M_factor_342, u_M_factor_344, u_M_factor_346, u_M_factor_349, u_M_factor_350, u_M_factor_352, u_M_factor_353, u_M_factor_356, u_M_factor_359, u_M_factor_360, u_M_factor_362, u_M_factor_363, u_M_factor_366, u_M_factor_367, u_M_factor_370, u_M_factor_371, u_M_factor_372, u_M_factor_373, u_M_factor_374, u_M_factor_377, u_M_factor_378, u_M_factor_379, u_M_factor_382, u_M_factor_383, h1_156, gt_156_44, pt_156_44, ne_eq, not_false_eq_true, not_true_eq_false, true_and, and_true, true_or, or_true, eq_self, Option.toList_some, Option.toList_none, List.cons_append, List.nil_append, tc_0, tc_I, tc_L, tc_A, Nat.reduceAdd, Nat.reduceLeDiff, Nat.reduceEqDiff, Int.reduceEq, Int.reduceLT, Int.reduceLE, Int.reduceNeg, Int.reduceToNat, Int.cast_ofNat_Int, if_true, if_false, and_self, or_self, ite_self, bI_0, bI_1, bI_01, Bool.false_eq_true, reduceCtorEq, hc, decide_false, bB_f, lc_eq, hz]; exact fin _
              · simp only [u_M_factor_342, u_M_factor_344, u_M_factor_346, u_M_factor_349, u_M_factor_350, u_M_factor_352, u_M_factor_353, u_M_factor_356, u_M_factor_359, u_M_factor_360, u_M_factor_362, u_M_factor_363, u_M_factor_366, u_M_factor_367, u_M_factor_370, u_M_factor_371, u_M_factor_372, u_M_factor_373, u_M_factor_374, u_M_factor_377, u_M_factor_378, u_M_factor_379, u_M_factor_382, u_M_factor_383, h1_156, gt_156_44, pt_156_44, ne_eq, not_false_eq_true, not_true_eq_false, true_and, and_true, true_or, or_true, eq_self, Option.toList_some, Option.toList_none, List.cons_append, List.nil_append, tc_0, tc_I, tc_L, tc_A, Nat.reduceAdd, Nat.reduceLeDiff, Nat.reduceEqDiff, Int.reduceEq, Int.reduceLT, Int.reduceLE, Int.reduceNeg, Int.reduceToNat, Int.cast_ofNat_Int, if_true, if_false, and_self, or_self, ite_self, bI_0, bI_1, bI_01, Bool.false_eq_true, reduceCtorEq, hc, decide_false, bB_f, lc_eq, hz]; exact fin _
          | ok z =>
            obtain ⟨u, q'⟩ := z
            rw [hv3] at hQ2
            dsimp only at hQ2
            intro g2 d1 d2 d3 d4
            rw [hlm_FM c1] at d4
            have fin : Q (some (tL (if c = 60 then bI (v < u) else bI (v = u)))) (WW f t (mset g2 156 44 j)) := hQ2 _ (FM_tr (FM_tr c1 d1) (FM_m (by omega))) (by rw [rd, if_pos (by simp)]) (by rw [rd, if_neg (by omega)]; exact d3) (by rw [snN_app, snI_app]; exact WM_m d4 (by omega))
            rcases hc with hc | hc
            · rw [if_pos hc] at fin
              by_cases hz : u ≤ v
              · rw [show bI (v < u) = 0 by unfold bI; rw [if_neg (by omega)]] at fin
                simp only [u_M_factor_342, u_M_factor_344, u_M_factor_346, u_M_factor_349, u_M_factor_350, u_M_factor_352, u_M_factor_353, u_M_factor_356, u_M_factor_359, u_M_factor_360, u_M_factor_362, u_M_factor_363, u_M_factor_366, u_M_factor_367, u_M_factor_370, u_M_factor_371, u_M_factor_372, u_M_factor_373, u_M_factor_374, u_M_factor_377, u_M_factor_378, u_M_factor_379, u_M_factor_382, u_M_factor_383, h1_156, gt_156_44, pt_156_44, ne_eq, not_false_eq_true, not_true_eq_false, true_and, and_true, true_or, or_true, eq_self, Option.toList_some, Option.toList_none, List.cons_append, List.nil_append, tc_0, tc_I, tc_L, tc_A, Nat.reduceAdd, Nat.reduceLeDiff, Nat.reduceEqDiff, Int.reduceEq, Int.reduceLT, Int.reduceLE, Int.reduceNeg, Int.reduceToNat, Int.cast_ofNat_Int, if_true, if_false, and_self, or_self, ite_self, bI_0, bI_1, bI_01, Bool.false_eq_true, reduceCtorEq, hc, decide_true, bB_t, lc_ge, hz, d2, wB]; exact fin
              · rw [show bI (v < u) = 1 by unfold bI; rw [if_pos (by omega)]] at fin
                simp only [u_M_factor_342, u_M_factor_344, u_M_factor_346, u_M_factor_349, u_M_factor_350, u_M_factor_352, u_M_factor_353, u_M_factor_356, u_M_factor_359, u_M_factor_360, u_M_factor_362, u_M_factor_363, u_M_factor_366, u_M_factor_367, u_M_factor_370, u_M_factor_371, u_M_factor_372, u_M_factor_373, u_M_factor_374, u_M_factor_377, u_M_factor_378, u_M_factor_379, u_M_factor_382, u_M_factor_383, h1_156, gt_156_44, pt_156_44, ne_eq, not_false_eq_true, not_true_eq_false, true_and, and_true, true_or, or_true, eq_self, Option.toList_some, Option.toList_none, List.cons_append, List.nil_append, tc_0, tc_I, tc_L, tc_A, Nat.reduceAdd, Nat.reduceLeDiff, Nat.reduceEqDiff, Int.reduceEq, Int.reduceLT, Int.reduceLE, Int.reduceNeg, Int.reduceToNat, Int.cast_ofNat_Int, if_true, if_false, and_self, or_self, ite_self, bI_0, bI_1, bI_01, Bool.false_eq_true, reduceCtorEq, hc, decide_true, bB_t, lc_ge, hz, d2, wB]; exact fin
            · rw [if_neg (by omega)] at fin
              by_cases hz : v = u
              · rw [show bI (v = u) = 1 by unfold bI; rw [if_pos hz]] at fin
                simp only [u_M_factor_342, u_M_factor_344, u_M_factor_346, u_M_factor_349, u_M_factor_350, u_M_factor_352, u_M_factor_353, u_M_factor_356, u_M_factor_359, u_M_factor_360, u_M_factor_362, u_M_factor_363, u_M_factor_366, u_M_factor_367, u_M_factor_370, u_M_factor_371, u_M_factor_372, u_M_factor_373, u_M_factor_374, u_M_factor_377, u_M_factor_378, u_M_factor_379, u_M_factor_382, u_M_factor_383, h1_156, gt_156_44, pt_156_44, ne_eq, not_false_eq_true, not_true_eq_false, true_and, and_true, true_or, or_true, eq_self, Option.toList_some, Option.toList_none, List.cons_append, List.nil_append, tc_0, tc_I, tc_L, tc_A, Nat.reduceAdd, Nat.reduceLeDiff, Nat.reduceEqDiff, Int.reduceEq, Int.reduceLT, Int.reduceLE, Int.reduceNeg, Int.reduceToNat, Int.cast_ofNat_Int, if_true, if_false, and_self, or_self, ite_self, bI_0, bI_1, bI_01, Bool.false_eq_true, reduceCtorEq, hc, decide_false, bB_f, lc_eq, hz, d2, wB]; exact fin
              · rw [show bI (v = u) = 0 by unfold bI; rw [if_neg hz]] at fin
                simp only [u_M_factor_342, u_M_factor_344, u_M_factor_346, u_M_factor_349, u_M_factor_350, u_M_factor_352, u_M_factor_353, u_M_factor_356, u_M_factor_359, u_M_factor_360, u_M_factor_362, u_M_factor_363, u_M_factor_366, u_M_factor_367, u_M_factor_370, u_M_factor_371, u_M_factor_372, u_M_factor_373, u_M_factor_374, u_M_factor_377, u_M_factor_378, u_M_factor_379, u_M_factor_382, u_M_factor_383, h1_156, gt_156_44, pt_156_44, ne_eq, not_false_eq_true, not_true_eq_false, true_and, and_true, true_or, or_true, eq_self, Option.toList_some, Option.toList_none, List.cons_append, List.nil_append, tc_0, tc_I, tc_L, tc_A, Nat.reduceAdd, Nat.reduceLeDiff, Nat.reduceEqDiff, Int.reduceEq, Int.reduceLT, Int.reduceLE, Int.reduceNeg, Int.reduceToNat, Int.cast_ofNat_Int, if_true, if_false, and_self, or_self, ite_self, bI_0, bI_1, bI_01, Bool.false_eq_true, reduceCtorEq, hc, decide_false, bB_f, lc_eq, hz, d2, wB]; exact fin
end
