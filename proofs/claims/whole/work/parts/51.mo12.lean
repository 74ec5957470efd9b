/-! The reference's reader: steps with a key, simple ones -/
section
variable {L d c : Nat} {f t g gs : Mem} {Q : Option TV → Wd → Prop} {y : Int → Int} {n k br z w i o_ : Int} {len : Nat} {σ : Sg}
theorem p_key (hL : Lexd y n len) (hn6 : n ≤ 600) (hM : MR y n len k 0 0 0 g) (hl : LKs y len k g) (hk : 200 ≤ Tk y len k ∧ Tk y len k ≤ 216) (hgo : ∀ g1, ME y n len g (k + 1) 0 0 0 g1 → VV L (d + 60) m_M_readStep 181 [some (tA 156), some (tI z), some (tI o_), some (tI (Tk y len k - 200)), some (tI (-1)), some (tI (-1)), some (tI 1), none] [] (WW f t g1) Q) : VV L (d + 60) m_M_readStep 105 [some (tA 156), some (tI z), some (tI o_), none, none, none, none, none] [] (WW f t g) Q := by
  have s5 : srt (Tk y len k) = 5 := srt5.1.mpr (by omega)
  have hw := (srt5 (x := Tk y len k)).2 s5
  simp only [u_M_readStep_105, u_M_readStep_106, u_M_readStep_109, u_M_readStep_110, u_M_readStep_113, u_M_readStep_114, u_M_readStep_117, u_M_readStep_120, u_M_readStep_121, u_M_readStep_122, u_M_readStep_123, u_M_readStep_125, u_M_readStep_126, u_M_readStep_128, u_M_readStep_129, u_M_readStep_131, u_M_readStep_132, u_M_readStep_135, u_M_readStep_136, u_M_readStep_139, u_M_readStep_140, u_M_readStep_143, u_M_readStep_144, u_M_readStep_147, u_M_readStep_150, u_M_readStep_151, u_M_readStep_153, u_M_readStep_154, u_M_readStep_157, u_M_readStep_159, u_M_readStep_160, u_M_readStep_163, u_M_readStep_166, u_M_readStep_167, u_M_readStep_170, u_M_readStep_172, u_M_readStep_174, u_M_readStep_177, u_M_readStep_178, ne_eq, not_false_eq_true, not_true_eq_false, true_and, and_true, true_or, or_true, eq_self, Option.toList_some, Option.toList_none, List.cons_append, List.nil_append, tc_0, tc_I, tc_L, tc_A, Nat.reduceAdd, Nat.reduceLeDiff, Nat.reduceEqDiff, Int.reduceEq, Int.reduceLT, Int.reduceLE, Int.reduceNeg, Int.reduceToNat, Int.cast_ofNat_Int, if_true, if_false, and_self, or_self, ite_self, bI_0, bI_1, bI_01, Bool.false_eq_true, reduceCtorEq, h1_156, gt_156_6, gt_156_7, hl.2.1, hl.2.2.1, s5, hw, show 0 ≤ Tk y len k - 200 by omega]
  exact p_take hL hn6 (ME_mk hM) hl (by omega) (by omega) (fun g1 h1 => by simpa only [ne_eq, not_false_eq_true, not_true_eq_false, true_and, and_true, true_or, or_true, eq_self, Option.toList_some, Option.toList_none, List.cons_append, List.nil_append, tc_0, tc_I, tc_L, tc_A, Nat.reduceAdd, Nat.reduceLeDiff, Nat.reduceEqDiff, Int.reduceEq, Int.reduceLT, Int.reduceLE, Int.reduceNeg, Int.reduceToNat, Int.cast_ofNat_Int, if_true, if_false, and_self, or_self, ite_self, bI_0, bI_1, bI_01, Bool.false_eq_true, reduceCtorEq] using hgo g1 h1)
theorem p_let (hL : Lexd y n len) (hn6 : n ≤ 600) (hc : c = 8) (hF : FS gs g) (hM : MR y n len k 0 0 0 g) (hl : LKs y len k g) (hC : CT (k + 1) σ br g) (hσ : okSg σ) (hz : z = sk y (eN y k.toNat)) (hk : Tk y len k = 200 ∨ Tk y len k = 201 ∨ Tk y len k = 214) (hQ : RS y n len gs f t br Q k (fin (Tk y len) k (lf σ (pLet c (Tk y len) k)))) : VV L (d + 60) m_M_readStep 105 [some (tA 156), some (tI z), some (tI o_), none, none, none, none, none] [] (WW f t g) Q := by
  have hn1 : nIns (Tk y len k) = 1 := nIns_1 (by omega)
  refine p_key hL hn6 hM hl (by omega) (fun g1 h1 => ?_)
  have h192 : ∀ (ky : Int), (ky = 14 ↔ Tk y len k = 214) → VV L (d + 60) m_M_readStep 192 [some (tA 156), some (tI z), some (tI o_), some (tI ky), some (tI (-1)), some (tI (-1)), some (tI 1), none] [] (WW f t g1) Q := by
    intro ky hky
    simp only [u_M_readStep_192, u_M_readStep_193, ne_eq, not_false_eq_true, not_true_eq_false, true_and, and_true, true_or, or_true, eq_self, Option.toList_some, Option.toList_none, List.cons_append, List.nil_append, tc_0, tc_I, tc_L, tc_A, Nat.reduceAdd, Nat.reduceLeDiff, Nat.reduceEqDiff, Int.reduceEq, Int.reduceLT, Int.reduceLE, Int.reduceNeg, Int.reduceToNat, Int.cast_ofNat_Int, if_true, if_false, and_self, or_self, ite_self, bI_0, bI_1, bI_01, Bool.false_eq_true, reduceCtorEq, h1_156]
    refine m_look hL h1 (fun g2 h2 hl2 => ?_)
    have hgo : ∀ nm : Int, (nm = -1 ∨ (0 ≤ nm ∧ nm < 26)) → (kName (Tk y len (k + 1)) = true → nm = if Tk y len k = 214 then -1 else Tk y len (k + 1) - 97) → VV L (d + 60) m_M_readStep 220 [some (tA 156), some (tI z), some (tI o_), some (tI ky), some (tI nm), some (tI (-1)), some (tI 1), none] [] (WW f t g2) Q := by
      intro nm hnr hnm
      simp only [u_M_readStep_220, u_M_readStep_221, u_M_readStep_222, ne_eq, not_false_eq_true, not_true_eq_false, true_and, and_true, true_or, or_true, eq_self, Option.toList_some, Option.toList_none, List.cons_append, List.nil_append, tc_0, tc_I, tc_L, tc_A, Nat.reduceAdd, Nat.reduceLeDiff, Nat.reduceEqDiff, Int.reduceEq, Int.reduceLT, Int.reduceLE, Int.reduceNeg, Int.reduceToNat, Int.cast_ofNat_Int, if_true, if_false, and_self, or_self, ite_self, bI_0, bI_1, bI_01, Bool.false_eq_true, reduceCtorEq, h1_156]
      unfold pLet at hQ
      refine p_wantsS (d := d + 55) hL hn6 h2 (by omega) (fun hs g3 h3 => ?_) (fun hs g3 a b e => ?_)
      · have hn := srt_iff.1.mp hs
        rw [if_pos hn] at hQ
        rw [show k + 1 + 1 = k + 2 by omega] at h3
        simp only [u_M_readStep_225, u_M_readStep_228, u_M_readStep_229, u_M_readStep_231, u_M_readStep_233, ne_eq, not_false_eq_true, not_true_eq_false, true_and, and_true, true_or, or_true, eq_self, Option.toList_some, Option.toList_none, List.cons_append, List.nil_append, tc_0, tc_I, tc_L, tc_A, Nat.reduceAdd, Nat.reduceLeDiff, Nat.reduceEqDiff, Int.reduceEq, Int.reduceLT, Int.reduceLE, Int.reduceNeg, Int.reduceToNat, Int.cast_ofNat_Int, if_true, if_false, and_self, or_self, ite_self, bI_0, bI_1, bI_01, Bool.false_eq_true, reduceCtorEq, h1_156]
        refine p_wants (d := d + 54) hL hn6 h3 (by decide) (by decide) (fun e g4 h4 => ?_) (fun e g4 a b e' => ?_)
        · rw [if_pos e] at hQ
          rw [show k + 2 + 1 = k + 3 by omega] at h4
          simp only [u_M_readStep_236, u_M_readStep_239, u_M_readStep_240, ne_eq, not_false_eq_true, not_true_eq_false, true_and, and_true, true_or, or_true, eq_self, Option.toList_some, Option.toList_none, List.cons_append, List.nil_append, tc_0, tc_I, tc_L, tc_A, Nat.reduceAdd, Nat.reduceLeDiff, Nat.reduceEqDiff, Int.reduceEq, Int.reduceLT, Int.reduceLE, Int.reduceNeg, Int.reduceToNat, Int.cast_ofNat_Int, if_true, if_false, and_self, or_self, ite_self, bI_0, bI_1, bI_01, Bool.false_eq_true, reduceCtorEq, h1_156]
          refine p_E8 (d := d + 9) hL hn6 hc h4 (by rw [show k + 3 - 1 = k + 2 by omega, e]; decide) ?_
          cases hp : pX c (Tk y len) (k + 3) with
          | error e =>
            obtain ⟨w, i, q⟩ := e
            rw [hp] at hQ
            intro g5 a b e
            simp only [u_M_readStep_243, u_M_readStep_246, u_M_readStep_247, u_M_readStep_250, u_M_readStep_251, u_M_readStep_253, ne_eq, not_false_eq_true, not_true_eq_false, true_and, and_true, true_or, or_true, eq_self, Option.toList_some, Option.toList_none, List.cons_append, List.nil_append, tc_0, tc_I, tc_L, tc_A, Nat.reduceAdd, Nat.reduceLeDiff, Nat.reduceEqDiff, Int.reduceEq, Int.reduceLT, Int.reduceLE, Int.reduceNeg, Int.reduceToNat, Int.cast_ofNat_Int, if_true, if_false, and_self, or_self, ite_self, bI_0, bI_1, bI_01, Bool.false_eq_true, reduceCtorEq]
            exact p_583e hQ (FS_FE hF a) b e
          | ok q =>
            obtain ⟨x, j⟩ := q
            rw [hp] at hQ
            intro g5 N5 R5 h5 hN5 hK5 hlt5
            simp only [u_M_readStep_243, u_M_readStep_246, u_M_readStep_247, u_M_readStep_250, u_M_readStep_251, u_M_readStep_253, ne_eq, not_false_eq_true, not_true_eq_false, true_and, and_true, true_or, or_true, eq_self, Option.toList_some, Option.toList_none, List.cons_append, List.nil_append, tc_0, tc_I, tc_L, tc_A, Nat.reduceAdd, Nat.reduceLeDiff, Nat.reduceEqDiff, Int.reduceEq, Int.reduceLT, Int.reduceLE, Int.reduceNeg, Int.reduceToNat, Int.cast_ofNat_Int, if_true, if_false, and_self, or_self, ite_self, bI_0, bI_1, bI_01, Bool.false_eq_true, reduceCtorEq]
            refine p_end (d := d + 54) (op := 0) (N := N5) (R := R5) hL hn6 (FS_FE hF h5.1) h5.2 (CT_FC hC (FC_of h5.1) (by omega)) hσ hz hnr (Or.inl rfl) hn1.symm (by omega) (fun h59 => ?_) hQ
            have hnm' := hnm hn
            have hx2 : 97 ≤ Tk y len (k + 1) ∧ Tk y len (k + 1) ≤ 122 := by unfold kName at hn; simp at hn; omega
            by_cases h214 : Tk y len k = 214
            · rw [if_pos h214] at hnm'
              unfold inIt
              rw [if_neg (by omega)]
              have hkn : kName (Tk y len k) = false := by rw [h214]; rfl
              rw [hkn]; simp; omega
            · rw [if_neg h214] at hnm'
              unfold inIt
              rw [if_pos (by omega), hasTk_1 (by omega) (by omega)]
              have hb := hN5.1 nm.toNat (by omega)
              rw [Nat.zero_testBit, Bool.false_or, show (97 : Int) + (nm.toNat : Int) = Tk y len (k + 1) by omega] at hb
              rw [hb]
              constructor
              · intro hh; rcases hh with hh | hh
                · exact hh.2.2
                · omega
              · intro hh; exact Or.inl ⟨by omega, rfl, hh⟩
        · rw [if_neg e] at hQ
          simp only [u_M_readStep_236, u_M_readStep_239, u_M_readStep_240, u_M_readStep_243, u_M_readStep_246, u_M_readStep_247, u_M_readStep_250, u_M_readStep_251, u_M_readStep_253, ne_eq, not_false_eq_true, not_true_eq_false, true_and, and_true, true_or, or_true, eq_self, Option.toList_some, Option.toList_none, List.cons_append, List.nil_append, tc_0, tc_I, tc_L, tc_A, Nat.reduceAdd, Nat.reduceLeDiff, Nat.reduceEqDiff, Int.reduceEq, Int.reduceLT, Int.reduceLE, Int.reduceNeg, Int.reduceToNat, Int.cast_ofNat_Int, if_true, if_false, and_self, or_self, ite_self, bI_0, bI_1, bI_01, Bool.false_eq_true, reduceCtorEq]
          exact p_583e hQ (FS_FE hF a) b e'
      · rw [if_neg (fun hh => hs (srt_iff.1.mpr hh))] at hQ
        simp only [u_M_readStep_225, u_M_readStep_228, u_M_readStep_229, u_M_readStep_231, u_M_readStep_233, u_M_readStep_236, u_M_readStep_239, u_M_readStep_240, u_M_readStep_243, u_M_readStep_246, u_M_readStep_247, u_M_readStep_250, u_M_readStep_251, u_M_readStep_253, ne_eq, not_false_eq_true, not_true_eq_false, true_and, and_true, true_or, or_true, eq_self, Option.toList_some, Option.toList_none, List.cons_append, List.nil_append, tc_0, tc_I, tc_L, tc_A, Nat.reduceAdd, Nat.reduceLeDiff, Nat.reduceEqDiff, Int.reduceEq, Int.reduceLT, Int.reduceLE, Int.reduceNeg, Int.reduceToNat, Int.cast_ofNat_Int, if_true, if_false, and_self, or_self, ite_self, bI_0, bI_1, bI_01, Bool.false_eq_true, reduceCtorEq]
        exact p_583e hQ (FS_FE hF a) b e
    by_cases hn : kName (Tk y len (k + 1)) = true
    · have hx2 : 97 ≤ Tk y len (k + 1) ∧ Tk y len (k + 1) ≤ 122 := by unfold kName at hn; simp at hn; omega
      by_cases h14 : ky = 14
      · simp only [u_M_readStep_196, u_M_readStep_197, u_M_readStep_200, u_M_readStep_201, u_M_readStep_204, u_M_readStep_205, u_M_readStep_207, u_M_readStep_210, u_M_readStep_211, u_M_readStep_214, u_M_readStep_217, u_M_readStep_218, ne_eq, not_false_eq_true, not_true_eq_false, true_and, and_true, true_or, or_true, eq_self, Option.toList_some, Option.toList_none, List.cons_append, List.nil_append, tc_0, tc_I, tc_L, tc_A, Nat.reduceAdd, Nat.reduceLeDiff, Nat.reduceEqDiff, Int.reduceEq, Int.reduceLT, Int.reduceLE, Int.reduceNeg, Int.reduceToNat, Int.cast_ofNat_Int, if_true, if_false, and_self, or_self, ite_self, bI_0, bI_1, bI_01, Bool.false_eq_true, reduceCtorEq, h1_156, gt_156_6, gt_156_7, hl2.2.1, hl2.2.2.1, (srt_a hn).1, (srt_a hn).2, h14]
        rw [← h14]
        exact hgo _ (Or.inl rfl) (fun _ => by rw [if_pos (hky.mp h14)])
      · simp only [u_M_readStep_196, u_M_readStep_197, u_M_readStep_200, u_M_readStep_201, u_M_readStep_204, u_M_readStep_205, u_M_readStep_207, u_M_readStep_210, u_M_readStep_211, u_M_readStep_214, u_M_readStep_217, u_M_readStep_218, ne_eq, not_false_eq_true, not_true_eq_false, true_and, and_true, true_or, or_true, eq_self, Option.toList_some, Option.toList_none, List.cons_append, List.nil_append, tc_0, tc_I, tc_L, tc_A, Nat.reduceAdd, Nat.reduceLeDiff, Nat.reduceEqDiff, Int.reduceEq, Int.reduceLT, Int.reduceLE, Int.reduceNeg, Int.reduceToNat, Int.cast_ofNat_Int, if_true, if_false, and_self, or_self, ite_self, bI_0, bI_1, bI_01, Bool.false_eq_true, reduceCtorEq, h1_156, gt_156_6, gt_156_7, hl2.2.1, hl2.2.2.1, (srt_a hn).1, (srt_a hn).2, h14]
        exact hgo _ (Or.inr (by omega)) (fun _ => by rw [if_neg (fun hh => h14 (hky.mpr hh))])
    · have s1 : ¬ srt (Tk y len (k + 1)) = 1 := fun hh => hn (srt_iff.1.mp hh)
      simp only [u_M_readStep_196, u_M_readStep_197, u_M_readStep_200, u_M_readStep_201, u_M_readStep_204, u_M_readStep_205, u_M_readStep_207, u_M_readStep_210, u_M_readStep_211, u_M_readStep_214, u_M_readStep_217, u_M_readStep_218, ne_eq, not_false_eq_true, not_true_eq_false, true_and, and_true, true_or, or_true, eq_self, Option.toList_some, Option.toList_none, List.cons_append, List.nil_append, tc_0, tc_I, tc_L, tc_A, Nat.reduceAdd, Nat.reduceLeDiff, Nat.reduceEqDiff, Int.reduceEq, Int.reduceLT, Int.reduceLE, Int.reduceNeg, Int.reduceToNat, Int.cast_ofNat_Int, if_true, if_false, and_self, or_self, ite_self, bI_0, bI_1, bI_01, Bool.false_eq_true, reduceCtorEq, h1_156, gt_156_6, gt_156_7, hl2.2.1, hl2.2.2.1, s1]
      exact hgo _ (Or.inl rfl) (fun hh => absurd hh hn)
  by_cases h1' : Tk y len k - 200 ≤ 1
  · simp only [u_M_readStep_181, u_M_readStep_182, u_M_readStep_183, u_M_readStep_186, u_M_readStep_187, u_M_readStep_189, ne_eq, not_false_eq_true, not_true_eq_false, true_and, and_true, true_or, or_true, eq_self, Option.toList_some, Option.toList_none, List.cons_append, List.nil_append, tc_0, tc_I, tc_L, tc_A, Nat.reduceAdd, Nat.reduceLeDiff, Nat.reduceEqDiff, Int.reduceEq, Int.reduceLT, Int.reduceLE, Int.reduceNeg, Int.reduceToNat, Int.cast_ofNat_Int, if_true, if_false, and_self, or_self, ite_self, bI_0, bI_1, bI_01, Bool.false_eq_true, reduceCtorEq, h1']
    exact h192 _ (by omega)
  · have h14 : Tk y len k - 200 = 14 := by omega
    simp only [u_M_readStep_181, u_M_readStep_182, u_M_readStep_183, u_M_readStep_186, u_M_readStep_187, u_M_readStep_189, ne_eq, not_false_eq_true, not_true_eq_false, true_and, and_true, true_or, or_true, eq_self, Option.toList_some, Option.toList_none, List.cons_append, List.nil_append, tc_0, tc_I, tc_L, tc_A, Nat.reduceAdd, Nat.reduceLeDiff, Nat.reduceEqDiff, Int.reduceEq, Int.reduceLT, Int.reduceLE, Int.reduceNeg, Int.reduceToNat, Int.cast_ofNat_Int, if_true, if_false, and_self, or_self, ite_self, bI_0, bI_1, bI_01, Bool.false_eq_true, reduceCtorEq, h14]
    exact h192 _ (by omega)
theorem p_psh (hL : Lexd y n len) (hn6 : n ≤ 600) (hF : FS gs g) (hM : MR y n len k 0 0 0 g) (hl : LKs y len k g) (hC : CT (k + 1) σ br g) (hσ : okSg σ) (hz : z = sk y (eN y k.toNat)) (hk : Tk y len k = 202 ∨ Tk y len k = 203) (hQ : RS y n len gs f t br Q k (fin (Tk y len) k (lf σ (pPsh c (Tk y len) k)))) : VV L (d + 60) m_M_readStep 105 [some (tA 156), some (tI z), some (tI o_), none, none, none, none, none] [] (WW f t g) Q := by
  have hn1 : nIns (Tk y len k) = 1 := nIns_1 (by omega)
  refine p_key hL hn6 hM hl (by omega) (fun g1 h1 => ?_)
  unfold pPsh at hQ
  simp only [u_M_readStep_181, u_M_readStep_182, u_M_readStep_183, u_M_readStep_186, u_M_readStep_187, u_M_readStep_189, u_M_readStep_256, u_M_readStep_257, u_M_readStep_258, u_M_readStep_261, u_M_readStep_262, u_M_readStep_263, ne_eq, not_false_eq_true, not_true_eq_false, true_and, and_true, true_or, or_true, eq_self, Option.toList_some, Option.toList_none, List.cons_append, List.nil_append, tc_0, tc_I, tc_L, tc_A, Nat.reduceAdd, Nat.reduceLeDiff, Nat.reduceEqDiff, Int.reduceEq, Int.reduceLT, Int.reduceLE, Int.reduceNeg, Int.reduceToNat, Int.cast_ofNat_Int, if_true, if_false, and_self, or_self, ite_self, bI_0, bI_1, bI_01, Bool.false_eq_true, reduceCtorEq, h1_156, show ¬ Tk y len k - 200 ≤ 1 by omega, show ¬ Tk y len k - 200 = 14 by omega, show ¬ 3 < Tk y len k - 200 by omega, show Tk y len k - 200 ≤ 3 by omega]
  refine p_wantsS (d := d + 55) hL hn6 h1 (by omega) (fun hs g3 h3 => ?_) (fun hs g3 a b e => ?_)
  · rw [if_pos (srt_iff.1.mp hs)] at hQ
    rw [show k + 1 + 1 = k + 2 by omega] at h3
    simp only [u_M_readStep_266, u_M_readStep_269, u_M_readStep_270, u_M_readStep_271, ne_eq, not_false_eq_true, not_true_eq_false, true_and, and_true, true_or, or_true, eq_self, Option.toList_some, Option.toList_none, List.cons_append, List.nil_append, tc_0, tc_I, tc_L, tc_A, Nat.reduceAdd, Nat.reduceLeDiff, Nat.reduceEqDiff, Int.reduceEq, Int.reduceLT, Int.reduceLE, Int.reduceNeg, Int.reduceToNat, Int.cast_ofNat_Int, if_true, if_false, and_self, or_self, ite_self, bI_0, bI_1, bI_01, Bool.false_eq_true, reduceCtorEq, h1_156]
    refine p_wantsS (d := d + 55) hL hn6 h3 (by omega) (fun hs g4 h4 => ?_) (fun hs g4 a b e => ?_)
    · rw [if_pos (srt_iff.2.2.2.mp hs)] at hQ
      rw [show k + 2 + 1 = k + 3 by omega] at h4
      simp only [u_M_readStep_274, u_M_readStep_277, u_M_readStep_278, u_M_readStep_281, u_M_readStep_282, u_M_readStep_284, ne_eq, not_false_eq_true, not_true_eq_false, true_and, and_true, true_or, or_true, eq_self, Option.toList_some, Option.toList_none, List.cons_append, List.nil_append, tc_0, tc_I, tc_L, tc_A, Nat.reduceAdd, Nat.reduceLeDiff, Nat.reduceEqDiff, Int.reduceEq, Int.reduceLT, Int.reduceLE, Int.reduceNeg, Int.reduceToNat, Int.cast_ofNat_Int, if_true, if_false, and_self, or_self, ite_self, bI_0, bI_1, bI_01, Bool.false_eq_true, reduceCtorEq]
      refine p_end (d := d + 54) (op := 0) (N := 0) (R := 0) hL hn6 (FS_FE hF h4.1) h4.2 (CT_FC hC (FC_of h4.1) (by omega)) hσ hz (Or.inl rfl) (Or.inl rfl) hn1.symm (by omega) (fun h59 => ?_) hQ
      unfold inIt
      have hkn : kName (Tk y len k) = false := by rcases hk with h | h <;> rw [h] <;> rfl
      rw [if_neg (by omega), hkn]; simp
    · rw [if_neg (fun hh => hs (srt_iff.2.2.2.mpr hh))] at hQ
      simp only [u_M_readStep_274, u_M_readStep_277, u_M_readStep_278, u_M_readStep_281, u_M_readStep_282, u_M_readStep_284, ne_eq, not_false_eq_true, not_true_eq_false, true_and, and_true, true_or, or_true, eq_self, Option.toList_some, Option.toList_none, List.cons_append, List.nil_append, tc_0, tc_I, tc_L, tc_A, Nat.reduceAdd, Nat.reduceLeDiff, Nat.reduceEqDiff, Int.reduceEq, Int.reduceLT, Int.reduceLE, Int.reduceNeg, Int.reduceToNat, Int.cast_ofNat_Int, if_true, if_false, and_self, or_self, ite_self, bI_0, bI_1, bI_01, Bool.false_eq_true, reduceCtorEq]
      exact p_583e hQ (FS_FE hF a) b e
  · rw [if_neg (fun hh => hs (srt_iff.1.mpr hh))] at hQ
    simp only [u_M_readStep_266, u_M_readStep_269, u_M_readStep_270, u_M_readStep_271, u_M_readStep_274, u_M_readStep_277, u_M_readStep_278, u_M_readStep_281, u_M_readStep_282, u_M_readStep_284, ne_eq, not_false_eq_true, not_true_eq_false, true_and, and_true, true_or, or_true, eq_self, Option.toList_some, Option.toList_none, List.cons_append, List.nil_append, tc_0, tc_I, tc_L, tc_A, Nat.reduceAdd, Nat.reduceLeDiff, Nat.reduceEqDiff, Int.reduceEq, Int.reduceLT, Int.reduceLE, Int.reduceNeg, Int.reduceToNat, Int.cast_ofNat_Int, if_true, if_false, and_self, or_self, ite_self, bI_0, bI_1, bI_01, Bool.false_eq_true, reduceCtorEq]
    exact p_583e hQ (FS_FE hF a) b e
theorem p_cal (hL : Lexd y n len) (hn6 : n ≤ 600) (hF : FS gs g) (hM : MR y n len k 0 0 0 g) (hl : LKs y len k g) (hC : CT (k + 1) σ br g) (hσ : okSg σ) (hz : z = sk y (eN y k.toNat)) (hk : Tk y len k = 206 ∨ Tk y len k = 207) (hQ : RS y n len gs f t br Q k (fin (Tk y len) k (lf σ (pCal c (Tk y len) k)))) : VV L (d + 60) m_M_readStep 105 [some (tA 156), some (tI z), some (tI o_), none, none, none, none, none] [] (WW f t g) Q := by
  have hn1 : nIns (Tk y len k) = 1 := nIns_1 (by omega)
  refine p_key hL hn6 hM hl (by omega) (fun g1 h1 => ?_)
  unfold pCal at hQ
  simp only [u_M_readStep_181, u_M_readStep_182, u_M_readStep_183, u_M_readStep_186, u_M_readStep_187, u_M_readStep_189, u_M_readStep_256, u_M_readStep_257, u_M_readStep_258, u_M_readStep_287, u_M_readStep_288, u_M_readStep_289, u_M_readStep_346, u_M_readStep_347, u_M_readStep_349, u_M_readStep_352, u_M_readStep_353, ne_eq, not_false_eq_true, not_true_eq_false, true_and, and_true, true_or, or_true, eq_self, Option.toList_some, Option.toList_none, List.cons_append, List.nil_append, tc_0, tc_I, tc_L, tc_A, Nat.reduceAdd, Nat.reduceLeDiff, Nat.reduceEqDiff, Int.reduceEq, Int.reduceLT, Int.reduceLE, Int.reduceNeg, Int.reduceToNat, Int.cast_ofNat_Int, if_true, if_false, and_self, or_self, ite_self, bI_0, bI_1, bI_01, Bool.false_eq_true, reduceCtorEq, h1_156, show ¬ Tk y len k - 200 ≤ 1 by omega, show ¬ Tk y len k - 200 = 14 by omega, show 3 < Tk y len k - 200 by omega, show 5 < Tk y len k - 200 by omega, show ¬ 7 < Tk y len k - 200 by omega]
  refine p_readCalled (d := d + 55) hL hn6 h1 (fun hs h10 g3 h3 => ?_) (fun hs h10 g3 a b e => ?_) (fun hs g3 a b e => ?_)
  · rw [if_pos hs, if_neg h10] at hQ
    rw [show k + 1 + 1 = k + 2 by omega] at h3
    simp only [u_M_readStep_356, u_M_readStep_358, ne_eq, not_false_eq_true, not_true_eq_false, true_and, and_true, true_or, or_true, eq_self, Option.toList_some, Option.toList_none, List.cons_append, List.nil_append, tc_0, tc_I, tc_L, tc_A, Nat.reduceAdd, Nat.reduceLeDiff, Nat.reduceEqDiff, Int.reduceEq, Int.reduceLT, Int.reduceLE, Int.reduceNeg, Int.reduceToNat, Int.cast_ofNat_Int, if_true, if_false, and_self, or_self, ite_self, bI_0, bI_1, bI_01, Bool.false_eq_true, reduceCtorEq]
    refine p_end (d := d + 54) (op := 0) (N := 0) (R := 0) hL hn6 (FS_FE hF h3.1) h3.2 (CT_FC hC (FC_of h3.1) (by omega)) hσ hz (Or.inl rfl) (Or.inl rfl) hn1.symm (by omega) (fun h59 => ?_) hQ
    unfold inIt
    have hkn : kName (Tk y len k) = false := by rcases hk with h | h <;> rw [h] <;> rfl
    rw [if_neg (by omega), hkn]; simp
  · rw [if_pos hs, if_pos h10] at hQ
    simp only [u_M_readStep_356, u_M_readStep_358, ne_eq, not_false_eq_true, not_true_eq_false, true_and, and_true, true_or, or_true, eq_self, Option.toList_some, Option.toList_none, List.cons_append, List.nil_append, tc_0, tc_I, tc_L, tc_A, Nat.reduceAdd, Nat.reduceLeDiff, Nat.reduceEqDiff, Int.reduceEq, Int.reduceLT, Int.reduceLE, Int.reduceNeg, Int.reduceToNat, Int.cast_ofNat_Int, if_true, if_false, and_self, or_self, ite_self, bI_0, bI_1, bI_01, Bool.false_eq_true, reduceCtorEq]
    exact p_583e hQ (FS_FE hF a) b e
  · rw [if_neg hs] at hQ
    simp only [u_M_readStep_356, u_M_readStep_358, ne_eq, not_false_eq_true, not_true_eq_false, true_and, and_true, true_or, or_true, eq_self, Option.toList_some, Option.toList_none, List.cons_append, List.nil_append, tc_0, tc_I, tc_L, tc_A, Nat.reduceAdd, Nat.reduceLeDiff, Nat.reduceEqDiff, Int.reduceEq, Int.reduceLT, Int.reduceLE, Int.reduceNeg, Int.reduceToNat, Int.cast_ofNat_Int, if_true, if_false, and_self, or_self, ite_self, bI_0, bI_1, bI_01, Bool.false_eq_true, reduceCtorEq]
    exact p_583e hQ (FS_FE hF a) b e
end
