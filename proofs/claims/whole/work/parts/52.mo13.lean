/-! The reference's reader: new, end; steps with parts -/
def PSpM (L D : Nat) (y : Int → Int) (n : Int) (len : Nat) (f t : Mem) (br : Int) {B : Type} (pt : Int → Sg → PS B) : Prop := ∀ (gs g : Mem) (k : Int) (σ : Sg) (Q : Option TV → Wd → Prop), okSg σ → SM y n len gs k σ br g → RS y n len gs f t br Q k (pt k σ) → VV L D m_M_block 0 [some (tA 156)] [] (WW f t g) Q
section
variable {L d c : Nat} {f t g g' gs g0 : Mem} {Q : Option TV → Wd → Prop} {y : Int → Int} {n k k' br z w i o_ op : Int} {len N R : Nat} {σ : Sg}
theorem SM_FE (h : SM y n len gs k σ br g) (h1 : FE g g') (h2 : MR y n len k' op N R g') (hk : k ≤ k') : SM y n len gs k' σ br g' := ⟨FS_FE h.1 h1, ⟨op, N, R, h2⟩, CT_FC h.2.2 (FC_of h1) hk⟩
theorem p_wantsK (hL : Lexd y n len) (hn6 : n ≤ 600) (h : ME y n len g0 k op N R g) (hw0 : 0 ≤ w) (hw1 : w ≤ 21) (hY : Tk y len k = 200 + w → ∀ g', ME y n len g0 (k + 1) op N R g' → Q (some (tI 1)) (WW f t g')) (hN : ¬ Tk y len k = 200 + w → ∀ g', FE g0 g' → g' 156 12 = 1 → g' 156 13 = sk y (eN y k.toNat) → Q (some (tI 0)) (WW f t g')) : VV L (d + 5) m_M_wants 0 [some (tA 156), some (tI 5), some (tI w)] [] (WW f t g) Q := by
  simp only [u_M_wants_0, u_M_wants_1, u_M_wants_2, u_M_wants_3, u_M_wants_6, u_M_wants_9, u_M_wants_10, u_M_wants_11, u_M_wants_12, u_M_wants_15, u_M_wants_18, u_M_wants_19, u_M_wants_20, u_M_wants_23, u_M_wants_24, h1_156, gt_156_5, pt_156_5, ne_eq, not_false_eq_true, not_true_eq_false, true_and, and_true, true_or, or_true, eq_self, Option.toList_some, Option.toList_none, List.cons_append, List.nil_append, tc_0, tc_I, tc_L, tc_A, Nat.reduceAdd, Nat.reduceLeDiff, Nat.reduceEqDiff, Int.reduceEq, Int.reduceLT, Int.reduceLE, Int.reduceNeg, Int.reduceToNat, Int.cast_ofNat_Int, if_true, if_false, and_self, or_self, ite_self, bI_0, bI_1, bI_01, Bool.false_eq_true, reduceCtorEq]
  simp only [u_M_is_0, u_M_is_1, ne_eq, not_false_eq_true, not_true_eq_false, true_and, and_true, true_or, or_true, eq_self, Option.toList_some, Option.toList_none, List.cons_append, List.nil_append, tc_0, tc_I, tc_L, tc_A, Nat.reduceAdd, Nat.reduceLeDiff, Nat.reduceEqDiff, Int.reduceEq, Int.reduceLT, Int.reduceLE, Int.reduceNeg, Int.reduceToNat, Int.cast_ofNat_Int, if_true, if_false, and_self, or_self, ite_self, bI_0, bI_1, bI_01, Bool.false_eq_true, reduceCtorEq, h1_156]
  refine m_look hL h (fun g' h' hl => ?_)
  have hi := key_iff (x := Tk y len k) hw0 hw1
  have hfail : ¬ Tk y len k = 200 + w → VV L (d + 5) m_M_wants 9 [some (tA 156), some (tI 5), some (tI w)] [] (WW f t g') Q := by
    intro e
    simp only [u_M_wants_9, u_M_wants_10, u_M_wants_11, u_M_wants_12, u_M_wants_15, u_M_wants_18, ne_eq, not_false_eq_true, not_true_eq_false, true_and, and_true, true_or, or_true, eq_self, Option.toList_some, Option.toList_none, List.cons_append, List.nil_append, tc_0, tc_I, tc_L, tc_A, Nat.reduceAdd, Nat.reduceLeDiff, Nat.reduceEqDiff, Int.reduceEq, Int.reduceLT, Int.reduceLE, Int.reduceNeg, Int.reduceToNat, Int.cast_ofNat_Int, if_true, if_false, and_self, or_self, ite_self, bI_0, bI_1, bI_01, Bool.false_eq_true, reduceCtorEq, h1_156, gt_156_5, hl.1]
    refine m_fails h'.1 (fun g2 a b c => ?_)
    simp only [u_M_wants_18, ne_eq, not_false_eq_true, not_true_eq_false, true_and, and_true, true_or, or_true, eq_self, Option.toList_some, Option.toList_none, List.cons_append, List.nil_append, tc_0, tc_I, tc_L, tc_A, Nat.reduceAdd, Nat.reduceLeDiff, Nat.reduceEqDiff, Int.reduceEq, Int.reduceLT, Int.reduceLE, Int.reduceNeg, Int.reduceToNat, Int.cast_ofNat_Int, if_true, if_false, and_self, or_self, ite_self, bI_0, bI_1, bI_01, Bool.false_eq_true, reduceCtorEq]
    exact hN e g2 a b c
  by_cases e : Tk y len k = 200 + w
  · have := hi.mpr e
    simp only [u_M_is_4, u_M_is_5, u_M_is_8, u_M_is_9, u_M_is_12, u_M_is_13, u_M_is_16, u_M_is_17, u_M_is_20, u_M_is_21, u_M_is_24, u_M_is_25, ne_eq, not_false_eq_true, not_true_eq_false, true_and, and_true, true_or, or_true, eq_self, Option.toList_some, Option.toList_none, List.cons_append, List.nil_append, tc_0, tc_I, tc_L, tc_A, Nat.reduceAdd, Nat.reduceLeDiff, Nat.reduceEqDiff, Int.reduceEq, Int.reduceLT, Int.reduceLE, Int.reduceNeg, Int.reduceToNat, Int.cast_ofNat_Int, if_true, if_false, and_self, or_self, ite_self, bI_0, bI_1, bI_01, Bool.false_eq_true, reduceCtorEq, h1_156, gt_156_6, gt_156_7, hl.2.1, hl.2.2.1, this.1, this.2, u_M_wants_6, u_M_wants_9, u_M_wants_10, u_M_wants_11, u_M_wants_12, u_M_wants_15, u_M_wants_18, u_M_wants_19, u_M_wants_20]
    refine p_take hL hn6 h' hl (by omega) (by omega) (fun g2 h2 => ?_)
    simp only [u_M_wants_23, u_M_wants_24, ne_eq, not_false_eq_true, not_true_eq_false, true_and, and_true, true_or, or_true, eq_self, Option.toList_some, Option.toList_none, List.cons_append, List.nil_append, tc_0, tc_I, tc_L, tc_A, Nat.reduceAdd, Nat.reduceLeDiff, Nat.reduceEqDiff, Int.reduceEq, Int.reduceLT, Int.reduceLE, Int.reduceNeg, Int.reduceToNat, Int.cast_ofNat_Int, if_true, if_false, and_self, or_self, ite_self, bI_0, bI_1, bI_01, Bool.false_eq_true, reduceCtorEq]
    exact hY e g2 h2
  · by_cases e1 : srt (Tk y len k) = 5
    · have e2 : ¬ whc (Tk y len k) = w := fun h2 => e (hi.mp ⟨e1, h2⟩)
      simp only [u_M_is_4, u_M_is_5, u_M_is_8, u_M_is_9, u_M_is_12, u_M_is_13, u_M_is_16, u_M_is_17, u_M_is_20, u_M_is_21, u_M_is_24, u_M_is_25, ne_eq, not_false_eq_true, not_true_eq_false, true_and, and_true, true_or, or_true, eq_self, Option.toList_some, Option.toList_none, List.cons_append, List.nil_append, tc_0, tc_I, tc_L, tc_A, Nat.reduceAdd, Nat.reduceLeDiff, Nat.reduceEqDiff, Int.reduceEq, Int.reduceLT, Int.reduceLE, Int.reduceNeg, Int.reduceToNat, Int.cast_ofNat_Int, if_true, if_false, and_self, or_self, ite_self, bI_0, bI_1, bI_01, Bool.false_eq_true, reduceCtorEq, h1_156, gt_156_6, gt_156_7, hl.2.1, hl.2.2.1, e1, e2, u_M_wants_6]
      exact hfail e
    · simp only [u_M_is_4, u_M_is_5, u_M_is_8, u_M_is_9, u_M_is_12, u_M_is_13, u_M_is_16, u_M_is_17, u_M_is_20, u_M_is_21, u_M_is_24, u_M_is_25, ne_eq, not_false_eq_true, not_true_eq_false, true_and, and_true, true_or, or_true, eq_self, Option.toList_some, Option.toList_none, List.cons_append, List.nil_append, tc_0, tc_I, tc_L, tc_A, Nat.reduceAdd, Nat.reduceLeDiff, Nat.reduceEqDiff, Int.reduceEq, Int.reduceLT, Int.reduceLE, Int.reduceNeg, Int.reduceToNat, Int.cast_ofNat_Int, if_true, if_false, and_self, or_self, ite_self, bI_0, bI_1, bI_01, Bool.false_eq_true, reduceCtorEq, h1_156, gt_156_6, gt_156_7, hl.2.1, hl.2.2.1, e1, u_M_wants_6]
      exact hfail e
theorem p_new (hL : Lexd y n len) (hn6 : n ≤ 600) (hc : c = 8) (hF : FS gs g) (hM : MR y n len k 0 0 0 g) (hl : LKs y len k g) (hC : CT (k + 1) σ br g) (hσ : okSg σ) (hz : z = sk y (eN y k.toNat)) (hk : Tk y len k = 204 ∨ Tk y len k = 205) (hQ : RS y n len gs f t br Q k (fin (Tk y len) k (lf σ (pNew c (Tk y len) k)))) : VV L (d + 60) m_M_readStep 105 [some (tA 156), some (tI z), some (tI o_), none, none, none, none, none] [] (WW f t g) Q := by
  have hn1 : nIns (Tk y len k) = 1 := nIns_1 (by omega)
  refine p_key hL hn6 hM hl (by omega) (fun g1 h1 => ?_)
  unfold pNew at hQ
  simp only [u_M_readStep_181, u_M_readStep_182, u_M_readStep_183, u_M_readStep_186, u_M_readStep_187, u_M_readStep_189, u_M_readStep_256, u_M_readStep_257, u_M_readStep_258, u_M_readStep_287, u_M_readStep_288, u_M_readStep_289, u_M_readStep_292, u_M_readStep_293, ne_eq, not_false_eq_true, not_true_eq_false, true_and, and_true, true_or, or_true, eq_self, Option.toList_some, Option.toList_none, List.cons_append, List.nil_append, tc_0, tc_I, tc_L, tc_A, Nat.reduceAdd, Nat.reduceLeDiff, Nat.reduceEqDiff, Int.reduceEq, Int.reduceLT, Int.reduceLE, Int.reduceNeg, Int.reduceToNat, Int.cast_ofNat_Int, if_true, if_false, and_self, or_self, ite_self, bI_0, bI_1, bI_01, Bool.false_eq_true, reduceCtorEq, h1_156, show ¬ Tk y len k - 200 ≤ 1 by omega, show ¬ Tk y len k - 200 = 14 by omega, show 3 < Tk y len k - 200 by omega, show ¬ 5 < Tk y len k - 200 by omega]
  refine m_look hL h1 (fun g2 h2 hl2 => ?_)
  have hgo : ∀ rw_ : Int, (rw_ = -1 ∨ (0 ≤ rw_ ∧ rw_ < 6)) → (kRow (Tk y len (k + 1)) = true → rw_ = Tk y len (k + 1) - 65) → VV L (d + 60) m_M_readStep 314 [some (tA 156), some (tI z), some (tI o_), some (tI (Tk y len k - 200)), some (tI (-1)), some (tI rw_), some (tI 1), none] [] (WW f t g2) Q := by
    intro rw_ hrr hrw
    simp only [u_M_readStep_314, u_M_readStep_315, u_M_readStep_316, ne_eq, not_false_eq_true, not_true_eq_false, true_and, and_true, true_or, or_true, eq_self, Option.toList_some, Option.toList_none, List.cons_append, List.nil_append, tc_0, tc_I, tc_L, tc_A, Nat.reduceAdd, Nat.reduceLeDiff, Nat.reduceEqDiff, Int.reduceEq, Int.reduceLT, Int.reduceLE, Int.reduceNeg, Int.reduceToNat, Int.cast_ofNat_Int, if_true, if_false, and_self, or_self, ite_self, bI_0, bI_1, bI_01, Bool.false_eq_true, reduceCtorEq, h1_156]
    refine p_wantsS (d := d + 55) hL hn6 h2 (by omega) (fun hs g3 h3 => ?_) (fun hs g3 a b e => ?_)
    · have hr := srt_iff.2.2.1.mp hs
      rw [if_pos hr] at hQ
      rw [show k + 1 + 1 = k + 2 by omega] at h3
      simp only [u_M_readStep_319, u_M_readStep_322, u_M_readStep_323, ne_eq, not_false_eq_true, not_true_eq_false, true_and, and_true, true_or, or_true, eq_self, Option.toList_some, Option.toList_none, List.cons_append, List.nil_append, tc_0, tc_I, tc_L, tc_A, Nat.reduceAdd, Nat.reduceLeDiff, Nat.reduceEqDiff, Int.reduceEq, Int.reduceLT, Int.reduceLE, Int.reduceNeg, Int.reduceToNat, Int.cast_ofNat_Int, if_true, if_false, and_self, or_self, ite_self, bI_0, bI_1, bI_01, Bool.false_eq_true, reduceCtorEq, h1_156]
      refine p_readKind (d := d + 55) hL hn6 h3 (fun hkd g4 h4 => ?_) (fun hkd g4 a b e => ?_)
      · rw [if_pos hkd] at hQ
        rw [show k + 2 + 1 = k + 3 by omega] at h4
        simp only [u_M_readStep_326, u_M_readStep_329, u_M_readStep_330, ne_eq, not_false_eq_true, not_true_eq_false, true_and, and_true, true_or, or_true, eq_self, Option.toList_some, Option.toList_none, List.cons_append, List.nil_append, tc_0, tc_I, tc_L, tc_A, Nat.reduceAdd, Nat.reduceLeDiff, Nat.reduceEqDiff, Int.reduceEq, Int.reduceLT, Int.reduceLE, Int.reduceNeg, Int.reduceToNat, Int.cast_ofNat_Int, if_true, if_false, and_self, or_self, ite_self, bI_0, bI_1, bI_01, Bool.false_eq_true, reduceCtorEq, h1_156]
        refine p_E8 (d := d + 9) hL hn6 hc h4 (by rw [show k + 3 - 1 = k + 2 by omega]; unfold kKind at hkd; unfold kEnd; simp at hkd ⊢; omega) ?_
        cases hp : pX c (Tk y len) (k + 3) with
        | error e =>
          obtain ⟨w, i, q⟩ := e
          rw [hp] at hQ
          intro g5 a b e
          simp only [u_M_readStep_333, u_M_readStep_336, u_M_readStep_337, u_M_readStep_340, u_M_readStep_341, u_M_readStep_343, ne_eq, not_false_eq_true, not_true_eq_false, true_and, and_true, true_or, or_true, eq_self, Option.toList_some, Option.toList_none, List.cons_append, List.nil_append, tc_0, tc_I, tc_L, tc_A, Nat.reduceAdd, Nat.reduceLeDiff, Nat.reduceEqDiff, Int.reduceEq, Int.reduceLT, Int.reduceLE, Int.reduceNeg, Int.reduceToNat, Int.cast_ofNat_Int, if_true, if_false, and_self, or_self, ite_self, bI_0, bI_1, bI_01, Bool.false_eq_true, reduceCtorEq]
          exact p_583e hQ (FS_FE hF a) b e
        | ok q =>
          obtain ⟨x, j⟩ := q
          rw [hp] at hQ
          intro g5 N5 R5 h5 hN5 hK5 hlt5
          simp only [u_M_readStep_333, u_M_readStep_336, u_M_readStep_337, u_M_readStep_340, u_M_readStep_341, u_M_readStep_343, ne_eq, not_false_eq_true, not_true_eq_false, true_and, and_true, true_or, or_true, eq_self, Option.toList_some, Option.toList_none, List.cons_append, List.nil_append, tc_0, tc_I, tc_L, tc_A, Nat.reduceAdd, Nat.reduceLeDiff, Nat.reduceEqDiff, Int.reduceEq, Int.reduceLT, Int.reduceLE, Int.reduceNeg, Int.reduceToNat, Int.cast_ofNat_Int, if_true, if_false, and_self, or_self, ite_self, bI_0, bI_1, bI_01, Bool.false_eq_true, reduceCtorEq]
          refine p_end (d := d + 54) (op := 0) (N := N5) (R := R5) hL hn6 (FS_FE hF h5.1) h5.2 (CT_FC hC (FC_of h5.1) (by omega)) hσ hz (Or.inl rfl) hrr hn1.symm (by omega) (fun h59 => ?_) hQ
          have hrw' := hrw hr
          have hx2 : 65 ≤ Tk y len (k + 1) ∧ Tk y len (k + 1) ≤ 70 := by unfold kRow at hr; simp at hr; omega
          unfold inIt
          rw [if_pos (by omega), hasTk_1 (by omega) (by omega)]
          have hb := hN5.2 rw_.toNat (by omega)
          rw [Nat.zero_testBit, Bool.false_or, show (65 : Int) + (rw_.toNat : Int) = Tk y len (k + 1) by omega] at hb
          rw [hb]
          constructor
          · intro hh; rcases hh with hh | hh
            · omega
            · exact hh.2
          · intro hh; exact Or.inr ⟨by omega, hh⟩
      · rw [if_neg hkd] at hQ
        simp only [u_M_readStep_326, u_M_readStep_329, u_M_readStep_330, u_M_readStep_333, u_M_readStep_336, u_M_readStep_337, u_M_readStep_340, u_M_readStep_341, u_M_readStep_343, ne_eq, not_false_eq_true, not_true_eq_false, true_and, and_true, true_or, or_true, eq_self, Option.toList_some, Option.toList_none, List.cons_append, List.nil_append, tc_0, tc_I, tc_L, tc_A, Nat.reduceAdd, Nat.reduceLeDiff, Nat.reduceEqDiff, Int.reduceEq, Int.reduceLT, Int.reduceLE, Int.reduceNeg, Int.reduceToNat, Int.cast_ofNat_Int, if_true, if_false, and_self, or_self, ite_self, bI_0, bI_1, bI_01, Bool.false_eq_true, reduceCtorEq]
        exact p_583e hQ (FS_FE hF a) b e
    · rw [if_neg (fun hh => hs (srt_iff.2.2.1.mpr hh))] at hQ
      simp only [u_M_readStep_319, u_M_readStep_322, u_M_readStep_323, u_M_readStep_326, u_M_readStep_329, u_M_readStep_330, u_M_readStep_333, u_M_readStep_336, u_M_readStep_337, u_M_readStep_340, u_M_readStep_341, u_M_readStep_343, ne_eq, not_false_eq_true, not_true_eq_false, true_and, and_true, true_or, or_true, eq_self, Option.toList_some, Option.toList_none, List.cons_append, List.nil_append, tc_0, tc_I, tc_L, tc_A, Nat.reduceAdd, Nat.reduceLeDiff, Nat.reduceEqDiff, Int.reduceEq, Int.reduceLT, Int.reduceLE, Int.reduceNeg, Int.reduceToNat, Int.cast_ofNat_Int, if_true, if_false, and_self, or_self, ite_self, bI_0, bI_1, bI_01, Bool.false_eq_true, reduceCtorEq]
      exact p_583e hQ (FS_FE hF a) b e
  by_cases hr : kRow (Tk y len (k + 1)) = true
  · have hx2 : 65 ≤ Tk y len (k + 1) ∧ Tk y len (k + 1) ≤ 70 := by unfold kRow at hr; simp at hr; omega
    simp only [u_M_readStep_296, u_M_readStep_297, u_M_readStep_300, u_M_readStep_301, u_M_readStep_304, u_M_readStep_305, u_M_readStep_308, u_M_readStep_311, u_M_readStep_312, ne_eq, not_false_eq_true, not_true_eq_false, true_and, and_true, true_or, or_true, eq_self, Option.toList_some, Option.toList_none, List.cons_append, List.nil_append, tc_0, tc_I, tc_L, tc_A, Nat.reduceAdd, Nat.reduceLeDiff, Nat.reduceEqDiff, Int.reduceEq, Int.reduceLT, Int.reduceLE, Int.reduceNeg, Int.reduceToNat, Int.cast_ofNat_Int, if_true, if_false, and_self, or_self, ite_self, bI_0, bI_1, bI_01, Bool.false_eq_true, reduceCtorEq, h1_156, gt_156_6, gt_156_7, hl2.2.1, hl2.2.2.1, (srt_r hr).1, (srt_r hr).2]
    exact hgo _ (Or.inr (by omega)) (fun _ => rfl)
  · have s3 : ¬ srt (Tk y len (k + 1)) = 3 := fun hh => hr (srt_iff.2.2.1.mp hh)
    simp only [u_M_readStep_296, u_M_readStep_297, u_M_readStep_300, u_M_readStep_301, u_M_readStep_304, u_M_readStep_305, u_M_readStep_308, u_M_readStep_311, u_M_readStep_312, ne_eq, not_false_eq_true, not_true_eq_false, true_and, and_true, true_or, or_true, eq_self, Option.toList_some, Option.toList_none, List.cons_append, List.nil_append, tc_0, tc_I, tc_L, tc_A, Nat.reduceAdd, Nat.reduceLeDiff, Nat.reduceEqDiff, Int.reduceEq, Int.reduceLT, Int.reduceLE, Int.reduceNeg, Int.reduceToNat, Int.cast_ofNat_Int, if_true, if_false, and_self, or_self, ite_self, bI_0, bI_1, bI_01, Bool.false_eq_true, reduceCtorEq, h1_156, gt_156_6, gt_156_7, hl2.2.1, hl2.2.2.1, s3]
    exact hgo _ (Or.inl rfl) (fun hh => absurd hh hr)
end
