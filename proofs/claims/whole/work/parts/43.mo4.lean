/-! The reference's look, whole -/
theorem keyR_t {y : Int → Int} {fr en : Int} : ∀ (m : Nat) (k : Int), 0 ≤ k → k + 6 * m ≤ 132 → keyR y fr en m k = 1 ∨ (200 ≤ keyR y fr en m k ∧ keyR y fr en m k ≤ 221) := by
  intro m
  induction m with
  | zero => intro k h h2; exact Or.inl rfl
  | succ m ih =>
    intro k h h2
    unfold keyR
    split
    · have := Int.tdiv_eq_ediv_of_nonneg (b := 6) h; omega
    · exact ih (k + 6) (by omega) (by omega)
theorem keyC_t {y : Int → Int} {fr en : Int} : keyC y fr en = 1 ∨ (200 ≤ keyC y fr en ∧ keyC y fr en ≤ 221) := by
  unfold keyC
  split
  · exact Or.inl rfl
  · exact keyR_t 22 0 (by omega) (by omega)
def okG (g : Mem) : Prop := 0 ≤ g 156 1 ∧ g 156 1 ≤ 600 ∧ ∀ i : Nat, (i : Int) < g 156 1 → 32 ≤ g 157 i ∧ g 157 i ≤ 126
theorem ym_yb {g : Mem} : yb (fun _ j => g 157 j) (g 156 1) = ym g := rfl
/-- the token that look sees from i on, and where it ends -/
def lkT (y : Int → Int) (n i : Int) : Int := if sk y i < n then tv y (sk y i) else 0
def lkE (y : Int → Int) (n i : Int) : Int := if sk y i < n then te y (sk y i) else sk y i
def lkg (g : Mem) : Mem := lk5 g (sk (ym g) (g 156 4)) (sk (ym g) (g 156 4)) (srt (lkT (ym g) (g 156 1) (g 156 4))) (whc (lkT (ym g) (g 156 1) (g 156 4))) (lkE (ym g) (g 156 1) (g 156 4))
section
variable {L d : Nat} {f t g : Mem} {Q : Option TV → Wd → Prop}
set_option maxHeartbeats 4000000 in
theorem s_M_look (hg : okG g) (h0 : 0 ≤ g 156 4) (h1 : g 156 4 ≤ g 156 1) : VV L (d + 3) m_M_look 0 [some (tA 156), none, none] [] (WW f t g) Q = Q none (WW f t (lkg g)) := by
  obtain ⟨hn0, hn, hb⟩ := hg
  have e0 := l_look0 (L := L) (d := d) (f := f) (t := t) (g := g) (Q := Q) (pl := g 156 5) (so := g 156 6) (wh := g 156 7) (ah := g 156 8) hn rfl 601 (g 156 4) h0 h1 (by omega)
  rw [lk_id] at e0
  have hsk := sk_le (f := fun _ j => g 157 j) (n := g 156 1) (i := g 156 4) hn h0 h1
  have hns := sk_ns (f := fun _ j => g 157 j) (n := g 156 1) (i := g 156 4) hn h0 h1
  rw [ym_yb] at hsk hns
  unfold lkg lkT lkE
  change _ = VV L (d + 3) m_M_look 26 [some (tA 156), none, none] [] (WW f t (lk5 g (sk (ym g) (g 156 4)) (g 156 5) (g 156 6) (g 156 7) (g 156 8))) Q at e0
  rw [e0]
  clear e0
  generalize hp : sk (ym g) (g 156 4) = p at hsk hns ⊢
  have hh : ∀ (i a b c e h : Int) (Q : Option TV → Wd → Prop), 0 ≤ i → VV L (d + 2) m_M_here 0 [some (tA 156), some (tI i)] [] (WW f t (lk5 g a b c e h)) Q = Q (some (tI (ym g i))) (WW f t (lk5 g a b c e h)) := by
    intro i a b c e h Q hi
    rw [s_M_here (by rw [lk_1]; exact hn) hi, lk_y]
  have wp1 : w32 (p + 1) = p + 1 := w32_id (by omega) (by omega)
  have wp2 : w32 (p + 2) = p + 2 := w32_id (by omega) (by omega)
  simp only [u_M_look_26, u_M_look_27, u_M_look_28, u_M_look_31, u_M_look_34, u_M_look_35, u_M_look_36, u_M_look_39, u_M_look_42, u_M_look_43, u_M_look_44, u_M_look_45, u_M_look_48, u_M_look_49, u_M_look_50, u_M_look_53, u_M_look_54, u_M_look_55, u_M_look_58, u_M_look_59, u_M_look_60, u_M_look_63, u_M_look_64, u_M_look_67, u_M_look_68, u_M_look_69, u_M_look_72, u_M_look_75, u_M_look_78, u_M_look_79, u_M_look_82, ne_eq, not_false_eq_true, not_true_eq_false, true_and, and_true, true_or, or_true, eq_self, Option.toList_some, Option.toList_none, List.cons_append, List.nil_append, tc_0, tc_I, tc_L, tc_A, Nat.reduceAdd, Nat.reduceLeDiff, Nat.reduceEqDiff, Int.reduceEq, Int.reduceLT, Int.reduceLE, Int.reduceNeg, Int.reduceToNat, Int.cast_ofNat_Int, if_true, if_false, and_self, or_self, ite_self, bI_0, bI_1, bI_01, Bool.false_eq_true, reduceCtorEq, h1_156, gt_156_4, pt_156_5, pt_156_6, pt_156_7, pt_156_8, lk_4, lk_w5, lk_w6, lk_w7, lk_w8, hh _ _ _ _ _ _ _ (show 0 ≤ p by omega), wp1, s_M_isLetter, bB_0, ite_not]
  by_cases hpn : p < g 156 1
  · have hte := te_b (f := fun _ j => g 157 j) hn (show 0 ≤ p by omega) hpn
    rw [ym_yb] at hte
    have hyp : ym g p = g 157 p.toNat := by unfold ym; rw [if_pos (by omega)]
    have hbp := hb p.toNat (by omega)
    rw [← hyp] at hbp
    have hc0 : ¬ ym g p = 0 := by omega
    simp only [hpn, hc0, ne_eq, not_false_eq_true, not_true_eq_false, true_and, and_true, true_or, or_true, eq_self, Option.toList_some, Option.toList_none, List.cons_append, List.nil_append, tc_0, tc_I, tc_L, tc_A, Nat.reduceAdd, Nat.reduceLeDiff, Nat.reduceEqDiff, Int.reduceEq, Int.reduceLT, Int.reduceLE, Int.reduceNeg, Int.reduceToNat, Int.cast_ofNat_Int, if_true, if_false, and_self, or_self, ite_self, bI_0, bI_1, bI_01, Bool.false_eq_true, reduceCtorEq]
    by_cases hl : kName (ym g p) = true
    · -- a word
      have hdig : ¬ kDig (ym g p) = true := by unfold kName at hl; unfold kDig; simp at hl ⊢; omega
      have e85 := l_look85 (L := L) (d := d) (f := f) (t := t) (g := g) (Q := Q) (at_ := p) (pl := p) (so := 0) (wh := 0) (c := ym g p) hn rfl 601 (p + 1) (by omega) (by omega) (by omega)
      have hte' : te (ym g) p = spF kName (ym g) 601 (p + 1) := by unfold te; rw [if_pos hl]
      rw [← hte'] at e85
      simp only [hl, ne_eq, not_false_eq_true, not_true_eq_false, true_and, and_true, true_or, or_true, eq_self, Option.toList_some, Option.toList_none, List.cons_append, List.nil_append, tc_0, tc_I, tc_L, tc_A, Nat.reduceAdd, Nat.reduceLeDiff, Nat.reduceEqDiff, Int.reduceEq, Int.reduceLT, Int.reduceLE, Int.reduceNeg, Int.reduceToNat, Int.cast_ofNat_Int, if_true, if_false, and_self, or_self, ite_self, bI_0, bI_1, bI_01, Bool.false_eq_true, reduceCtorEq, e85]
      unfold tv
      rw [if_neg hdig]
      by_cases h1' : te (ym g) p = p + 1
      · have hs : srt (ym g p) = 1 := by unfold srt; rw [if_neg (by omega), if_pos hl]
        have hw : whc (ym g p) = ym g p - 97 := by unfold whc; rw [if_neg (by omega), if_pos hl]
        simp only [u_M_look_112, u_M_look_113, u_M_look_116, u_M_look_117, u_M_look_120, u_M_look_121, u_M_look_122, u_M_look_125, u_M_look_126, u_M_look_127, u_M_look_130, u_M_look_131, u_M_look_132, u_M_look_134, u_M_look_135, u_M_look_138, u_M_look_141, u_M_look_142, u_M_look_143, u_M_look_144, u_M_look_147, u_M_look_148, u_M_look_151, u_M_look_152, u_M_look_155, u_M_look_156, u_M_look_159, u_M_look_162, u_M_look_163, u_M_look_164, u_M_look_167, u_M_look_170, u_M_look_171, u_M_look_174, u_M_look_175, u_M_look_178, u_M_look_415, ne_eq, not_false_eq_true, not_true_eq_false, true_and, and_true, true_or, or_true, eq_self, Option.toList_some, Option.toList_none, List.cons_append, List.nil_append, tc_0, tc_I, tc_L, tc_A, Nat.reduceAdd, Nat.reduceLeDiff, Nat.reduceEqDiff, Int.reduceEq, Int.reduceLT, Int.reduceLE, Int.reduceNeg, Int.reduceToNat, Int.cast_ofNat_Int, if_true, if_false, and_self, or_self, ite_self, bI_0, bI_1, bI_01, Bool.false_eq_true, reduceCtorEq, h1_156, gt_156_8, gt_156_4, pt_156_6, pt_156_7, lk_8, lk_4, lk_w6, lk_w7, wp1, h1', hs, hw, w32_id (show (-2147483648 : Int) ≤ ym g p - 97 by omega) (show ym g p - 97 < (2147483648 : Int) by omega)]
      · have hlet : ∀ i : Int, 0 ≤ i → i < te (ym g) p - p → ¬ ym (lk5 g p p 0 0 (te (ym g) p)) (p + i) = 32 := by
          intro i hi1 hi2
          rw [lk_y]
          have : kName (ym g (p + i)) = true := by
            by_cases e : i = 0
            · subst e; rw [Int.add_zero]; exact hl
            · exact spF_all (p := kName) (y := ym g) 601 (p + 1) (p + i) (by omega) (by omega)
          unfold kName at this; simp at this; omega
        have hka := fun Q => s_M_keyAt (L := L) (d := d + 2) (f := f) (t := t) (g := lk5 g p p 0 0 (te (ym g) p)) (Q := Q) (fr := p) (n := te (ym g) p - p) (by rw [lk_1]; exact hn) (by omega) (by omega) (by rw [lk_1]; omega) hlet
        rw [lk_y, show p + (te (ym g) p - p) = te (ym g) p by omega] at hka
        simp only [u_M_look_112, u_M_look_113, u_M_look_116, u_M_look_117, u_M_look_120, u_M_look_121, u_M_look_122, u_M_look_125, u_M_look_126, u_M_look_127, u_M_look_130, u_M_look_131, u_M_look_132, u_M_look_134, u_M_look_135, u_M_look_138, u_M_look_141, u_M_look_142, u_M_look_143, u_M_look_144, u_M_look_147, u_M_look_148, u_M_look_151, u_M_look_152, u_M_look_155, u_M_look_156, u_M_look_159, u_M_look_162, u_M_look_163, u_M_look_164, u_M_look_167, u_M_look_170, u_M_look_171, u_M_look_174, u_M_look_175, u_M_look_178, u_M_look_415, ne_eq, not_false_eq_true, not_true_eq_false, true_and, and_true, true_or, or_true, eq_self, Option.toList_some, Option.toList_none, List.cons_append, List.nil_append, tc_0, tc_I, tc_L, tc_A, Nat.reduceAdd, Nat.reduceLeDiff, Nat.reduceEqDiff, Int.reduceEq, Int.reduceLT, Int.reduceLE, Int.reduceNeg, Int.reduceToNat, Int.cast_ofNat_Int, if_true, if_false, and_self, or_self, ite_self, bI_0, bI_1, bI_01, Bool.false_eq_true, reduceCtorEq, h1_156, gt_156_8, gt_156_4, gt_156_7, pt_156_6, pt_156_7, lk_8, lk_4, lk_7, lk_w6, lk_w7, wp1, h1', w32_id (show (-2147483648 : Int) ≤ te (ym g) p - p by omega) (show te (ym g) p - p < (2147483648 : Int) by omega), hka, hl]
        rcases keyC_t (y := ym g) (fr := p) (en := te (ym g) p) with hk | hk
        · rw [hk]; rfl
        · have hs : srt (keyC (ym g) p (te (ym g) p)) = 5 := by
            unfold srt kName kRow kStk; simp; omega
          have hw : whc (keyC (ym g) p (te (ym g) p)) = keyC (ym g) p (te (ym g) p) - 200 := by
            unfold whc kName kRow kStk; simp; omega
          simp only [show ¬ keyC (ym g) p (te (ym g) p) = 1 by omega, ne_eq, not_false_eq_true, not_true_eq_false, true_and, and_true, true_or, or_true, eq_self, Option.toList_some, Option.toList_none, List.cons_append, List.nil_append, tc_0, tc_I, tc_L, tc_A, Nat.reduceAdd, Nat.reduceLeDiff, Nat.reduceEqDiff, Int.reduceEq, Int.reduceLT, Int.reduceLE, Int.reduceNeg, Int.reduceToNat, Int.cast_ofNat_Int, if_true, if_false, and_self, or_self, ite_self, bI_0, bI_1, bI_01, Bool.false_eq_true, reduceCtorEq, hs, hw, show 0 ≤ keyC (ym g) p (te (ym g) p) - 200 by omega, u_M_look_174, u_M_look_175, u_M_look_178, u_M_look_415, h1_156, pt_156_6, lk_w6]
    · by_cases hdig : kDig (ym g p) = true
      · -- a number
        have e188 := l_look188 (L := L) (d := d) (f := f) (t := t) (g := g) (Q := Q) (at_ := p) (pl := p) (so := 0) (wh := 0) (c := ym g p) hn rfl (by omega) hpn 8 (p + 1) (by omega) (by omega) (by omega)
        have hte' : te (ym g) p = spF kDig (ym g) 8 (p + 1) := by unfold te; rw [if_neg hl, if_pos hdig]
        have hge := spF_ge (p := kDig) (y := ym g) 8 (p + 1)
        rw [← hte'] at e188 hge
        have hall : ∀ j, p ≤ j → j < te (ym g) p → 48 ≤ ym g j ∧ ym g j ≤ 57 := by
          intro j hj1 hj2
          have : kDig (ym g j) = true := by
            by_cases e : j = p
            · subst e; exact hdig
            · exact spF_all (p := kDig) (y := ym g) 8 (p + 1) j (by omega) (by omega)
          unfold kDig at this; simp at this; omega
        have hbn := bnd_9 (te (ym g) p - p).toNat (by omega)
        have e239 := l_look239 (L := L) (d := d) (f := f) (t := t) (g := g) (Q := Q) (at_ := p) (pl := p) (so := 2) (c := ym g p) (en := te (ym g) p) hn hte.2 (te (ym g) p - p).toNat p 0 (by omega) (by omega) (by omega) (by omega) (by omega) hall
        have hnb := numF_b (y := ym g) (te (ym g) p - p).toNat p 0 (by omega) (by omega) (by omega) (fun j a b => hall j a (by omega))
        simp only [hl, hdig, ne_eq, not_false_eq_true, not_true_eq_false, true_and, and_true, true_or, or_true, eq_self, Option.toList_some, Option.toList_none, List.cons_append, List.nil_append, tc_0, tc_I, tc_L, tc_A, Nat.reduceAdd, Nat.reduceLeDiff, Nat.reduceEqDiff, Int.reduceEq, Int.reduceLT, Int.reduceLE, Int.reduceNeg, Int.reduceToNat, Int.cast_ofNat_Int, if_true, if_false, and_self, or_self, ite_self, bI_0, bI_1, bI_01, Bool.false_eq_true, reduceCtorEq, u_M_look_181, u_M_look_182, u_M_look_185, s_M_isDigit, bB_0, e188, ite_not]
        simp only [u_M_look_229, u_M_look_230, u_M_look_231, u_M_look_234, u_M_look_235, u_M_look_238, ne_eq, not_false_eq_true, not_true_eq_false, true_and, and_true, true_or, or_true, eq_self, Option.toList_some, Option.toList_none, List.cons_append, List.nil_append, tc_0, tc_I, tc_L, tc_A, Nat.reduceAdd, Nat.reduceLeDiff, Nat.reduceEqDiff, Int.reduceEq, Int.reduceLT, Int.reduceLE, Int.reduceNeg, Int.reduceToNat, Int.cast_ofNat_Int, if_true, if_false, and_self, or_self, ite_self, bI_0, bI_1, bI_01, Bool.false_eq_true, reduceCtorEq, h1_156, gt_156_4, pt_156_6, lk_4, lk_w6, e239]
        unfold tv
        rw [if_pos hdig]
        have hs : srt (-1 - numF (ym g) (te (ym g) p - p).toNat p 0) = 2 := by unfold srt; rw [if_pos (by omega)]
        have hw : whc (-1 - numF (ym g) (te (ym g) p - p).toNat p 0) = numF (ym g) (te (ym g) p - p).toNat p 0 := by unfold whc; rw [if_pos (by omega)]; omega
        rw [hs, hw]
      · have hkn : ¬ (97 ≤ ym g p ∧ ym g p ≤ 122) := by unfold kName at hl; simpa using hl
        have hkd : ¬ (48 ≤ ym g p ∧ ym g p ≤ 57) := by unfold kDig at hdig; simpa using hdig
        simp only [hl, hdig, ne_eq, not_false_eq_true, not_true_eq_false, true_and, and_true, true_or, or_true, eq_self, Option.toList_some, Option.toList_none, List.cons_append, List.nil_append, tc_0, tc_I, tc_L, tc_A, Nat.reduceAdd, Nat.reduceLeDiff, Nat.reduceEqDiff, Int.reduceEq, Int.reduceLT, Int.reduceLE, Int.reduceNeg, Int.reduceToNat, Int.cast_ofNat_Int, if_true, if_false, and_self, or_self, ite_self, bI_0, bI_1, bI_01, Bool.false_eq_true, reduceCtorEq, u_M_look_181, u_M_look_182, u_M_look_185, s_M_isDigit, bB_0, ite_not]
        by_cases hcap : 65 ≤ ym g p ∧ ym g p ≤ 90
        · have hpr : pr2 (ym g p) (ym g (p + 1)) = 1 := by unfold pr2; rw [if_neg (by omega), if_neg (by omega), if_neg (by omega), if_neg (by omega), if_neg (by omega), if_neg (by omega)]
          have hte' : te (ym g) p = p + 1 := by unfold te; rw [if_neg hl, if_neg hdig, if_pos hpr]
          have htv : tv (ym g) p = ym g p := by unfold tv; rw [if_neg hdig, if_pos hte']
          rw [htv, hte']
          by_cases hr : 65 ≤ ym g p ∧ ym g p ≤ 70
          · have hs : srt (ym g p) = 3 := by unfold srt kName kRow; simp; omega
            have hw : whc (ym g p) = ym g p - 65 := by unfold whc kName kRow; simp; omega
            simp only [u_M_look_277, u_M_look_278, u_M_look_280, u_M_look_282, u_M_look_285, u_M_look_288, u_M_look_289, u_M_look_291, u_M_look_293, u_M_look_296, u_M_look_299, u_M_look_300, u_M_look_301, u_M_look_303, u_M_look_306, u_M_look_307, u_M_look_310, u_M_look_311, u_M_look_314, u_M_look_315, u_M_look_316, u_M_look_318, u_M_look_321, u_M_look_322, u_M_look_324, u_M_look_325, u_M_look_328, u_M_look_329, u_M_look_331, u_M_look_332, u_M_look_335, u_M_look_338, u_M_look_339, u_M_look_341, u_M_look_343, u_M_look_346, u_M_look_415, ne_eq, not_false_eq_true, not_true_eq_false, true_and, and_true, true_or, or_true, eq_self, Option.toList_some, Option.toList_none, List.cons_append, List.nil_append, tc_0, tc_I, tc_L, tc_A, Nat.reduceAdd, Nat.reduceLeDiff, Nat.reduceEqDiff, Int.reduceEq, Int.reduceLT, Int.reduceLE, Int.reduceNeg, Int.reduceToNat, Int.cast_ofNat_Int, if_true, if_false, and_self, or_self, ite_self, bI_0, bI_1, bI_01, Bool.false_eq_true, reduceCtorEq, s_M_in, bB_0, decide_eq_true_eq, hr, show ¬ 70 < ym g p by omega, h1_156, pt_156_6, pt_156_7, lk_w6, lk_w7, hs, hw, w32_id (show (-2147483648 : Int) ≤ ym g p - 65 by omega) (show ym g p - 65 < (2147483648 : Int) by omega)]
          · by_cases hst : 83 ≤ ym g p ∧ ym g p ≤ 86
            · have hs : srt (ym g p) = 4 := by unfold srt kName kRow kStk; simp; omega
              have hw : whc (ym g p) = ym g p - 83 := by unfold whc kName kRow kStk; simp; omega
              simp only [u_M_look_277, u_M_look_278, u_M_look_280, u_M_look_282, u_M_look_285, u_M_look_288, u_M_look_289, u_M_look_291, u_M_look_293, u_M_look_296, u_M_look_299, u_M_look_300, u_M_look_301, u_M_look_303, u_M_look_306, u_M_look_307, u_M_look_310, u_M_look_311, u_M_look_314, u_M_look_315, u_M_look_316, u_M_look_318, u_M_look_321, u_M_look_322, u_M_look_324, u_M_look_325, u_M_look_328, u_M_look_329, u_M_look_331, u_M_look_332, u_M_look_335, u_M_look_338, u_M_look_339, u_M_look_341, u_M_look_343, u_M_look_346, u_M_look_415, ne_eq, not_false_eq_true, not_true_eq_false, true_and, and_true, true_or, or_true, eq_self, Option.toList_some, Option.toList_none, List.cons_append, List.nil_append, tc_0, tc_I, tc_L, tc_A, Nat.reduceAdd, Nat.reduceLeDiff, Nat.reduceEqDiff, Int.reduceEq, Int.reduceLT, Int.reduceLE, Int.reduceNeg, Int.reduceToNat, Int.cast_ofNat_Int, if_true, if_false, and_self, or_self, ite_self, bI_0, bI_1, bI_01, Bool.false_eq_true, reduceCtorEq, s_M_in, bB_0, decide_eq_true_eq, hr, hst, show 70 < ym g p by omega, h1_156, pt_156_6, pt_156_7, lk_w6, lk_w7, hs, hw, w32_id (show (-2147483648 : Int) ≤ ym g p - 83 by omega) (show ym g p - 83 < (2147483648 : Int) by omega)]
            · have hs : srt (ym g p) = 0 := by unfold srt kName kRow kStk; simp; omega
              have hw : whc (ym g p) = 0 := by unfold whc kName kRow kStk; simp; omega
              simp only [u_M_look_277, u_M_look_278, u_M_look_280, u_M_look_282, u_M_look_285, u_M_look_288, u_M_look_289, u_M_look_291, u_M_look_293, u_M_look_296, u_M_look_299, u_M_look_300, u_M_look_301, u_M_look_303, u_M_look_306, u_M_look_307, u_M_look_310, u_M_look_311, u_M_look_314, u_M_look_315, u_M_look_316, u_M_look_318, u_M_look_321, u_M_look_322, u_M_look_324, u_M_look_325, u_M_look_328, u_M_look_329, u_M_look_331, u_M_look_332, u_M_look_335, u_M_look_338, u_M_look_339, u_M_look_341, u_M_look_343, u_M_look_346, u_M_look_415, ne_eq, not_false_eq_true, not_true_eq_false, true_and, and_true, true_or, or_true, eq_self, Option.toList_some, Option.toList_none, List.cons_append, List.nil_append, tc_0, tc_I, tc_L, tc_A, Nat.reduceAdd, Nat.reduceLeDiff, Nat.reduceEqDiff, Int.reduceEq, Int.reduceLT, Int.reduceLE, Int.reduceNeg, Int.reduceToNat, Int.cast_ofNat_Int, if_true, if_false, and_self, or_self, ite_self, bI_0, bI_1, bI_01, Bool.false_eq_true, reduceCtorEq, s_M_in, bB_0, decide_eq_true_eq, show ¬ ym g p ≤ 70 by omega, hst, hcap.1, hcap.2, hs, hw]
        · have hr : ¬ (65 ≤ ym g p ∧ ym g p ≤ 70) := by omega
          have hst : ¬ (83 ≤ ym g p ∧ ym g p ≤ 86) := by omega
          have hprb := pr2_b (a := ym g p) (b := ym g (p + 1))
          simp only [u_M_look_277, u_M_look_278, u_M_look_280, u_M_look_282, u_M_look_285, u_M_look_288, u_M_look_289, u_M_look_291, u_M_look_293, u_M_look_296, u_M_look_299, u_M_look_300, u_M_look_301, u_M_look_303, u_M_look_306, u_M_look_307, u_M_look_310, u_M_look_311, u_M_look_314, u_M_look_315, u_M_look_316, u_M_look_318, u_M_look_321, u_M_look_322, u_M_look_324, u_M_look_325, u_M_look_328, u_M_look_329, u_M_look_331, u_M_look_332, u_M_look_335, u_M_look_338, u_M_look_339, u_M_look_341, u_M_look_343, u_M_look_346, u_M_look_349, u_M_look_350, u_M_look_351, u_M_look_352, u_M_look_355, u_M_look_356, u_M_look_357, u_M_look_360, u_M_look_363, u_M_look_364, u_M_look_365, u_M_look_366, u_M_look_369, u_M_look_371, u_M_look_374, u_M_look_376, u_M_look_379, u_M_look_380, u_M_look_381, u_M_look_384, u_M_look_385, u_M_look_388, u_M_look_389, u_M_look_392, u_M_look_393, u_M_look_394, u_M_look_397, u_M_look_398, u_M_look_401, u_M_look_402, u_M_look_403, u_M_look_406, u_M_look_407, u_M_look_410, u_M_look_411, u_M_look_412, u_M_look_415, ne_eq, not_false_eq_true, not_true_eq_false, true_and, and_true, true_or, or_true, eq_self, Option.toList_some, Option.toList_none, List.cons_append, List.nil_append, tc_0, tc_I, tc_L, tc_A, Nat.reduceAdd, Nat.reduceLeDiff, Nat.reduceEqDiff, Int.reduceEq, Int.reduceLT, Int.reduceLE, Int.reduceNeg, Int.reduceToNat, Int.cast_ofNat_Int, if_true, if_false, and_self, or_self, ite_self, bI_0, bI_1, bI_01, Bool.false_eq_true, reduceCtorEq, s_M_in, bB_0, decide_eq_true_eq, hr, hst, hcap, h1_156, gt_156_4, lk_4, wp1, wp2, hh _ _ _ _ _ _ _ (show 0 ≤ p + 1 by omega), s_M_twoOf, pt_156_6, pt_156_7, pt_156_8, lk_w6, lk_w7, lk_w8]
          rw [tw_pr2]
          unfold tv te
          rw [if_neg hl, if_neg hdig]
          by_cases hp1 : pr2 (ym g p) (ym g (p + 1)) = 1
          · have hs : srt (ym g p) = 7 := by unfold srt kName kRow kStk; simp; omega
            have hw : whc (ym g p) = ym g p := by unfold whc kName kRow kStk; simp; omega
            simp only [hp1, ne_eq, not_false_eq_true, not_true_eq_false, true_and, and_true, true_or, or_true, eq_self, Option.toList_some, Option.toList_none, List.cons_append, List.nil_append, tc_0, tc_I, tc_L, tc_A, Nat.reduceAdd, Nat.reduceLeDiff, Nat.reduceEqDiff, Int.reduceEq, Int.reduceLT, Int.reduceLE, Int.reduceNeg, Int.reduceToNat, Int.cast_ofNat_Int, if_true, if_false, and_self, or_self, ite_self, bI_0, bI_1, bI_01, Bool.false_eq_true, reduceCtorEq, hdig, hs, hw]
          · simp only [hp1, ne_eq, not_false_eq_true, not_true_eq_false, true_and, and_true, true_or, or_true, eq_self, Option.toList_some, Option.toList_none, List.cons_append, List.nil_append, tc_0, tc_I, tc_L, tc_A, Nat.reduceAdd, Nat.reduceLeDiff, Nat.reduceEqDiff, Int.reduceEq, Int.reduceLT, Int.reduceLE, Int.reduceNeg, Int.reduceToNat, Int.cast_ofNat_Int, if_true, if_false, and_self, or_self, ite_self, bI_0, bI_1, bI_01, Bool.false_eq_true, reduceCtorEq, hdig, hl, show ¬ p + 2 = p + 1 by omega]
            have hv : pr2 (ym g p) (ym g (p + 1)) = 128 ∨ pr2 (ym g p) (ym g (p + 1)) = 129 ∨ pr2 (ym g p) (ym g (p + 1)) = 130 ∨ pr2 (ym g p) (ym g (p + 1)) = 131 ∨ pr2 (ym g p) (ym g (p + 1)) = 132 ∨ pr2 (ym g p) (ym g (p + 1)) = 133 := by
              revert hp1; unfold pr2; (repeat' split) <;> simp
            rcases hv with h | h | h | h | h | h <;> rw [h] <;> rfl
  · have hy0 : ym g p = 0 := by unfold ym; rw [if_neg (by omega)]
    have hs : srt 0 = 0 := rfl
    have hw : whc 0 = 0 := rfl
    simp only [hpn, hy0, ne_eq, not_false_eq_true, not_true_eq_false, true_and, and_true, true_or, or_true, eq_self, Option.toList_some, Option.toList_none, List.cons_append, List.nil_append, tc_0, tc_I, tc_L, tc_A, Nat.reduceAdd, Nat.reduceLeDiff, Nat.reduceEqDiff, Int.reduceEq, Int.reduceLT, Int.reduceLE, Int.reduceNeg, Int.reduceToNat, Int.cast_ofNat_Int, if_true, if_false, and_self, or_self, ite_self, bI_0, bI_1, bI_01, Bool.false_eq_true, reduceCtorEq, hs, hw, u_M_look_415]
end
