/-! The reference's reader: simple steps -/
def fin (T : Int → Int) (k : Int) {α : Type} : PS α → PS Unit
  | .error e => .error e
  | .ok (_, j, σ) => if T j = 59 then (if inIt T k (j + 1) = true then .error ((3, k, j + 1), σ) else if σ.1 + nIns (T k) ≤ 40 then .ok ((), j + 1, (σ.1 + nIns (T k), σ.2)) else .error ((4, k, j + 1), (σ.1 + nIns (T k), σ.2))) else .error ((1, j, j), σ)
theorem hasTk_1 {T : Int → Int} {tk i j : Int} (hij : i ≤ j) (h : ¬ T j = tk) : hasTk T tk (j + 1 - i).toNat i = hasTk T tk (j - i).toNat i := by
  rw [show (j + 1 - i).toNat = (j - i).toNat + 1 by omega, hasTk_add, show i + ((j - i).toNat : Int) = j by omega]
  show (_ || (decide (T j = tk) || false)) = _
  rw [decide_eq_false h]; simp
section
variable {L d c : Nat} {f t g gs : Mem} {Q : Option TV → Wd → Prop} {y : Int → Int} {n k br z w i o_ : Int} {len : Nat} {σ : Sg}
theorem p_583e {o ky nm rw_ mr : Option TV} (hQ : EQ_ y f t (FS gs) Q w i) {g' : Mem} (a : FS gs g') (b : g' 156 12 = w) (e : g' 156 13 = sk y (eN y i.toNat)) : VV L d m_M_readStep 583 [some (tA 156), some (tI z), o, ky, nm, rw_, mr, some (tI 0)] [] (WW f t g') Q := by
  simp only [u_M_readStep_583, u_M_readStep_585, u_M_readStep_588, u_M_readStep_589, u_M_readStep_591, u_M_readStep_593, u_M_readStep_596, u_M_readStep_599, u_M_readStep_600, ne_eq, not_false_eq_true, not_true_eq_false, true_and, and_true, true_or, or_true, eq_self, Option.toList_some, Option.toList_none, List.cons_append, List.nil_append, tc_0, tc_I, tc_L, tc_A, Nat.reduceAdd, Nat.reduceLeDiff, Nat.reduceEqDiff, Int.reduceEq, Int.reduceLT, Int.reduceLE, Int.reduceNeg, Int.reduceToNat, Int.cast_ofNat_Int, if_true, if_false, and_self, or_self, ite_self, bI_0, bI_1, bI_01, Bool.false_eq_true, reduceCtorEq]
  exact hQ g' a b e
theorem nIns_1 {x : Int} (h : ¬ x = 208 ∧ ¬ x = 211 ∧ ¬ x = 215 ∧ ¬ x = 216) : nIns x = 1 := by unfold nIns; rw [if_neg (by omega), if_neg (by omega)]
theorem p_chg (hL : Lexd y n len) (hn6 : n ≤ 600) (hc : c = 8) (hF : FS gs g) (hM : MR y n len k 0 0 0 g) (hl : LKs y len k g) (hC : CT (k + 1) σ br g) (hσ : okSg σ) (hz : z = sk y (eN y k.toNat)) (hk : kName (Tk y len k) = true ∨ kRow (Tk y len k) = true) (hQ : RS y n len gs f t br Q k (fin (Tk y len) k (lf σ (pChg c (Tk y len) k)))) : VV L (d + 60) m_M_readStep 105 [some (tA 156), some (tI z), some (tI o_), none, none, none, none, none] [] (WW f t g) Q := by
  have hx : (97 ≤ Tk y len k ∧ Tk y len k ≤ 122) ∨ (65 ≤ Tk y len k ∧ Tk y len k ≤ 70) := by
    unfold kName kRow at hk; simp at hk; omega
  have s5 : ¬ srt (Tk y len k) = 5 := fun hh => by have := srt5.1.mp hh; omega
  have hn1 : nIns (Tk y len k) = 1 := nIns_1 (by omega)
  have hgo : ∀ nm : Int, nm = (if kName (Tk y len k) = true then Tk y len k - 97 else -1) → VV L (d + 60) m_M_readStep 153 [some (tA 156), some (tI z), some (tI o_), some (tI (-1)), some (tI nm), some (tI (-1)), some (tI 1), none] [] (WW f t g) Q := by
    intro nm hnm
    simp only [u_M_readStep_153, u_M_readStep_154, ne_eq, not_false_eq_true, not_true_eq_false, true_and, and_true, true_or, or_true, eq_self, Option.toList_some, Option.toList_none, List.cons_append, List.nil_append, tc_0, tc_I, tc_L, tc_A, Nat.reduceAdd, Nat.reduceLeDiff, Nat.reduceEqDiff, Int.reduceEq, Int.reduceLT, Int.reduceLE, Int.reduceNeg, Int.reduceToNat, Int.cast_ofNat_Int, if_true, if_false, and_self, or_self, ite_self, bI_0, bI_1, bI_01, Bool.false_eq_true, reduceCtorEq, h1_156]
    refine p_readChange (d := d + 7) hL hn6 hc hM ?_
    cases hp : pChg c (Tk y len) k with
    | error e =>
      obtain ⟨w, i, q⟩ := e
      rw [hp] at hQ
      intro g2 a b e
      simp only [u_M_readStep_157, u_M_readStep_159, u_M_readStep_160, u_M_readStep_163, u_M_readStep_166, u_M_readStep_167, u_M_readStep_170, u_M_readStep_172, u_M_readStep_174, ne_eq, not_false_eq_true, not_true_eq_false, true_and, and_true, true_or, or_true, eq_self, Option.toList_some, Option.toList_none, List.cons_append, List.nil_append, tc_0, tc_I, tc_L, tc_A, Nat.reduceAdd, Nat.reduceLeDiff, Nat.reduceEqDiff, Int.reduceEq, Int.reduceLT, Int.reduceLE, Int.reduceNeg, Int.reduceToNat, Int.cast_ofNat_Int, if_true, if_false, and_self, or_self, ite_self, bI_0, bI_1, bI_01, Bool.false_eq_true, reduceCtorEq, h1_156, gt_156_21]
      by_cases h0 : g2 156 21 = 0
      · simp only [h0, ne_eq, not_false_eq_true, not_true_eq_false, true_and, and_true, true_or, or_true, eq_self, Option.toList_some, Option.toList_none, List.cons_append, List.nil_append, tc_0, tc_I, tc_L, tc_A, Nat.reduceAdd, Nat.reduceLeDiff, Nat.reduceEqDiff, Int.reduceEq, Int.reduceLT, Int.reduceLE, Int.reduceNeg, Int.reduceToNat, Int.cast_ofNat_Int, if_true, if_false, and_self, or_self, ite_self, bI_0, bI_1, bI_01, Bool.false_eq_true, reduceCtorEq]; exact p_583e hQ (FS_FC hF a) b e
      · simp only [h0, ne_eq, not_false_eq_true, not_true_eq_false, true_and, and_true, true_or, or_true, eq_self, Option.toList_some, Option.toList_none, List.cons_append, List.nil_append, tc_0, tc_I, tc_L, tc_A, Nat.reduceAdd, Nat.reduceLeDiff, Nat.reduceEqDiff, Int.reduceEq, Int.reduceLT, Int.reduceLE, Int.reduceNeg, Int.reduceToNat, Int.cast_ofNat_Int, if_true, if_false, and_self, or_self, ite_self, bI_0, bI_1, bI_01, Bool.false_eq_true, reduceCtorEq]; exact p_583e hQ (FS_FC hF a) b e
    | ok q =>
      obtain ⟨s, j⟩ := q
      rw [hp] at hQ
      intro g2 N2 R2 h2 hF2 hkj hnm2
      simp only [u_M_readStep_157, u_M_readStep_159, u_M_readStep_160, u_M_readStep_163, u_M_readStep_166, u_M_readStep_167, u_M_readStep_170, u_M_readStep_172, u_M_readStep_174, ne_eq, not_false_eq_true, not_true_eq_false, true_and, and_true, true_or, or_true, eq_self, Option.toList_some, Option.toList_none, List.cons_append, List.nil_append, tc_0, tc_I, tc_L, tc_A, Nat.reduceAdd, Nat.reduceLeDiff, Nat.reduceEqDiff, Int.reduceEq, Int.reduceLT, Int.reduceLE, Int.reduceNeg, Int.reduceToNat, Int.cast_ofNat_Int, if_true, if_false, and_self, or_self, ite_self, bI_0, bI_1, bI_01, Bool.false_eq_true, reduceCtorEq, h1_156, gt_156_21]
      have hin : inIt (Tk y len) k (j + 1) = (kName (Tk y len k) && decide (¬ Tk y len (k + 1) = 133) && hasTk (Tk y len) (Tk y len k) (j + 1 - (k + 2)).toNat (k + 2)) := by
        unfold inIt; rw [if_neg (by omega)]
      have hfin : ∀ nm' : Int, (nm' = -1 ∨ (0 ≤ nm' ∧ nm' < 26)) → (Tk y len j = 59 → ((0 ≤ nm' ∧ N2.testBit nm'.toNat = true) ↔ inIt (Tk y len) k (j + 1) = true)) → VV L (d + 60) m_M_readStep 583 [some (tA 156), some (tI z), some (tI o_), some (tI (-1)), some (tI nm'), some (tI (-1)), some (tI 1), some (tI 1)] [] (WW f t g2) Q := by
        intro nm' hr1 hr2
        refine p_end (d := d + 54) (op := 0) (N := N2) (R := R2) hL hn6 (FS_FC hF hF2) h2 (CT_FC hC hF2 (by omega)) hσ hz hr1 (Or.inl rfl) hn1.symm hkj (fun h59 => ?_) hQ
        rw [← hr2 h59]
        constructor
        · intro hh; rcases hh with hh | hh
          · exact ⟨hh.1, hh.2.2⟩
          · omega
        · intro hh; exact Or.inl ⟨hh.1, rfl, hh.2⟩
      by_cases hn : kName (Tk y len k) = true
      · rw [if_pos hn] at hnm
        have hx2 : 97 ≤ Tk y len k ∧ Tk y len k ≤ 122 := by unfold kName at hn; simp at hn; omega
        obtain ⟨e21, hbits⟩ := hnm2 hn
        by_cases h133 : Tk y len (k + 1) = 133
        · have e1 : ¬ g2 156 21 = 0 := by rw [e21, decide_eq_true h133]; decide
          simp only [e1, ne_eq, not_false_eq_true, not_true_eq_false, true_and, and_true, true_or, or_true, eq_self, Option.toList_some, Option.toList_none, List.cons_append, List.nil_append, tc_0, tc_I, tc_L, tc_A, Nat.reduceAdd, Nat.reduceLeDiff, Nat.reduceEqDiff, Int.reduceEq, Int.reduceLT, Int.reduceLE, Int.reduceNeg, Int.reduceToNat, Int.cast_ofNat_Int, if_true, if_false, and_self, or_self, ite_self, bI_0, bI_1, bI_01, Bool.false_eq_true, reduceCtorEq]
          refine hfin (-1) (Or.inl rfl) (fun _ => ?_)
          rw [hin, h133]; simp
        · have e0 : g2 156 21 = 0 := by rw [e21, decide_eq_false h133]; rfl
          simp only [e0, ne_eq, not_false_eq_true, not_true_eq_false, true_and, and_true, true_or, or_true, eq_self, Option.toList_some, Option.toList_none, List.cons_append, List.nil_append, tc_0, tc_I, tc_L, tc_A, Nat.reduceAdd, Nat.reduceLeDiff, Nat.reduceEqDiff, Int.reduceEq, Int.reduceLT, Int.reduceLE, Int.reduceNeg, Int.reduceToNat, Int.cast_ofNat_Int, if_true, if_false, and_self, or_self, ite_self, bI_0, bI_1, bI_01, Bool.false_eq_true, reduceCtorEq]
          refine hfin nm (Or.inr (by omega)) (fun h59 => ?_)
          have hb := hbits h133 nm.toNat (by omega)
          rw [show (97 : Int) + (nm.toNat : Int) = Tk y len k by omega] at hb
          rw [hin, hn, decide_eq_true h133, hb]
          by_cases hj : k + 2 ≤ j
          · rw [hasTk_1 hj (by omega)]; simp; omega
          · rw [show (j + 1 - (k + 2)).toNat = 0 by omega, show (j - (k + 2)).toNat = 0 by omega]; simp [hasTk]
      · rw [if_neg hn] at hnm
        have hff : ∀ nm' : Int, nm' = -1 → VV L (d + 60) m_M_readStep 583 [some (tA 156), some (tI z), some (tI o_), some (tI (-1)), some (tI nm'), some (tI (-1)), some (tI 1), some (tI 1)] [] (WW f t g2) Q := by
          intro nm' hh
          refine hfin nm' (Or.inl hh) (fun _ => ?_)
          rw [hin]; simp only [hn, hh]; simp
        by_cases h0 : g2 156 21 = 0
        · simp only [h0, ne_eq, not_false_eq_true, not_true_eq_false, true_and, and_true, true_or, or_true, eq_self, Option.toList_some, Option.toList_none, List.cons_append, List.nil_append, tc_0, tc_I, tc_L, tc_A, Nat.reduceAdd, Nat.reduceLeDiff, Nat.reduceEqDiff, Int.reduceEq, Int.reduceLT, Int.reduceLE, Int.reduceNeg, Int.reduceToNat, Int.cast_ofNat_Int, if_true, if_false, and_self, or_self, ite_self, bI_0, bI_1, bI_01, Bool.false_eq_true, reduceCtorEq]; exact hff nm hnm
        · simp only [h0, ne_eq, not_false_eq_true, not_true_eq_false, true_and, and_true, true_or, or_true, eq_self, Option.toList_some, Option.toList_none, List.cons_append, List.nil_append, tc_0, tc_I, tc_L, tc_A, Nat.reduceAdd, Nat.reduceLeDiff, Nat.reduceEqDiff, Int.reduceEq, Int.reduceLT, Int.reduceLE, Int.reduceNeg, Int.reduceToNat, Int.cast_ofNat_Int, if_true, if_false, and_self, or_self, ite_self, bI_0, bI_1, bI_01, Bool.false_eq_true, reduceCtorEq]; exact hff _ rfl
  simp only [u_M_readStep_105, u_M_readStep_106, u_M_readStep_109, u_M_readStep_110, u_M_readStep_113, u_M_readStep_114, u_M_readStep_117, u_M_readStep_120, u_M_readStep_121, u_M_readStep_122, u_M_readStep_123, u_M_readStep_125, u_M_readStep_126, u_M_readStep_128, u_M_readStep_129, u_M_readStep_131, u_M_readStep_132, ne_eq, not_false_eq_true, not_true_eq_false, true_and, and_true, true_or, or_true, eq_self, Option.toList_some, Option.toList_none, List.cons_append, List.nil_append, tc_0, tc_I, tc_L, tc_A, Nat.reduceAdd, Nat.reduceLeDiff, Nat.reduceEqDiff, Int.reduceEq, Int.reduceLT, Int.reduceLE, Int.reduceNeg, Int.reduceToNat, Int.cast_ofNat_Int, if_true, if_false, and_self, or_self, ite_self, bI_0, bI_1, bI_01, Bool.false_eq_true, reduceCtorEq, h1_156, gt_156_6, gt_156_7, hl.2.1, hl.2.2.1, s5]
  by_cases hn : kName (Tk y len k) = true
  · simp only [u_M_readStep_135, u_M_readStep_136, u_M_readStep_139, u_M_readStep_140, u_M_readStep_143, u_M_readStep_144, u_M_readStep_147, u_M_readStep_150, u_M_readStep_151, ne_eq, not_false_eq_true, not_true_eq_false, true_and, and_true, true_or, or_true, eq_self, Option.toList_some, Option.toList_none, List.cons_append, List.nil_append, tc_0, tc_I, tc_L, tc_A, Nat.reduceAdd, Nat.reduceLeDiff, Nat.reduceEqDiff, Int.reduceEq, Int.reduceLT, Int.reduceLE, Int.reduceNeg, Int.reduceToNat, Int.cast_ofNat_Int, if_true, if_false, and_self, or_self, ite_self, bI_0, bI_1, bI_01, Bool.false_eq_true, reduceCtorEq, h1_156, gt_156_6, gt_156_7, hl.2.1, hl.2.2.1, (srt_a hn).1, (srt_a hn).2]
    exact hgo _ (by rw [if_pos hn])
  · have s1 : ¬ srt (Tk y len k) = 1 := fun hh => hn (srt_iff.1.mp hh)
    simp only [u_M_readStep_135, u_M_readStep_136, u_M_readStep_139, u_M_readStep_140, u_M_readStep_143, u_M_readStep_144, u_M_readStep_147, u_M_readStep_150, u_M_readStep_151, ne_eq, not_false_eq_true, not_true_eq_false, true_and, and_true, true_or, or_true, eq_self, Option.toList_some, Option.toList_none, List.cons_append, List.nil_append, tc_0, tc_I, tc_L, tc_A, Nat.reduceAdd, Nat.reduceLeDiff, Nat.reduceEqDiff, Int.reduceEq, Int.reduceLT, Int.reduceLE, Int.reduceNeg, Int.reduceToNat, Int.cast_ofNat_Int, if_true, if_false, and_self, or_self, ite_self, bI_0, bI_1, bI_01, Bool.false_eq_true, reduceCtorEq, h1_156, gt_156_6, gt_156_7, hl.2.1, hl.2.2.1, s1]
    exact hgo _ (by rw [if_neg hn])
end
