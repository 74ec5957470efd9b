/-! The reference's reader: a step, steps, parts -/
section
variable {L d c : Nat} {f t g g' gs g0 : Mem} {Q : Option TV → Wd → Prop} {y : Int → Int} {n k k' br z w i o_ op : Int} {len N R : Nat} {σ : Sg}
theorem RS_lf {B : Type} {r : PR (SS c)} (h : RS y n len gs f t br Q k (fin (Tk y len) k (asS (lf σ r) : PS (SS c ⊕ CC c B)))) : RS y n len gs f t br Q k (fin (Tk y len) k (lf σ r)) := by
  cases r with
  | error e => exact h
  | ok q => obtain ⟨x, j⟩ := q; exact h
def st90 (g : Mem) (v s : Int) : Mem := mset (mset (mset (mset (mset g 156 17 v) 156 18 s) 156 14 0) 156 15 0) 156 16 0
theorem st90_o {v s : Int} {a j : Nat} (h : ¬ (a = 156 ∧ 14 ≤ j ∧ j ≤ 18)) : st90 g v s a j = g a j := by
  simp only [st90, rd]; grind
theorem MR_90 {v s : Int} (h : MR y n len k op N R g) : MR y n len k 0 0 0 (st90 g v s) := by
  obtain ⟨hg, hy, hn, h0, h1, hs, hm, hk0, hk, hE, hop, hN, hR, hN2, hR2⟩ := h
  refine ⟨⟨hg.1, hg.2.1, fun i hi => ?_⟩, ?_, hn, h0, h1, hs, hm, hk0, hk, fun q hq => ?_, rfl, rfl, rfl, by omega, by omega⟩
  · have := hg.2.2 i hi; rw [st90_o (by omega)]; exact this
  · rw [← hy]; funext i; unfold ym; rw [st90_o (by omega), st90_o (by omega)]
  · have := hE q hq; rw [st90_o (by omega), st90_o (by omega)]; exact this
theorem p_105 {B : Type} {pt : Int → Sg → PS B} (hL : Lexd y n len) (hn6 : n ≤ 600) (hc : c = 8) (hF : FS gs g) (hM : MR y n len k 0 0 0 g) (hl : LKs y len k g) (hC : CT (k + 1) σ br g) (hσ : okSg σ) (hpt : okPt pt) (hP : PSpM L (d + 59) y n len f t br pt) (hz : z = sk y (eN y k.toNat)) (hB : kBeg (Tk y len k) = true) (hQ : RS y n len gs f t br Q k (fin (Tk y len) k (pIn c (Tk y len) pt k σ))) : VV L (d + 60) m_M_readStep 105 [some (tA 156), some (tI z), some (tI o_), none, none, none, none, none] [] (WW f t g) Q := by
  unfold pIn at hQ
  by_cases h1 : kName (Tk y len k) = true ∨ kRow (Tk y len k) = true
  · rw [if_pos h1] at hQ
    exact p_chg hL hn6 hc hF hM hl hC hσ hz h1 (RS_lf hQ)
  rw [if_neg h1] at hQ
  by_cases h2 : Tk y len k = 200 ∨ Tk y len k = 201 ∨ Tk y len k = 214
  · rw [if_pos h2] at hQ
    exact p_let hL hn6 hc hF hM hl hC hσ hz h2 (RS_lf hQ)
  rw [if_neg h2] at hQ
  by_cases h3 : Tk y len k = 202 ∨ Tk y len k = 203
  · rw [if_pos h3] at hQ
    exact p_psh hL hn6 hF hM hl hC hσ hz h3 (RS_lf hQ)
  rw [if_neg h3] at hQ
  by_cases h4 : Tk y len k = 204 ∨ Tk y len k = 205
  · rw [if_pos h4] at hQ
    exact p_new hL hn6 hc hF hM hl hC hσ hz h4 (RS_lf hQ)
  rw [if_neg h4] at hQ
  by_cases h5 : Tk y len k = 206 ∨ Tk y len k = 207
  · rw [if_pos h5] at hQ
    exact p_cal hL hn6 hF hM hl hC hσ hz h5 (RS_lf hQ)
  rw [if_neg h5] at hQ
  by_cases h6 : Tk y len k = 208
  · rw [if_pos h6] at hQ
    exact p_if hL hn6 hc hF hM hl hC hσ hpt hP hz h6 hQ
  rw [if_neg h6] at hQ
  by_cases h7 : Tk y len k = 211
  · rw [if_pos h7] at hQ
    exact p_from hL hn6 hc hF hM hl hC hσ hpt hP hz h7 hQ
  rw [if_neg h7] at hQ
  by_cases h8 : Tk y len k = 216
  · rw [if_pos h8] at hQ
    exact p_when hL hn6 hc hF hM hl hC hσ hpt hP hz h8 hQ
  rw [if_neg h8] at hQ
  have h9 : Tk y len k = 215 := by
    unfold kBeg at hB; unfold kName kRow at h1; simp at hB h1; omega
  exact p_while hL hn6 hc hF hM hl hC hσ hpt hP hz h9 hQ
theorem p_readStep {B : Type} {pt : Int → Sg → PS B} (hL : Lexd y n len) (hn6 : n ≤ 600) (hc : c = 8) (h : SM y n len gs k σ br g) (hl : LKs y len k g) (hσ : okSg σ) (hpt : okPt pt) (hP : PSpM L (d + 59) y n len f t br pt) (hQ : RS y n len gs f t br Q k (pStep c (Tk y len) pt k σ)) : VV L (d + 60) m_M_readStep 0 [some (tA 156), none, none, none, none, none, none, none] [] (WW f t g) Q := by
  obtain ⟨hF, ⟨op, N, R, hM⟩, hC⟩ := h
  unfold pStep at hQ
  simp only [u_M_readStep_0, u_M_readStep_1, u_M_readStep_4, u_M_readStep_5, u_M_readStep_6, u_M_readStep_9, ne_eq, not_false_eq_true, not_true_eq_false, true_and, and_true, true_or, or_true, eq_self, Option.toList_some, Option.toList_none, List.cons_append, List.nil_append, tc_0, tc_I, tc_L, tc_A, Nat.reduceAdd, Nat.reduceLeDiff, Nat.reduceEqDiff, Int.reduceEq, Int.reduceLT, Int.reduceLE, Int.reduceNeg, Int.reduceToNat, Int.cast_ofNat_Int, if_true, if_false, and_self, or_self, ite_self, bI_0, bI_1, bI_01, Bool.false_eq_true, reduceCtorEq, h1_156, gt_156_5, hl.1, s_M_mayBegin hl, bB_0, ite_not]
  have hfail : ∀ (g1 : Mem) (wf : Int), FS gs g1 → FS gs (mset (mset g1 156 12 wf) 156 13 (sk y (eN y k.toNat))) := by
    intro g1 wf h1 a j hh; rw [← h1 a j hh]; unfold scE at hh; simp only [rd]; grind
  by_cases hB : kBeg (Tk y len k) = true
  · rw [if_pos hB] at hQ
    have h5 := srt5 (x := Tk y len k)
    have hoi : kOrd (Tk y len k) = true ↔ (srt (Tk y len k) = 5 ∧ 14 ≤ whc (Tk y len k)) := by
      have hBx : (97 ≤ Tk y len k ∧ Tk y len k ≤ 122) ∨ (65 ≤ Tk y len k ∧ Tk y len k ≤ 70) ∨ (200 ≤ Tk y len k ∧ Tk y len k ≤ 207) ∨ Tk y len k = 208 ∨ Tk y len k = 211 ∨ Tk y len k = 215 ∨ Tk y len k = 216 ∨ Tk y len k = 214 := by unfold kBeg at hB; simpa using hB
      unfold kOrd
      simp only [decide_eq_true_eq]
      constructor
      · intro hh; have s5 := h5.1.mpr (by omega); exact ⟨s5, by rw [h5.2 s5]; omega⟩
      · intro ⟨a, b⟩; rw [h5.2 a] at b; omega
    have h44 : ∀ v : Int, v = bB (kOrd (Tk y len k)) → VV L (d + 60) m_M_readStep 44 [some (tA 156), some (tI (sk y (eN y k.toNat))), none, none, none, none, none, none] [tI v] (WW f t g) Q := by
      intro v hv
      have hv01 : v = 0 ∨ v = 1 := by rw [hv]; unfold bB; split <;> simp
      have hst := hC.2.2.2.1
      have hkl : k ≤ len := hM.2.2.2.2.2.2.2.2.1
      have hlen := hL.1
      have hw : w32 (g 156 18 + 1) = g 156 18 + 1 := w32_id (by omega) (by omega)
      have h90 : (σ.2.1 = 1 → σ.2.2 = v) → VV L (d + 60) m_M_readStep 90 [some (tA 156), some (tI (sk y (eN y k.toNat))), some (tI v), none, none, none, none, none] [] (WW f t (mset (mset g 156 17 v) 156 18 (g 156 18 + 1))) Q := by
        intro hsv
        simp only [u_M_readStep_90, u_M_readStep_91, u_M_readStep_92, u_M_readStep_95, u_M_readStep_96, u_M_readStep_97, u_M_readStep_100, u_M_readStep_101, u_M_readStep_102, ne_eq, not_false_eq_true, not_true_eq_false, true_and, and_true, true_or, or_true, eq_self, Option.toList_some, Option.toList_none, List.cons_append, List.nil_append, tc_0, tc_I, tc_L, tc_A, Nat.reduceAdd, Nat.reduceLeDiff, Nat.reduceEqDiff, Int.reduceEq, Int.reduceLT, Int.reduceLE, Int.reduceNeg, Int.reduceToNat, Int.cast_ofNat_Int, if_true, if_false, and_self, or_self, ite_self, bI_0, bI_1, bI_01, Bool.false_eq_true, reduceCtorEq, h1_156, pt_156_14, pt_156_15, pt_156_16]
        have hno : ¬ (σ.2.1 = 1 ∧ ¬ σ.2.2 = bB (kOrd (Tk y len k))) := fun hh => hh.2 (by rw [← hv]; exact hsv hh.1)
        rw [if_neg hno, ← hv] at hQ
        change VV L (d + 60) m_M_readStep 105 _ [] (WW f t (st90 g v (g 156 18 + 1))) Q
        refine p_105 (gs := gs) (σ := (σ.1, 1, v)) hL hn6 hc ?_ (MR_90 hM) ?_ ?_ ⟨Or.inr rfl, hv01, hσ.2.2⟩ hpt hP rfl hB ?_
        · intro a j hh; rw [← hF a j hh, st90_o (by unfold scE at hh; omega)]
        · obtain ⟨a, b, e, i⟩ := hl
          exact ⟨a, b, e, i⟩
        · obtain ⟨a, b, e, i, j⟩ := hC
          refine ⟨a, fun hh => ?_, fun _ => ⟨?_, rfl⟩, ?_, j⟩
          · exact absurd (show (1 : Int) = 0 from hh) (by decide)
          · show ¬ g 156 18 + 1 = 0; omega
          · show 0 ≤ g 156 18 + 1 ∧ g 156 18 + 1 ≤ k + 1; omega
        · revert hQ
          cases pIn c (Tk y len) pt k (σ.1, 1, v) with
          | error e => intro hQ; exact hQ
          | ok q =>
            obtain ⟨s, j, σ2⟩ := q
            intro hQ
            dsimp only [fin] at hQ ⊢
            revert hQ
            by_cases e1 : Tk y len j = 59
            · by_cases e2 : inIt (Tk y len) k (j + 1) = true
              · simp only [e1, e2, if_true]; exact fun hh => hh
              · by_cases e3 : σ2.1 + nIns (Tk y len k) ≤ 40
                · simp only [e1, e2, e3, if_true, if_false, Bool.false_eq_true]; exact fun hh => hh
                · simp only [e1, e2, e3, if_true, if_false, Bool.false_eq_true]; exact fun hh => hh
            · simp only [e1, if_false]; exact fun hh => hh
      simp only [u_M_readStep_44, u_M_readStep_45, u_M_readStep_46, u_M_readStep_47, u_M_readStep_50, ne_eq, not_false_eq_true, not_true_eq_false, true_and, and_true, true_or, or_true, eq_self, Option.toList_some, Option.toList_none, List.cons_append, List.nil_append, tc_0, tc_I, tc_L, tc_A, Nat.reduceAdd, Nat.reduceLeDiff, Nat.reduceEqDiff, Int.reduceEq, Int.reduceLT, Int.reduceLE, Int.reduceNeg, Int.reduceToNat, Int.cast_ofNat_Int, if_true, if_false, and_self, or_self, ite_self, bI_0, bI_1, bI_01, Bool.false_eq_true, reduceCtorEq, h1_156, gt_156_18]
      rcases hσ.1 with hb | hb
      · have h18 := hC.2.1 hb
        simp only [h18, u_M_readStep_53, u_M_readStep_54, u_M_readStep_57, u_M_readStep_58, u_M_readStep_61, u_M_readStep_64, u_M_readStep_65, u_M_readStep_66, u_M_readStep_69, u_M_readStep_70, u_M_readStep_71, u_M_readStep_74, u_M_readStep_75, u_M_readStep_76, u_M_readStep_79, ne_eq, not_false_eq_true, not_true_eq_false, true_and, and_true, true_or, or_true, eq_self, Option.toList_some, Option.toList_none, List.cons_append, List.nil_append, tc_0, tc_I, tc_L, tc_A, Nat.reduceAdd, Nat.reduceLeDiff, Nat.reduceEqDiff, Int.reduceEq, Int.reduceLT, Int.reduceLE, Int.reduceNeg, Int.reduceToNat, Int.cast_ofNat_Int, if_true, if_false, and_self, or_self, ite_self, bI_0, bI_1, bI_01, Bool.false_eq_true, reduceCtorEq, h1_156, gt_156_17, gt_156_18, pt_156_17, pt_156_18, hv01, rd, and_true, and_false]
        have := h90 (fun hh => by omega)
        rw [h18] at this
        exact this
      · obtain ⟨h18, h17⟩ := hC.2.2.1 hb
        have h01 : g 156 17 = 0 ∨ g 156 17 = 1 := by rw [h17]; exact hσ.2.1
        simp only [h18, u_M_readStep_53, u_M_readStep_54, u_M_readStep_57, u_M_readStep_58, u_M_readStep_61, u_M_readStep_64, u_M_readStep_65, u_M_readStep_66, u_M_readStep_69, u_M_readStep_70, u_M_readStep_71, u_M_readStep_74, u_M_readStep_75, u_M_readStep_76, u_M_readStep_79, ne_eq, not_false_eq_true, not_true_eq_false, true_and, and_true, true_or, or_true, eq_self, Option.toList_some, Option.toList_none, List.cons_append, List.nil_append, tc_0, tc_I, tc_L, tc_A, Nat.reduceAdd, Nat.reduceLeDiff, Nat.reduceEqDiff, Int.reduceEq, Int.reduceLT, Int.reduceLE, Int.reduceNeg, Int.reduceToNat, Int.cast_ofNat_Int, if_true, if_false, and_self, or_self, ite_self, bI_0, bI_1, bI_01, Bool.false_eq_true, reduceCtorEq, h1_156, gt_156_17, gt_156_18, pt_156_17, pt_156_18, h01, rd, and_true, and_false, hw]
        by_cases hev : v = g 156 17
        · rw [if_pos hev, ← hev]
          exact h90 (fun _ => by rw [← h17, hev])
        · rw [if_neg hev]
          rw [if_pos ⟨hb, by rw [← h17, ← hv]; exact fun hh => hev hh.symm⟩] at hQ
          simp only [u_M_readStep_82, u_M_readStep_83, u_M_readStep_85, u_M_readStep_86, u_M_readStep_89, ne_eq, not_false_eq_true, not_true_eq_false, true_and, and_true, true_or, or_true, eq_self, Option.toList_some, Option.toList_none, List.cons_append, List.nil_append, tc_0, tc_I, tc_L, tc_A, Nat.reduceAdd, Nat.reduceLeDiff, Nat.reduceEqDiff, Int.reduceEq, Int.reduceLT, Int.reduceLE, Int.reduceNeg, Int.reduceToNat, Int.cast_ofNat_Int, if_true, if_false, and_self, or_self, ite_self, bI_0, bI_1, bI_01, Bool.false_eq_true, reduceCtorEq, h1_156, s_M_fails]
          refine hQ _ (hfail _ 6 ?_) rfl rfl
          intro a j hh; rw [← hF a j hh]; unfold scE at hh; simp only [rd]; grind
    by_cases s5 : srt (Tk y len k) = 5
    · by_cases hw14 : whc (Tk y len k) < 14
      · simp only [hB, u_M_readStep_22, u_M_readStep_23, u_M_readStep_26, u_M_readStep_27, u_M_readStep_30, u_M_readStep_31, u_M_readStep_34, u_M_readStep_36, u_M_readStep_39, u_M_readStep_40, u_M_readStep_43, ne_eq, not_false_eq_true, not_true_eq_false, true_and, and_true, true_or, or_true, eq_self, Option.toList_some, Option.toList_none, List.cons_append, List.nil_append, tc_0, tc_I, tc_L, tc_A, Nat.reduceAdd, Nat.reduceLeDiff, Nat.reduceEqDiff, Int.reduceEq, Int.reduceLT, Int.reduceLE, Int.reduceNeg, Int.reduceToNat, Int.cast_ofNat_Int, if_true, if_false, and_self, or_self, ite_self, bI_0, bI_1, bI_01, Bool.false_eq_true, reduceCtorEq, h1_156, gt_156_6, gt_156_7, hl.2.1, hl.2.2.1, s5, hw14]
        exact h44 0 (by rw [show kOrd (Tk y len k) = false by cases hh : kOrd (Tk y len k); rfl; exact absurd (hoi.mp hh).2 (by omega)]; rfl)
      · simp only [hB, u_M_readStep_22, u_M_readStep_23, u_M_readStep_26, u_M_readStep_27, u_M_readStep_30, u_M_readStep_31, u_M_readStep_34, u_M_readStep_36, u_M_readStep_39, u_M_readStep_40, u_M_readStep_43, ne_eq, not_false_eq_true, not_true_eq_false, true_and, and_true, true_or, or_true, eq_self, Option.toList_some, Option.toList_none, List.cons_append, List.nil_append, tc_0, tc_I, tc_L, tc_A, Nat.reduceAdd, Nat.reduceLeDiff, Nat.reduceEqDiff, Int.reduceEq, Int.reduceLT, Int.reduceLE, Int.reduceNeg, Int.reduceToNat, Int.cast_ofNat_Int, if_true, if_false, and_self, or_self, ite_self, bI_0, bI_1, bI_01, Bool.false_eq_true, reduceCtorEq, h1_156, gt_156_6, gt_156_7, hl.2.1, hl.2.2.1, s5, hw14]
        exact h44 1 (by rw [hoi.mpr ⟨s5, by omega⟩]; rfl)
    · simp only [hB, u_M_readStep_22, u_M_readStep_23, u_M_readStep_26, u_M_readStep_27, u_M_readStep_30, u_M_readStep_31, u_M_readStep_34, u_M_readStep_36, u_M_readStep_39, u_M_readStep_40, u_M_readStep_43, ne_eq, not_false_eq_true, not_true_eq_false, true_and, and_true, true_or, or_true, eq_self, Option.toList_some, Option.toList_none, List.cons_append, List.nil_append, tc_0, tc_I, tc_L, tc_A, Nat.reduceAdd, Nat.reduceLeDiff, Nat.reduceEqDiff, Int.reduceEq, Int.reduceLT, Int.reduceLE, Int.reduceNeg, Int.reduceToNat, Int.cast_ofNat_Int, if_true, if_false, and_self, or_self, ite_self, bI_0, bI_1, bI_01, Bool.false_eq_true, reduceCtorEq, h1_156, gt_156_6, gt_156_7, hl.2.1, hl.2.2.1, s5]
      exact h44 0 (by rw [show kOrd (Tk y len k) = false by cases hh : kOrd (Tk y len k); rfl; exact absurd (hoi.mp hh).1 s5]; rfl)
  · rw [if_neg hB] at hQ
    simp only [hB, u_M_readStep_12, u_M_readStep_13, u_M_readStep_14, u_M_readStep_15, u_M_readStep_18, u_M_readStep_21, ne_eq, not_false_eq_true, not_true_eq_false, true_and, and_true, true_or, or_true, eq_self, Option.toList_some, Option.toList_none, List.cons_append, List.nil_append, tc_0, tc_I, tc_L, tc_A, Nat.reduceAdd, Nat.reduceLeDiff, Nat.reduceEqDiff, Int.reduceEq, Int.reduceLT, Int.reduceLE, Int.reduceNeg, Int.reduceToNat, Int.cast_ofNat_Int, if_true, if_false, and_self, or_self, ite_self, bI_0, bI_1, bI_01, Bool.false_eq_true, reduceCtorEq, h1_156, gt_156_5, hl.1, s_M_fails]
    exact hQ _ (hfail _ 1 hF) rfl rfl
end
