/-! The reference's reader: steps, parts: the recursion -/
def RSL (y : Int → Int) (n : Int) (len : Nat) (gs f t : Mem) (br : Int) (Q : Option TV → Wd → Prop) (k : Int) {α : Type} : PS α → Prop
  | .ok (_, j, σ) => ∀ g', SM y n len gs j σ br g' → k ≤ j → Q (some (tI 1)) (WW f t g')
  | .error ((w, i, _), _) => EQ_ y f t (FS gs) Q w i
section
variable {L c : Nat} {f t : Mem} {y : Int → Int} {n : Int} {len : Nat}
theorem SM_FE' {gs g g' : Mem} {k k' br op : Int} {N R : Nat} {σ : Sg} (h : FS gs g) (hC : CT k σ br g) (h1 : FE g g') (h2 : MR y n len k' op N R g') (hk : k ≤ k') : SM y n len gs k' σ br g' := ⟨FS_FE h h1, ⟨op, N, R, h2⟩, CT_FC hC (FC_of h1) hk⟩
theorem p_readSteps {S : Type} {ps : Int → Sg → PS S} {D : Nat} {b br stop : Int} (hL : Lexd y n len) (hb : (b = 0 ∧ stop = 0) ∨ (b = 1 ∧ stop = 125)) (hps : okPt ps) (hS : ∀ (gs g : Mem) (k : Int) (σ : Sg) (Q : Option TV → Wd → Prop), okSg σ → SM y n len gs k σ br g → LKs y len k g → RS y n len gs f t br Q k (ps k σ) → VV L (D + 3) m_M_readStep 0 [some (tA 156), none, none, none, none, none, none, none] [] (WW f t g) Q) : ∀ (m : Nat) (gs g : Mem) (k : Int) (σ : Sg) (Q : Option TV → Wd → Prop), len - k < m → okSg σ → SM y n len gs k σ br g → RSL y n len gs f t br Q k (pStps (Tk y len) ps stop m k σ) → VV L (D + 4) m_M_readSteps 0 [some (tA 156), some (tI b)] [] (WW f t g) Q := by
  intro m
  induction m with
  | zero =>
    intro gs g k σ Q hm hσ h hQ
    obtain ⟨_, ⟨op, N, R, hM⟩, _⟩ := h
    have : k ≤ len := hM.2.2.2.2.2.2.2.2.1
    omega
  | succ m ih =>
    intro gs g k σ Q hm hσ h hQ
    obtain ⟨hF, ⟨op, N, R, hM⟩, hC⟩ := h
    rw [u_M_readSteps_0]
    simp only [u_M_readSteps_1, ne_eq, not_false_eq_true, not_true_eq_false, true_and, and_true, true_or, or_true, eq_self, Option.toList_some, Option.toList_none, List.cons_append, List.nil_append, tc_0, tc_I, tc_L, tc_A, Nat.reduceAdd, Nat.reduceLeDiff, Nat.reduceEqDiff, Int.reduceEq, Int.reduceLT, Int.reduceLE, Int.reduceNeg, Int.reduceToNat, Int.cast_ofNat_Int, if_true, if_false, and_self, or_self, ite_self, bI_0, bI_1, bI_01, Bool.false_eq_true, reduceCtorEq, h1_156]
    refine m_look hL (ME_mk hM) (fun g1 h1 hl => ?_)
    have hS1 : SM y n len gs k σ br g1 := SM_FE' hF hC h1.1 h1.2 (by omega)
    have hk := ME_k h1
    unfold pStps at hQ
    have h49 : ¬ Tk y len k = stop → VV L (D + 4) m_M_readSteps 49 [some (tA 156), some (tI b)] [] (WW f t g1) Q := by
      intro e
      rw [if_neg e] at hQ
      simp only [u_M_readSteps_49, u_M_readSteps_50, ne_eq, not_false_eq_true, not_true_eq_false, true_and, and_true, true_or, or_true, eq_self, Option.toList_some, Option.toList_none, List.cons_append, List.nil_append, tc_0, tc_I, tc_L, tc_A, Nat.reduceAdd, Nat.reduceLeDiff, Nat.reduceEqDiff, Int.reduceEq, Int.reduceLT, Int.reduceLE, Int.reduceNeg, Int.reduceToNat, Int.cast_ofNat_Int, if_true, if_false, and_self, or_self, ite_self, bI_0, bI_1, bI_01, Bool.false_eq_true, reduceCtorEq, h1_156]
      refine hS gs g1 k σ _ hσ hS1 hl ?_
      cases hp : ps k σ with
      | error e =>
        obtain ⟨⟨w, i, q⟩, σ'⟩ := e
        rw [hp] at hQ
        intro g2 a b e
        simp only [u_M_readSteps_53, u_M_readSteps_56, u_M_readSteps_57, ne_eq, not_false_eq_true, not_true_eq_false, true_and, and_true, true_or, or_true, eq_self, Option.toList_some, Option.toList_none, List.cons_append, List.nil_append, tc_0, tc_I, tc_L, tc_A, Nat.reduceAdd, Nat.reduceLeDiff, Nat.reduceEqDiff, Int.reduceEq, Int.reduceLT, Int.reduceLE, Int.reduceNeg, Int.reduceToNat, Int.cast_ofNat_Int, if_true, if_false, and_self, or_self, ite_self, bI_0, bI_1, bI_01, Bool.false_eq_true, reduceCtorEq]
        exact hQ g2 a b e
      | ok q =>
        obtain ⟨s, j, σ1⟩ := q
        rw [hp] at hQ
        dsimp only at hQ
        intro g2 hS2 hlt
        simp only [u_M_readSteps_53, u_M_readSteps_56, u_M_readSteps_57, ne_eq, not_false_eq_true, not_true_eq_false, true_and, and_true, true_or, or_true, eq_self, Option.toList_some, Option.toList_none, List.cons_append, List.nil_append, tc_0, tc_I, tc_L, tc_A, Nat.reduceAdd, Nat.reduceLeDiff, Nat.reduceEqDiff, Int.reduceEq, Int.reduceLT, Int.reduceLE, Int.reduceNeg, Int.reduceToNat, Int.cast_ofNat_Int, if_true, if_false, and_self, or_self, ite_self, bI_0, bI_1, bI_01, Bool.false_eq_true, reduceCtorEq]
        refine ih gs g2 j σ1 Q (by omega) (hps _ _ _ _ _ hσ hp) hS2 ?_
        revert hQ
        cases pStps (Tk y len) ps stop m j σ1 with
        | error e => obtain ⟨⟨w, i, q⟩, σ'⟩ := e; intro hQ; exact hQ
        | ok q =>
          obtain ⟨l, j2, σ2⟩ := q
          intro hQ g3 h3 hle
          exact hQ g3 h3 (by omega)
    have hdone : Tk y len k = stop → Q (some (tI 1)) (WW f t g1) := by
      intro e
      rw [if_pos e] at hQ
      exact hQ g1 hS1 (Int.le_refl _)
    rcases hb with ⟨rfl, rfl⟩ | ⟨rfl, rfl⟩
    · by_cases e : Tk y len k = 0
      · have hkl : k = len := by
          by_cases hlt : k < len
          · exfalso
            have hh := hL.2.2 k.toNat (by omega)
            have hyo : okY (fun _ j => g1 157 j) n := by
              intro i hi
              have := h1.2.1.2.2 i (by rw [h1.2.2.2.1]; exact hi)
              exact this
            have hn6 : n ≤ 600 := by have := h1.2.1.2.1; rw [h1.2.2.2.1] at this; exact this
            have htv := (tv_low hyo hn6 hh.1 hh.2).2
            have ey : yb (fun _ j => g1 157 j) n = y := by rw [← h1.2.2.1, ← h1.2.2.2.1]; rfl
            rw [ey] at htv
            unfold Tk at e
            rw [if_pos ⟨hk.1, hlt⟩] at e
            exact htv e
          · omega
        have hpl : g1 156 5 = n := by rw [hl.1, hkl, Int.toNat_natCast]; exact hL.2.1
        have hs0 : g1 156 6 = 0 := by rw [hl.2.1, e]; rfl
        simp only [u_M_readSteps_4, u_M_readSteps_5, u_M_readSteps_8, u_M_readSteps_9, u_M_readSteps_12, u_M_readSteps_14, u_M_readSteps_17, u_M_readSteps_18, u_M_readSteps_21, u_M_readSteps_23, u_M_readSteps_26, u_M_readSteps_29, u_M_readSteps_30, u_M_readSteps_33, u_M_readSteps_36, u_M_readSteps_37, u_M_readSteps_40, u_M_readSteps_41, u_M_readSteps_44, u_M_readSteps_47, u_M_readSteps_48, ne_eq, not_false_eq_true, not_true_eq_false, true_and, and_true, true_or, or_true, eq_self, Option.toList_some, Option.toList_none, List.cons_append, List.nil_append, tc_0, tc_I, tc_L, tc_A, Nat.reduceAdd, Nat.reduceLeDiff, Nat.reduceEqDiff, Int.reduceEq, Int.reduceLT, Int.reduceLE, Int.reduceNeg, Int.reduceToNat, Int.cast_ofNat_Int, if_true, if_false, and_self, or_self, ite_self, bI_0, bI_1, bI_01, Bool.false_eq_true, reduceCtorEq, h1_156, gt_156_6, gt_156_5, gt_156_1, hs0, hpl, h1.2.2.2.1]
        exact hdone e
      · have hlt := Tk_lt e
        have hh := hL.2.2 k.toNat (by omega)
        by_cases hs0 : srt (Tk y len k) = 0
        · simp only [u_M_readSteps_4, u_M_readSteps_5, u_M_readSteps_8, u_M_readSteps_9, u_M_readSteps_12, u_M_readSteps_14, u_M_readSteps_17, u_M_readSteps_18, u_M_readSteps_21, u_M_readSteps_23, u_M_readSteps_26, u_M_readSteps_29, u_M_readSteps_30, u_M_readSteps_33, u_M_readSteps_36, u_M_readSteps_37, u_M_readSteps_40, u_M_readSteps_41, u_M_readSteps_44, u_M_readSteps_47, u_M_readSteps_48, ne_eq, not_false_eq_true, not_true_eq_false, true_and, and_true, true_or, or_true, eq_self, Option.toList_some, Option.toList_none, List.cons_append, List.nil_append, tc_0, tc_I, tc_L, tc_A, Nat.reduceAdd, Nat.reduceLeDiff, Nat.reduceEqDiff, Int.reduceEq, Int.reduceLT, Int.reduceLE, Int.reduceNeg, Int.reduceToNat, Int.cast_ofNat_Int, if_true, if_false, and_self, or_self, ite_self, bI_0, bI_1, bI_01, Bool.false_eq_true, reduceCtorEq, h1_156, gt_156_6, gt_156_5, gt_156_1, hl.2.1, hl.1, h1.2.2.2.1, hs0, show ¬ sk y (eN y k.toNat) = n by omega]
          exact h49 e
        · simp only [u_M_readSteps_4, u_M_readSteps_5, u_M_readSteps_8, u_M_readSteps_9, u_M_readSteps_12, u_M_readSteps_14, u_M_readSteps_17, u_M_readSteps_18, u_M_readSteps_21, u_M_readSteps_23, u_M_readSteps_26, u_M_readSteps_29, u_M_readSteps_30, u_M_readSteps_33, u_M_readSteps_36, u_M_readSteps_37, u_M_readSteps_40, u_M_readSteps_41, u_M_readSteps_44, u_M_readSteps_47, u_M_readSteps_48, ne_eq, not_false_eq_true, not_true_eq_false, true_and, and_true, true_or, or_true, eq_self, Option.toList_some, Option.toList_none, List.cons_append, List.nil_append, tc_0, tc_I, tc_L, tc_A, Nat.reduceAdd, Nat.reduceLeDiff, Nat.reduceEqDiff, Int.reduceEq, Int.reduceLT, Int.reduceLE, Int.reduceNeg, Int.reduceToNat, Int.cast_ofNat_Int, if_true, if_false, and_self, or_self, ite_self, bI_0, bI_1, bI_01, Bool.false_eq_true, reduceCtorEq, h1_156, gt_156_6, gt_156_5, gt_156_1, hl.2.1, hs0]
          exact h49 e
    · have hi := sg_iff (x := Tk y len k) (c := 125) (by decide)
      by_cases e : Tk y len k = 125
      · have := hi.mpr e
        simp only [u_M_readSteps_4, u_M_readSteps_5, u_M_readSteps_8, u_M_readSteps_9, u_M_readSteps_12, u_M_readSteps_14, u_M_readSteps_17, u_M_readSteps_18, u_M_readSteps_21, u_M_readSteps_23, u_M_readSteps_26, u_M_readSteps_29, u_M_readSteps_30, u_M_readSteps_33, u_M_readSteps_36, u_M_readSteps_37, u_M_readSteps_40, u_M_readSteps_41, u_M_readSteps_44, u_M_readSteps_47, u_M_readSteps_48, ne_eq, not_false_eq_true, not_true_eq_false, true_and, and_true, true_or, or_true, eq_self, Option.toList_some, Option.toList_none, List.cons_append, List.nil_append, tc_0, tc_I, tc_L, tc_A, Nat.reduceAdd, Nat.reduceLeDiff, Nat.reduceEqDiff, Int.reduceEq, Int.reduceLT, Int.reduceLE, Int.reduceNeg, Int.reduceToNat, Int.cast_ofNat_Int, if_true, if_false, and_self, or_self, ite_self, bI_0, bI_1, bI_01, Bool.false_eq_true, reduceCtorEq, h1_156, gt_156_6, gt_156_7, hl.2.1, hl.2.2.1, this.1, this.2]
        exact hdone e
      · by_cases e7 : srt (Tk y len k) = 7
        · have e2 : ¬ whc (Tk y len k) = 125 := fun hh => e (hi.mp ⟨e7, hh⟩)
          simp only [u_M_readSteps_4, u_M_readSteps_5, u_M_readSteps_8, u_M_readSteps_9, u_M_readSteps_12, u_M_readSteps_14, u_M_readSteps_17, u_M_readSteps_18, u_M_readSteps_21, u_M_readSteps_23, u_M_readSteps_26, u_M_readSteps_29, u_M_readSteps_30, u_M_readSteps_33, u_M_readSteps_36, u_M_readSteps_37, u_M_readSteps_40, u_M_readSteps_41, u_M_readSteps_44, u_M_readSteps_47, u_M_readSteps_48, ne_eq, not_false_eq_true, not_true_eq_false, true_and, and_true, true_or, or_true, eq_self, Option.toList_some, Option.toList_none, List.cons_append, List.nil_append, tc_0, tc_I, tc_L, tc_A, Nat.reduceAdd, Nat.reduceLeDiff, Nat.reduceEqDiff, Int.reduceEq, Int.reduceLT, Int.reduceLE, Int.reduceNeg, Int.reduceToNat, Int.cast_ofNat_Int, if_true, if_false, and_self, or_self, ite_self, bI_0, bI_1, bI_01, Bool.false_eq_true, reduceCtorEq, h1_156, gt_156_6, gt_156_7, hl.2.1, hl.2.2.1, e7, e2]
          exact h49 e
        · simp only [u_M_readSteps_4, u_M_readSteps_5, u_M_readSteps_8, u_M_readSteps_9, u_M_readSteps_12, u_M_readSteps_14, u_M_readSteps_17, u_M_readSteps_18, u_M_readSteps_21, u_M_readSteps_23, u_M_readSteps_26, u_M_readSteps_29, u_M_readSteps_30, u_M_readSteps_33, u_M_readSteps_36, u_M_readSteps_37, u_M_readSteps_40, u_M_readSteps_41, u_M_readSteps_44, u_M_readSteps_47, u_M_readSteps_48, ne_eq, not_false_eq_true, not_true_eq_false, true_and, and_true, true_or, or_true, eq_self, Option.toList_some, Option.toList_none, List.cons_append, List.nil_append, tc_0, tc_I, tc_L, tc_A, Nat.reduceAdd, Nat.reduceLeDiff, Nat.reduceEqDiff, Int.reduceEq, Int.reduceLT, Int.reduceLE, Int.reduceNeg, Int.reduceToNat, Int.cast_ofNat_Int, if_true, if_false, and_self, or_self, ite_self, bI_0, bI_1, bI_01, Bool.false_eq_true, reduceCtorEq, h1_156, gt_156_6, gt_156_7, hl.2.1, hl.2.2.1, e7]
          exact h49 e
theorem CT_br {k br v : Int} {σ : Sg} {g : Mem} (h : CT k σ br g) : CT k σ v (mset g 156 20 v) := by
  obtain ⟨a, b, e, i, j⟩ := h
  exact ⟨a, b, e, i, rfl⟩
theorem MR_br {k op v : Int} {N R : Nat} {g : Mem} (h : MR y n len k op N R g) : MR y n len k op N R (mset g 156 20 v) := by
  obtain ⟨hg, hy, hn, h0, h1, hs, hm, hk0, hk, hE, hop, hN, hR, hN2, hR2⟩ := h
  refine ⟨⟨hg.1, hg.2.1, fun i hi => ?_⟩, ?_, hn, h0, h1, hs, hm, hk0, hk, fun q hq => ?_, hop, hN, hR, hN2, hR2⟩
  · have := hg.2.2 i hi; simp only [rd, Nat.reduceEqDiff, false_and, if_false]; exact this
  · rw [← hy]; funext i; unfold ym; simp only [rd, Nat.reduceEqDiff, false_and, and_false, if_false]
  · have := hE q hq; simp only [rd, Nat.reduceEqDiff, false_and, if_false]; exact this
theorem FS_br {gs g : Mem} {v : Int} (h : FS gs g) : FS gs (mset g 156 20 v) := by
  intro c j hh; rw [← h c j hh]; unfold scE at hh; simp only [rd]; grind
theorem p_block (hL : Lexd y n len) (hn6 : n ≤ 600) (hc : c = 8) : ∀ (b : Nat), b ≤ 5 → ∀ (D : Nat) (br : Int), 3 * b + 62 ≤ D → br = 5 - b → PSpM L D y n len f t br (pPt c (Tk y len) b) := by
  intro b
  have hstart : ∀ (d : Nat) (br : Int) (gs g : Mem) (k : Int) (σ : Sg) (Q : Option TV → Wd → Prop), SM y n len gs k σ br g → (¬ Tk y len k = 123 → EQ_ y f t (FS gs) Q 1 k) → (Tk y len k = 123 → ∀ g1 op N R, ME y n len g k op N R g1 → LKs y len k g1 → FS gs g1 → CT k σ br g1 → VV L (d + 10) m_M_block 21 [some (tA 156)] [] (WW f t g1) Q) → VV L (d + 10) m_M_block 0 [some (tA 156)] [] (WW f t g) Q := by
    intro d br gs g k σ Q h hN hY
    obtain ⟨hF, ⟨op, N, R, hM⟩, hC⟩ := h
    simp only [u_M_block_0, u_M_block_1, u_M_block_3, u_M_block_5, ne_eq, not_false_eq_true, not_true_eq_false, true_and, and_true, true_or, or_true, eq_self, Option.toList_some, Option.toList_none, List.cons_append, List.nil_append, tc_0, tc_I, tc_L, tc_A, Nat.reduceAdd, Nat.reduceLeDiff, Nat.reduceEqDiff, Int.reduceEq, Int.reduceLT, Int.reduceLE, Int.reduceNeg, Int.reduceToNat, Int.cast_ofNat_Int, if_true, if_false, and_self, or_self, ite_self, bI_0, bI_1, bI_01, Bool.false_eq_true, reduceCtorEq, h1_156]
    refine m_is (c := 123) hL (ME_mk hM) (by decide) (fun g1 h1 hl => ?_)
    by_cases e : Tk y len k = 123
    · simp only [e, decide_true, bB_t, u_M_block_8, ne_eq, not_false_eq_true, not_true_eq_false, true_and, and_true, true_or, or_true, eq_self, Option.toList_some, Option.toList_none, List.cons_append, List.nil_append, tc_0, tc_I, tc_L, tc_A, Nat.reduceAdd, Nat.reduceLeDiff, Nat.reduceEqDiff, Int.reduceEq, Int.reduceLT, Int.reduceLE, Int.reduceNeg, Int.reduceToNat, Int.cast_ofNat_Int, if_true, if_false, and_self, or_self, ite_self, bI_0, bI_1, bI_01, Bool.false_eq_true, reduceCtorEq]
      exact hY e g1 op N R h1 hl (FS_FE hF h1.1) (CT_FC hC (FC_of h1.1) (by omega))
    · simp only [e, decide_false, bB_f, u_M_block_8, u_M_block_11, u_M_block_12, u_M_block_13, u_M_block_14, u_M_block_17, u_M_block_20, ne_eq, not_false_eq_true, not_true_eq_false, true_and, and_true, true_or, or_true, eq_self, Option.toList_some, Option.toList_none, List.cons_append, List.nil_append, tc_0, tc_I, tc_L, tc_A, Nat.reduceAdd, Nat.reduceLeDiff, Nat.reduceEqDiff, Int.reduceEq, Int.reduceLT, Int.reduceLE, Int.reduceNeg, Int.reduceToNat, Int.cast_ofNat_Int, if_true, if_false, and_self, or_self, ite_self, bI_0, bI_1, bI_01, Bool.false_eq_true, reduceCtorEq, h1_156, gt_156_5, hl.1]
      refine m_fails h1.1 (fun g2 a b e' => ?_)
      simp only [u_M_block_20, ne_eq, not_false_eq_true, not_true_eq_false, true_and, and_true, true_or, or_true, eq_self, Option.toList_some, Option.toList_none, List.cons_append, List.nil_append, tc_0, tc_I, tc_L, tc_A, Nat.reduceAdd, Nat.reduceLeDiff, Nat.reduceEqDiff, Int.reduceEq, Int.reduceLT, Int.reduceLE, Int.reduceNeg, Int.reduceToNat, Int.cast_ofNat_Int, if_true, if_false, and_self, or_self, ite_self, bI_0, bI_1, bI_01, Bool.false_eq_true, reduceCtorEq]
      exact hN e g2 (FS_FE hF a) b e'
  induction b with
  | zero =>
    intro hb D br hD hbr gs g k σ Q hσ h hQ
    obtain ⟨d, rfl⟩ : ∃ d, D = d + 10 := ⟨D - 10, by omega⟩
    unfold pPt at hQ
    refine hstart d br gs g k σ Q h (fun e => ?_) (fun e g1 op N R h1 hl hF1 hC1 => ?_)
    · rw [if_neg e] at hQ; exact hQ
    · rw [if_pos e] at hQ
      have hb5 : g1 156 20 = 5 := by rw [hC1.2.2.2.2]; omega
      simp only [u_M_block_21, u_M_block_22, u_M_block_25, u_M_block_26, u_M_block_29, u_M_block_30, u_M_block_31, u_M_block_32, u_M_block_35, u_M_block_38, ne_eq, not_false_eq_true, not_true_eq_false, true_and, and_true, true_or, or_true, eq_self, Option.toList_some, Option.toList_none, List.cons_append, List.nil_append, tc_0, tc_I, tc_L, tc_A, Nat.reduceAdd, Nat.reduceLeDiff, Nat.reduceEqDiff, Int.reduceEq, Int.reduceLT, Int.reduceLE, Int.reduceNeg, Int.reduceToNat, Int.cast_ofNat_Int, if_true, if_false, and_self, or_self, ite_self, bI_0, bI_1, bI_01, Bool.false_eq_true, reduceCtorEq, h1_156, gt_156_20, gt_156_5, hb5, hl.1]
      refine m_fails h1.1 (fun g2 a b e' => ?_)
      simp only [u_M_block_38, ne_eq, not_false_eq_true, not_true_eq_false, true_and, and_true, true_or, or_true, eq_self, Option.toList_some, Option.toList_none, List.cons_append, List.nil_append, tc_0, tc_I, tc_L, tc_A, Nat.reduceAdd, Nat.reduceLeDiff, Nat.reduceEqDiff, Int.reduceEq, Int.reduceLT, Int.reduceLE, Int.reduceNeg, Int.reduceToNat, Int.cast_ofNat_Int, if_true, if_false, and_self, or_self, ite_self, bI_0, bI_1, bI_01, Bool.false_eq_true, reduceCtorEq]
      exact hQ g2 (FS_FE h.1 a) b e'
  | succ b ih =>
    intro hb D br hD hbr gs g k σ Q hσ h hQ
    obtain ⟨d, rfl⟩ : ∃ d, D = d + 62 := ⟨D - 62, by omega⟩
    unfold pPt at hQ
    refine hstart (d + 52) br gs g k σ Q h (fun e => ?_) (fun e g1 op N R h1 hl hF1 hC1 => ?_)
    · rw [if_neg e] at hQ; exact hQ
    · rw [if_pos e] at hQ
      have hb5 : g1 156 20 = br := hC1.2.2.2.2
      have w1 : w32 (br + 1) = br + 1 := w32_id (by omega) (by omega)
      have w2 : w32 (br + 1 - 1) = br := by rw [w32_id (by omega) (by omega)]; omega
      simp only [u_M_block_21, u_M_block_22, u_M_block_25, u_M_block_26, u_M_block_29, u_M_block_30, u_M_block_31, u_M_block_32, u_M_block_35, u_M_block_38, u_M_block_39, u_M_block_40, u_M_block_41, u_M_block_44, u_M_block_45, u_M_block_46, u_M_block_49, u_M_block_50, ne_eq, not_false_eq_true, not_true_eq_false, true_and, and_true, true_or, or_true, eq_self, Option.toList_some, Option.toList_none, List.cons_append, List.nil_append, tc_0, tc_I, tc_L, tc_A, Nat.reduceAdd, Nat.reduceLeDiff, Nat.reduceEqDiff, Int.reduceEq, Int.reduceLT, Int.reduceLE, Int.reduceNeg, Int.reduceToNat, Int.cast_ofNat_Int, if_true, if_false, and_self, or_self, ite_self, bI_0, bI_1, bI_01, Bool.false_eq_true, reduceCtorEq, h1_156, gt_156_20, pt_156_20, hb5, show ¬ br = 5 by omega, w1]
      refine p_take hL hn6 (ME_mk (MR_br h1.2)) (LKs_m hl (by omega)) (by omega) (by omega) (fun g2 h2 => ?_)
      have hS2 : SM y n len gs (k + 1) σ (br + 1) g2 := SM_FE' (FS_br hF1) (CT_br hC1) h2.1 h2.2 (by omega)
      simp only [u_M_block_53, u_M_block_54, u_M_block_55, ne_eq, not_false_eq_true, not_true_eq_false, true_and, and_true, true_or, or_true, eq_self, Option.toList_some, Option.toList_none, List.cons_append, List.nil_append, tc_0, tc_I, tc_L, tc_A, Nat.reduceAdd, Nat.reduceLeDiff, Nat.reduceEqDiff, Int.reduceEq, Int.reduceLT, Int.reduceLE, Int.reduceNeg, Int.reduceToNat, Int.cast_ofNat_Int, if_true, if_false, and_self, or_self, ite_self, bI_0, bI_1, bI_01, Bool.false_eq_true, reduceCtorEq, h1_156]
      refine p_readSteps (D := d + 57) (b := 1) (br := br + 1) (stop := 125) hL (Or.inr ⟨rfl, rfl⟩) (pStep_ok (pPt_ok b)) (fun gs g k σ Q hσ h hl hQ => p_readStep hL hn6 hc h hl hσ (pPt_ok b) (ih (by omega) (d + 59) (br + 1) (by omega) (by omega)) hQ) 601 gs g2 (k + 1) σ _ (by have := hL.1; have := (ME_k h2).1; omega) hσ hS2 ?_
      cases hp : pStps (Tk y len) (pStep c (Tk y len) (pPt c (Tk y len) b)) 125 601 (k + 1) σ with
      | error e =>
        obtain ⟨⟨w, i, q⟩, σ'⟩ := e
        rw [hp] at hQ
        intro g3 a b e
        simp only [u_M_block_58, u_M_block_61, u_M_block_62, ne_eq, not_false_eq_true, not_true_eq_false, true_and, and_true, true_or, or_true, eq_self, Option.toList_some, Option.toList_none, List.cons_append, List.nil_append, tc_0, tc_I, tc_L, tc_A, Nat.reduceAdd, Nat.reduceLeDiff, Nat.reduceEqDiff, Int.reduceEq, Int.reduceLT, Int.reduceLE, Int.reduceNeg, Int.reduceToNat, Int.cast_ofNat_Int, if_true, if_false, and_self, or_self, ite_self, bI_0, bI_1, bI_01, Bool.false_eq_true, reduceCtorEq]
        exact hQ g3 a b e
      | ok q =>
        obtain ⟨l, j, σ1⟩ := q
        rw [hp] at hQ
        intro g3 hS3 hle
        have h125 := pStps_stop _ _ _ _ _ _ hp
        obtain ⟨hF3, ⟨op3, N3, R3, hM3⟩, hC3⟩ := hS3
        simp only [u_M_block_58, u_M_block_61, u_M_block_62, u_M_block_63, u_M_block_64, u_M_block_65, u_M_block_68, u_M_block_69, u_M_block_70, u_M_block_73, u_M_block_74, u_M_block_76, u_M_block_78, ne_eq, not_false_eq_true, not_true_eq_false, true_and, and_true, true_or, or_true, eq_self, Option.toList_some, Option.toList_none, List.cons_append, List.nil_append, tc_0, tc_I, tc_L, tc_A, Nat.reduceAdd, Nat.reduceLeDiff, Nat.reduceEqDiff, Int.reduceEq, Int.reduceLT, Int.reduceLE, Int.reduceNeg, Int.reduceToNat, Int.cast_ofNat_Int, if_true, if_false, and_self, or_self, ite_self, bI_0, bI_1, bI_01, Bool.false_eq_true, reduceCtorEq, h1_156, gt_156_20, pt_156_20, hC3.2.2.2.2, w2]
        refine p_wants (d := d + 56) hL hn6 (ME_mk (MR_br hM3)) (by decide) (by decide) (fun e g4 h4 => ?_) (fun e => absurd h125 e)
        simp only [u_M_block_81, ne_eq, not_false_eq_true, not_true_eq_false, true_and, and_true, true_or, or_true, eq_self, Option.toList_some, Option.toList_none, List.cons_append, List.nil_append, tc_0, tc_I, tc_L, tc_A, Nat.reduceAdd, Nat.reduceLeDiff, Nat.reduceEqDiff, Int.reduceEq, Int.reduceLT, Int.reduceLE, Int.reduceNeg, Int.reduceToNat, Int.cast_ofNat_Int, if_true, if_false, and_self, or_self, ite_self, bI_0, bI_1, bI_01, Bool.false_eq_true, reduceCtorEq]
        exact hQ g4 (SM_FE' (FS_br hF3) (CT_br hC3) h4.1 h4.2 (by omega)) (by omega)
end
