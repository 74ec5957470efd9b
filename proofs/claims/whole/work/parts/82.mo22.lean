/-! The reference's read -/
def MR0 (y : Int → Int) (n : Int) (len : Nat) (k : Int) (g : Mem) : Prop :=
  okG g ∧ ym g = y ∧ g 156 1 = n ∧ 0 ≤ g 156 4 ∧ g 156 4 ≤ n ∧ sk y (g 156 4) = sk y (eN y k.toNat) ∧ g 156 11 = k ∧ 0 ≤ k ∧ k ≤ len ∧ (∀ q : Nat, (q : Int) < k → g 159 q = eS (Tk y len) q ∧ g 160 q = whc (Tk y len q))
section
variable {L d c : Nat} {f t g g' gs g0 : Mem} {Q : Option TV → Wd → Prop} {y : Int → Int} {n k k' br z w i o_ op : Int} {len N R : Nat} {σ : Sg}
theorem MR_0 (h : MR y n len k op N R g) : MR0 y n len k g := by
  obtain ⟨hg, hy, hn, h0, h1, hs, hm, hk0, hk, hE, _⟩ := h
  exact ⟨hg, hy, hn, h0, h1, hs, hm, hk0, hk, hE⟩
theorem MR0_90 {v s : Int} (h : MR0 y n len k g) : MR y n len k 0 0 0 (st90 g v s) := by
  obtain ⟨hg, hy, hn, h0, h1, hs, hm, hk0, hk, hE⟩ := h
  refine ⟨⟨hg.1, hg.2.1, fun i hi => ?_⟩, ?_, hn, h0, h1, hs, hm, hk0, hk, fun q hq => ?_, rfl, rfl, rfl, by omega, by omega⟩
  · have := hg.2.2 i hi; rw [st90_o (by omega)]; exact this
  · rw [← hy]; funext i; unfold ym; rw [st90_o (by omega), st90_o (by omega)]
  · have := hE q hq; rw [st90_o (by omega), st90_o (by omega)]; exact this
theorem m_look0 (hL : Lexd y n len) (h : MR0 y n len k g) (hQ : ∀ g', FE g g' → MR0 y n len k g' → LKs y len k g' → Q none (WW f t g')) : VV L (d + 3) m_M_look 0 [some (tA 156), none, none] [] (WW f t g) Q := by
  obtain ⟨hg, hy, hn, h0, h1, hs, hm, hk0, hk, hE⟩ := h
  have h1' : g 156 4 ≤ g 156 1 := by omega
  rw [s_M_look hg h0 h1']
  have hsk := sk_le (f := fun _ j => g 157 j) (n := g 156 1) (i := g 156 4) hg.2.1 h0 h1'
  rw [ym_yb, hy, hn] at hsk
  have hT : lkT y n (g 156 4) = Tk y len k := by
    unfold lkT Tk
    rw [hs]
    by_cases hlt : k < len
    · rw [if_pos (hL.2.2 k.toNat (by omega)).2, if_pos ⟨hk0, hlt⟩]
    · have : k = len := by omega
      rw [this, Int.toNat_natCast, hL.2.1, if_neg (by omega), if_neg (by omega)]
  have hid : sk y (sk y (eN y k.toNat)) = sk y (eN y k.toNat) := by
    have := sk_ns (f := fun _ j => g 157 j) (n := g 156 1) (i := g 156 4) hg.2.1 h0 h1'
    rw [ym_yb, hy, hs] at this
    have e : yb (fun _ j => g 157 j) (g 156 1) = y := hy
    rw [← e] at this ⊢
    exact sk_id this
  apply hQ
  · unfold lkg
    rw [hy, hn, hT]
    intro c j hcj
    rw [lk_o (fun hh => hcj (Or.inr (Or.inr ⟨hh.1, Or.inl hh.2⟩)))]
  · unfold lkg
    rw [hy, hn, hT]
    refine ⟨?_, ?_, ?_, ?_, ?_, ?_, ?_, hk0, hk, fun q hq => ?_⟩
    · refine ⟨hg.1, hg.2.1, fun i hi => ?_⟩
      rw [lk_157]; exact hg.2.2 i hi
    · rw [lk_y]; exact hy
    · exact hn
    · rw [lk_4]; omega
    · rw [lk_4]; omega
    · rw [lk_4, hs, hid]
    · exact hm
    · have := hE q hq
      rw [lk_o (by omega), lk_o (by omega)]; exact this
  · unfold lkg
    rw [hy, hn, hT]
    refine ⟨?_, rfl, rfl, fun hlt => ?_⟩
    · rw [lk_5, hs]
    · rw [lk_8]
      unfold lkE
      rw [hs, if_pos (hL.2.2 k.toNat (by omega)).2]
      rfl
theorem p_readStep0 {B : Type} {pt : Int → Sg → PS B} (hL : Lexd y n len) (hn6 : n ≤ 600) (hc : c = 8) (hF : FS gs g) (hM : MR0 y n len k g) (hC : CT k σ br g) (hl : LKs y len k g) (hσ : okSg σ) (hpt : okPt pt) (hP : PSpM L (d + 59) y n len f t br pt) (hQ : RS y n len gs f t br Q k (pStep c (Tk y len) pt k σ)) : VV L (d + 60) m_M_readStep 0 [some (tA 156), none, none, none, none, none, none, none] [] (WW f t g) Q := by
  unfold pStep at hQ
  simp only [u_M_readStep_0, u_M_readStep_1, u_M_readStep_4, u_M_readStep_5, u_M_readStep_6, u_M_readStep_9, ne_eq, not_false_eq_true, not_true_eq_false, true_and, and_true, true_or, or_true, eq_self, Option.toList_some, Option.toList_none, List.cons_append, List.nil_append, tc_0, tc_I, tc_L, tc_A, Nat.reduceAdd, Nat.reduceLeDiff, Nat.reduceEqDiff, Int.reduceEq, Int.reduceLT, Int.reduceLE, Int.reduceNeg, Int.reduceToNat, Int.cast_ofNat_Int, if_true, if_false, and_self, or_self, ite_self, bI_0, bI_1, bI_01, Bool.false_eq_true, reduceCtorEq, h1_156, gt_156_5, hl.1, s_M_mayBegin hl, bB_0, ite_not]
  have hfail : ∀ (g1 : Mem) (wf : Int), FS gs g1 → FS gs (mset (mset g1 156 12 wf) 156 13 (sk y (eN y k.toNat))) := by
    intro g1 wf h1 a j hh; rw [← h1 a j hh]; unfold scE at hh; simp only [rd]; grind
  by_cases hB : kBeg (Tk y len k) = true
  · rw [if_pos hB] at hQ
    have h5 := srt5 (x := Tk y len k)
    have hoi : kOrd (Tk y len k) = true ↔ (srt (Tk y len k) = 5 ∧ 14 ≤ whc (Tk y len k)) := by
      have hBx : (97 ≤ Tk y len k ∧ Tk y len k ≤ 122) ∨ (65 ≤ Tk y len k ∧ Tk y len k ≤ 70) ∨ (200 ≤ Tk y len k ∧ Tk y len k ≤ 207) ∨ Tk y len k = 208 ∨ Tk y len k = 211 ∨ Tk y len k = 215 ∨ Tk y len k = 216 ∨ Tk y len k = 214 := by unfold kBeg at hB; simpa using hB
      unfold kOrd
      simp only [decide_eq_true_eq]
      constructor
      · intro hh; have s5 := h5.1.mpr (by omega); exact ⟨s5, by rw [h5.2 s5]; omega⟩
      · intro ⟨a, b⟩; rw [h5.2 a] at b; omega
    have h44 : ∀ v : Int, v = bB (kOrd (Tk y len k)) → VV L (d + 60) m_M_readStep 44 [some (tA 156), some (tI (sk y (eN y k.toNat))), none, none, none, none, none, none] [tI v] (WW f t g) Q := by
      intro v hv
      have hv01 : v = 0 ∨ v = 1 := by rw [hv]; unfold bB; split <;> simp
      have hst := hC.2.2.2.1
      have hkl : k ≤ len := hM.2.2.2.2.2.2.2.2.1
      have hlen := hL.1
      have hw : w32 (g 156 18 + 1) = g 156 18 + 1 := w32_id (by omega) (by omega)
      have h90 : (σ.2.1 = 1 → σ.2.2 = v) → VV L (d + 60) m_M_readStep 90 [some (tA 156), some (tI (sk y (eN y k.toNat))), some (tI v), none, none, none, none, none] [] (WW f t (mset (mset g 156 17 v) 156 18 (g 156 18 + 1))) Q := by
        intro hsv
        simp only [u_M_readStep_90, u_M_readStep_91, u_M_readStep_92, u_M_readStep_95, u_M_readStep_96, u_M_readStep_97, u_M_readStep_100, u_M_readStep_101, u_M_readStep_102, ne_eq, not_false_eq_true, not_true_eq_false, true_and, and_true, true_or, or_true, eq_self, Option.toList_some, Option.toList_none, List.cons_append, List.nil_append, tc_0, tc_I, tc_L, tc_A, Nat.reduceAdd, Nat.reduceLeDiff, Nat.reduceEqDiff, Int.reduceEq, Int.reduceLT, Int.reduceLE, Int.reduceNeg, Int.reduceToNat, Int.cast_ofNat_Int, if_true, if_false, and_self, or_self, ite_self, bI_0, bI_1, bI_01, Bool.false_eq_true, reduceCtorEq, h1_156, pt_156_14, pt_156_15, pt_156_16]
        have hno : ¬ (σ.2.1 = 1 ∧ ¬ σ.2.2 = bB (kOrd (Tk y len k))) := fun hh => hh.2 (by rw [← hv]; exact hsv hh.1)
        rw [if_neg hno, ← hv] at hQ
        change VV L (d + 60) m_M_readStep 105 _ [] (WW f t (st90 g v (g 156 18 + 1))) Q
        refine p_105 (gs := gs) (σ := (σ.1, 1, v)) hL hn6 hc ?_ (MR0_90 hM) ?_ ?_ ⟨Or.inr rfl, hv01, hσ.2.2⟩ hpt hP rfl hB ?_
        · intro a j hh; rw [← hF a j hh, st90_o (by unfold scE at hh; omega)]
        · obtain ⟨a, b, e, i⟩ := hl
          exact ⟨a, b, e, i⟩
        · obtain ⟨a, b, e, i, j⟩ := hC
          refine ⟨a, fun hh => ?_, fun _ => ⟨?_, rfl⟩, ?_, j⟩
          · exact absurd (show (1 : Int) = 0 from hh) (by decide)
          · show ¬ g 156 18 + 1 = 0; omega
          · show 0 ≤ g 156 18 + 1 ∧ g 156 18 + 1 ≤ k + 1; omega
        · revert hQ
          cases pIn c (Tk y len) pt k (σ.1, 1, v) with
          | error e => intro hQ; exact hQ
          | ok q =>
            obtain ⟨s, j, σ2⟩ := q
            intro hQ
            dsimp only [fin] at hQ ⊢
            revert hQ
            by_cases e1 : Tk y len j = 59
            · by_cases e2 : inIt (Tk y len) k (j + 1) = true
              · simp only [e1, e2, if_true]; exact fun hh => hh
              · by_cases e3 : σ2.1 + nIns (Tk y len k) ≤ 40
                · simp only [e1, e2, e3, if_true, if_false, Bool.false_eq_true]; exact fun hh => hh
                · simp only [e1, e2, e3, if_true, if_false, Bool.false_eq_true]; exact fun hh => hh
            · simp only [e1, if_false]; exact fun hh => hh
      simp only [u_M_readStep_44, u_M_readStep_45, u_M_readStep_46, u_M_readStep_47, u_M_readStep_50, ne_eq, not_false_eq_true, not_true_eq_false, true_and, and_true, true_or, or_true, eq_self, Option.toList_some, Option.toList_none, List.cons_append, List.nil_append, tc_0, tc_I, tc_L, tc_A, Nat.reduceAdd, Nat.reduceLeDiff, Nat.reduceEqDiff, Int.reduceEq, Int.reduceLT, Int.reduceLE, Int.reduceNeg, Int.reduceToNat, Int.cast_ofNat_Int, if_true, if_false, and_self, or_self, ite_self, bI_0, bI_1, bI_01, Bool.false_eq_true, reduceCtorEq, h1_156, gt_156_18]
      rcases hσ.1 with hb | hb
      · have h18 := hC.2.1 hb
        simp only [h18, u_M_readStep_53, u_M_readStep_54, u_M_readStep_57, u_M_readStep_58, u_M_readStep_61, u_M_readStep_64, u_M_readStep_65, u_M_readStep_66, u_M_readStep_69, u_M_readStep_70, u_M_readStep_71, u_M_readStep_74, u_M_readStep_75, u_M_readStep_76, u_M_readStep_79, ne_eq, not_false_eq_true, not_true_eq_false, true_and, and_true, true_or, or_true, eq_self, Option.toList_some, Option.toList_none, List.cons_append, List.nil_append, tc_0, tc_I, tc_L, tc_A, Nat.reduceAdd, Nat.reduceLeDiff, Nat.reduceEqDiff, Int.reduceEq, Int.reduceLT, Int.reduceLE, Int.reduceNeg, Int.reduceToNat, Int.cast_ofNat_Int, if_true, if_false, and_self, or_self, ite_self, bI_0, bI_1, bI_01, Bool.false_eq_true, reduceCtorEq, h1_156, gt_156_17, gt_156_18, pt_156_17, pt_156_18, hv01, rd, and_true, and_false]
        have := h90 (fun hh => by omega)
        rw [h18] at this
        exact this
      · obtain ⟨h18, h17⟩ := hC.2.2.1 hb
        have h01 : g 156 17 = 0 ∨ g 156 17 = 1 := by rw [h17]; exact hσ.2.1
        simp only [h18, u_M_readStep_53, u_M_readStep_54, u_M_readStep_57, u_M_readStep_58, u_M_readStep_61, u_M_readStep_64, u_M_readStep_65, u_M_readStep_66, u_M_readStep_69, u_M_readStep_70, u_M_readStep_71, u_M_readStep_74, u_M_readStep_75, u_M_readStep_76, u_M_readStep_79, ne_eq, not_false_eq_true, not_true_eq_false, true_and, and_true, true_or, or_true, eq_self, Option.toList_some, Option.toList_none, List.cons_append, List.nil_append, tc_0, tc_I, tc_L, tc_A, Nat.reduceAdd, Nat.reduceLeDiff, Nat.reduceEqDiff, Int.reduceEq, Int.reduceLT, Int.reduceLE, Int.reduceNeg, Int.reduceToNat, Int.cast_ofNat_Int, if_true, if_false, and_self, or_self, ite_self, bI_0, bI_1, bI_01, Bool.false_eq_true, reduceCtorEq, h1_156, gt_156_17, gt_156_18, pt_156_17, pt_156_18, h01, rd, and_true, and_false, hw]
        by_cases hev : v = g 156 17
        · rw [if_pos hev, ← hev]
          exact h90 (fun _ => by rw [← h17, hev])
        · rw [if_neg hev]
          rw [if_pos ⟨hb, by rw [← h17, ← hv]; exact fun hh => hev hh.symm⟩] at hQ
          simp only [u_M_readStep_82, u_M_readStep_83, u_M_readStep_85, u_M_readStep_86, u_M_readStep_89, ne_eq, not_false_eq_true, not_true_eq_false, true_and, and_true, true_or, or_true, eq_self, Option.toList_some, Option.toList_none, List.cons_append, List.nil_append, tc_0, tc_I, tc_L, tc_A, Nat.reduceAdd, Nat.reduceLeDiff, Nat.reduceEqDiff, Int.reduceEq, Int.reduceLT, Int.reduceLE, Int.reduceNeg, Int.reduceToNat, Int.cast_ofNat_Int, if_true, if_false, and_self, or_self, ite_self, bI_0, bI_1, bI_01, Bool.false_eq_true, reduceCtorEq, h1_156, s_M_fails]
          refine hQ _ (hfail _ 6 ?_) rfl rfl
          intro a j hh; rw [← hF a j hh]; unfold scE at hh; simp only [rd]; grind
    by_cases s5 : srt (Tk y len k) = 5
    · by_cases hw14 : whc (Tk y len k) < 14
      · simp only [hB, u_M_readStep_22, u_M_readStep_23, u_M_readStep_26, u_M_readStep_27, u_M_readStep_30, u_M_readStep_31, u_M_readStep_34, u_M_readStep_36, u_M_readStep_39, u_M_readStep_40, u_M_readStep_43, ne_eq, not_false_eq_true, not_true_eq_false, true_and, and_true, true_or, or_true, eq_self, Option.toList_some, Option.toList_none, List.cons_append, List.nil_append, tc_0, tc_I, tc_L, tc_A, Nat.reduceAdd, Nat.reduceLeDiff, Nat.reduceEqDiff, Int.reduceEq, Int.reduceLT, Int.reduceLE, Int.reduceNeg, Int.reduceToNat, Int.cast_ofNat_Int, if_true, if_false, and_self, or_self, ite_self, bI_0, bI_1, bI_01, Bool.false_eq_true, reduceCtorEq, h1_156, gt_156_6, gt_156_7, hl.2.1, hl.2.2.1, s5, hw14]
        exact h44 0 (by rw [show kOrd (Tk y len k) = false by cases hh : kOrd (Tk y len k); rfl; exact absurd (hoi.mp hh).2 (by omega)]; rfl)
      · simp only [hB, u_M_readStep_22, u_M_readStep_23, u_M_readStep_26, u_M_readStep_27, u_M_readStep_30, u_M_readStep_31, u_M_readStep_34, u_M_readStep_36, u_M_readStep_39, u_M_readStep_40, u_M_readStep_43, ne_eq, not_false_eq_true, not_true_eq_false, true_and, and_true, true_or, or_true, eq_self, Option.toList_some, Option.toList_none, List.cons_append, List.nil_append, tc_0, tc_I, tc_L, tc_A, Nat.reduceAdd, Nat.reduceLeDiff, Nat.reduceEqDiff, Int.reduceEq, Int.reduceLT, Int.reduceLE, Int.reduceNeg, Int.reduceToNat, Int.cast_ofNat_Int, if_true, if_false, and_self, or_self, ite_self, bI_0, bI_1, bI_01, Bool.false_eq_true, reduceCtorEq, h1_156, gt_156_6, gt_156_7, hl.2.1, hl.2.2.1, s5, hw14]
        exact h44 1 (by rw [hoi.mpr ⟨s5, by omega⟩]; rfl)
    · simp only [hB, u_M_readStep_22, u_M_readStep_23, u_M_readStep_26, u_M_readStep_27, u_M_readStep_30, u_M_readStep_31, u_M_readStep_34, u_M_readStep_36, u_M_readStep_39, u_M_readStep_40, u_M_readStep_43, ne_eq, not_false_eq_true, not_true_eq_false, true_and, and_true, true_or, or_true, eq_self, Option.toList_some, Option.toList_none, List.cons_append, List.nil_append, tc_0, tc_I, tc_L, tc_A, Nat.reduceAdd, Nat.reduceLeDiff, Nat.reduceEqDiff, Int.reduceEq, Int.reduceLT, Int.reduceLE, Int.reduceNeg, Int.reduceToNat, Int.cast_ofNat_Int, if_true, if_false, and_self, or_self, ite_self, bI_0, bI_1, bI_01, Bool.false_eq_true, reduceCtorEq, h1_156, gt_156_6, gt_156_7, hl.2.1, hl.2.2.1, s5]
      exact h44 0 (by rw [show kOrd (Tk y len k) = false by cases hh : kOrd (Tk y len k); rfl; exact absurd (hoi.mp hh).1 s5]; rfl)
  · rw [if_neg hB] at hQ
    simp only [hB, u_M_readStep_12, u_M_readStep_13, u_M_readStep_14, u_M_readStep_15, u_M_readStep_18, u_M_readStep_21, ne_eq, not_false_eq_true, not_true_eq_false, true_and, and_true, true_or, or_true, eq_self, Option.toList_some, Option.toList_none, List.cons_append, List.nil_append, tc_0, tc_I, tc_L, tc_A, Nat.reduceAdd, Nat.reduceLeDiff, Nat.reduceEqDiff, Int.reduceEq, Int.reduceLT, Int.reduceLE, Int.reduceNeg, Int.reduceToNat, Int.cast_ofNat_Int, if_true, if_false, and_self, or_self, ite_self, bI_0, bI_1, bI_01, Bool.false_eq_true, reduceCtorEq, h1_156, gt_156_5, hl.1, s_M_fails]
    exact hQ _ (hfail _ 1 hF) rfl rfl
theorem pTop_1 {T : Int → Int} (hlow : ∀ i, -1000000000 ≤ T i) (x : TB c 6) (j : Int) (σ' : Sg) (h : pTop c T = .ok (x, j, σ')) (h0 : ¬ T 0 = 0) : σ'.2 = (1, bB (kOrd (T 0))) := by
  unfold pTop at h
  unfold pStps at h
  rw [if_neg h0] at h
  split at h
  · cases h
  · rename_i s j1 σ1 h1
    split at h
    · cases h
    · rename_i l1 k σ2 h2
      cases h
      have q := pStep_t hlow (pPt_t hlow 5) _ _ _ _ _ h1
      have q2 := pStps_t hlow (pPt_t hlow 5) _ _ _ _ _ _ (kOrd (T 0)) h2 q.2.2.2.1
      rw [q2.2.2.2.1, q.2.2.2.1]
def RTp (c : Nat) (y : Int → Int) (n : Int) (len : Nat) (g f t : Mem) (Q : Option TV → Wd → Prop) : PS (TB c 6) → Prop
  | .ok (_, j, _) => ∀ g', FS g g' → MR0 y n len j g' → g' 156 17 = bB (kOrd (Tk y len 0)) → Q (some (tI 1)) (WW f t g')
  | .error ((w, i, _), _) => EQ_ y f t (FS g) Q w i
theorem p_readSteps_top (hL : Lexd y n len) (hn6 : n ≤ 600) (hc : c = 8) (hlow : ∀ i, -1000000000 ≤ Tk y len i) (hM : MR0 y n len 0 g) (hC : CT 0 (0, 0, 0) 0 g) (h17 : g 156 17 = 0) (hQ : RTp c y n len g f t Q (pTop c (Tk y len))) : VV L (d + 119) m_M_readSteps 0 [some (tA 156), some (tI 0)] [] (WW f t g) Q := by
  have hFr : FS g g := fun _ _ _ => rfl
  have hr0 := pTop_1 (c := c) hlow
  have hr1 : ∀ j : Int, ∀ σ' : Sg, ∀ x : TB c 6, pTop c (Tk y len) = .ok (x, j, σ') → ¬ Tk y len 0 = 0 → σ'.2 = (1, bB (kOrd (Tk y len 0))) := fun j σ' x h h0 => hr0 x j σ' h h0
  rw [u_M_readSteps_0]
  simp only [u_M_readSteps_1, ne_eq, not_false_eq_true, not_true_eq_false, true_and, and_true, true_or, or_true, eq_self, Option.toList_some, Option.toList_none, List.cons_append, List.nil_append, tc_0, tc_I, tc_L, tc_A, Nat.reduceAdd, Nat.reduceLeDiff, Nat.reduceEqDiff, Int.reduceEq, Int.reduceLT, Int.reduceLE, Int.reduceNeg, Int.reduceToNat, Int.cast_ofNat_Int, if_true, if_false, and_self, or_self, ite_self, bI_0, bI_1, bI_01, Bool.false_eq_true, reduceCtorEq, h1_156]
  refine m_look0 (d := d + 115) hL hM (fun g1 hF1 hM1 hl => ?_)
  have hC1 : CT 0 (0, 0, 0) 0 g1 := CT_FC hC (FC_of hF1) (Int.le_refl _)
  have hk := hM1.2.2.2.2.2.2.2.2.1
  have h49 : ¬ Tk y len 0 = 0 → VV L (d + 119) m_M_readSteps 49 [some (tA 156), some (tI 0)] [] (WW f t g1) Q := by
    intro e
    simp only [u_M_readSteps_49, u_M_readSteps_50, ne_eq, not_false_eq_true, not_true_eq_false, true_and, and_true, true_or, or_true, eq_self, Option.toList_some, Option.toList_none, List.cons_append, List.nil_append, tc_0, tc_I, tc_L, tc_A, Nat.reduceAdd, Nat.reduceLeDiff, Nat.reduceEqDiff, Int.reduceEq, Int.reduceLT, Int.reduceLE, Int.reduceNeg, Int.reduceToNat, Int.cast_ofNat_Int, if_true, if_false, and_self, or_self, ite_self, bI_0, bI_1, bI_01, Bool.false_eq_true, reduceCtorEq, h1_156]
    have hps := pStep_ok (c := c) (T := Tk y len) (pPt_ok (c := c) (T := Tk y len) 5)
    have hSt : ∀ (gs g : Mem) (k : Int) (σ : Sg) (Q : Option TV → Wd → Prop), okSg σ → SM y n len gs k σ 0 g → LKs y len k g → RS y n len gs f t 0 Q k (pStep c (Tk y len) (pPt c (Tk y len) 5) k σ) → VV L (d + 118) m_M_readStep 0 [some (tA 156), none, none, none, none, none, none, none] [] (WW f t g) Q := fun gs g k σ Q hσ h hl hQ => p_readStep (d := d + 58) hL hn6 hc h hl hσ (pPt_ok 5) (p_block hL hn6 hc 5 (by omega) (d + 117) 0 (by omega) (by omega)) hQ
    have hσ0 : okSg (0, 0, 0) := ⟨Or.inl rfl, Or.inl rfl, by decide, by decide⟩
    refine p_readStep0 (d := d + 58) (gs := g) (σ := (0, 0, 0)) (br := 0) (pt := pPt c (Tk y len) 5) hL hn6 hc (FS_FE hFr hF1) hM1 hC1 hl hσ0 (pPt_ok 5) (p_block hL hn6 hc 5 (by omega) (d + 117) 0 (by omega) (by omega)) ?_
    have hpt : pTop c (Tk y len) = (match pStep c (Tk y len) (pPt c (Tk y len) 5) 0 (0, 0, 0) with
      | .error e => .error e
      | .ok (s, j, σ1) => match pStps (Tk y len) (pStep c (Tk y len) (pPt c (Tk y len) 5)) 0 600 j σ1 with
        | .error e => .error e
        | .ok (l, k, σ2) => .ok (s :: l, k, σ2)) := by
      unfold pTop
      rw [pStps, if_neg e]
      cases pStep c (Tk y len) (pPt c (Tk y len) 5) 0 (0, 0, 0) with
      | error e => rfl
      | ok q =>
        obtain ⟨s, j, σ1⟩ := q
        dsimp only
        cases pStps (Tk y len) (pStep c (Tk y len) (pPt c (Tk y len) 5)) 0 600 j σ1 with
        | error e => rfl
        | ok q => rfl
    rw [hpt] at hQ hr1
    cases hp : pStep c (Tk y len) (pPt c (Tk y len) 5) 0 (0, 0, 0) with
    | error e2 =>
      obtain ⟨⟨w, i, q⟩, σ'⟩ := e2
      rw [hp] at hQ
      intro g2 a b e2
      simp only [u_M_readSteps_53, u_M_readSteps_56, u_M_readSteps_57, ne_eq, not_false_eq_true, not_true_eq_false, true_and, and_true, true_or, or_true, eq_self, Option.toList_some, Option.toList_none, List.cons_append, List.nil_append, tc_0, tc_I, tc_L, tc_A, Nat.reduceAdd, Nat.reduceLeDiff, Nat.reduceEqDiff, Int.reduceEq, Int.reduceLT, Int.reduceLE, Int.reduceNeg, Int.reduceToNat, Int.cast_ofNat_Int, if_true, if_false, and_self, or_self, ite_self, bI_0, bI_1, bI_01, Bool.false_eq_true, reduceCtorEq]
      exact hQ g2 a b e2
    | ok q =>
      obtain ⟨s, j, σ1⟩ := q
      rw [hp] at hQ hr1
      dsimp only at hQ hr1
      intro g2 hS2 hlt
      simp only [u_M_readSteps_53, u_M_readSteps_56, u_M_readSteps_57, ne_eq, not_false_eq_true, not_true_eq_false, true_and, and_true, true_or, or_true, eq_self, Option.toList_some, Option.toList_none, List.cons_append, List.nil_append, tc_0, tc_I, tc_L, tc_A, Nat.reduceAdd, Nat.reduceLeDiff, Nat.reduceEqDiff, Int.reduceEq, Int.reduceLT, Int.reduceLE, Int.reduceNeg, Int.reduceToNat, Int.cast_ofNat_Int, if_true, if_false, and_self, or_self, ite_self, bI_0, bI_1, bI_01, Bool.false_eq_true, reduceCtorEq]
      refine p_readSteps (D := d + 115) (b := 0) (br := 0) (stop := 0) hL (Or.inl ⟨rfl, rfl⟩) hps hSt 600 g g2 j σ1 Q (by have := hL.1; omega) (hps _ _ _ _ _ hσ0 hp) hS2 ?_
      revert hQ hr1
      cases pStps (Tk y len) (pStep c (Tk y len) (pPt c (Tk y len) 5)) 0 600 j σ1 with
      | error e2 => obtain ⟨⟨w, i, q⟩, σ'⟩ := e2; intro _ hQ; exact hQ
      | ok q =>
        obtain ⟨l, j2, σ2⟩ := q
        intro hr1 hQ g3 h3 hle
        obtain ⟨hF3, ⟨op3, N3, R3, hM3⟩, hC3⟩ := h3
        refine hQ g3 hF3 (MR_0 hM3) ?_
        have hs := hr1 j2 σ2 (s :: l) rfl e
        rw [(hC3.2.2.1 (by rw [hs])).2, hs]
  by_cases e : Tk y len 0 = 0
  · have hkl : (0 : Int) = len := by
      by_cases hlt : (0 : Int) < len
      · exfalso
        have hh := hL.2.2 0 (by omega)
        have hyo : okY (fun _ j => g1 157 j) n := by
          intro i hi
          have := hM1.1.2.2 i (by rw [hM1.2.2.1]; exact hi)
          exact this
        have htv := (tv_low hyo hn6 hh.1 hh.2).2
        have ey : yb (fun _ j => g1 157 j) n = y := by rw [← hM1.2.1, ← hM1.2.2.1]; rfl
        rw [ey] at htv
        unfold Tk at e
        rw [if_pos ⟨by omega, hlt⟩] at e
        exact htv e
      · omega
    have hpl : g1 156 5 = n := by
      rw [hl.1]
      have h1 := hL.2.1
      have : len = 0 := by omega
      rw [this] at h1; exact h1
    have hs0 : g1 156 6 = 0 := by rw [hl.2.1, e]; rfl
    have hpt : pTop c (Tk y len) = .ok ([], 0, (0, 0, 0)) := by
      unfold pTop
      rw [pStps, if_pos e]
      rfl
    rw [hpt] at hQ
    simp only [u_M_readSteps_4, u_M_readSteps_5, u_M_readSteps_8, u_M_readSteps_9, u_M_readSteps_12, u_M_readSteps_14, u_M_readSteps_17, u_M_readSteps_18, u_M_readSteps_21, u_M_readSteps_23, u_M_readSteps_26, u_M_readSteps_29, u_M_readSteps_30, u_M_readSteps_33, u_M_readSteps_36, u_M_readSteps_37, u_M_readSteps_40, u_M_readSteps_41, u_M_readSteps_44, u_M_readSteps_47, u_M_readSteps_48, ne_eq, not_false_eq_true, not_true_eq_false, true_and, and_true, true_or, or_true, eq_self, Option.toList_some, Option.toList_none, List.cons_append, List.nil_append, tc_0, tc_I, tc_L, tc_A, Nat.reduceAdd, Nat.reduceLeDiff, Nat.reduceEqDiff, Int.reduceEq, Int.reduceLT, Int.reduceLE, Int.reduceNeg, Int.reduceToNat, Int.cast_ofNat_Int, if_true, if_false, and_self, or_self, ite_self, bI_0, bI_1, bI_01, Bool.false_eq_true, reduceCtorEq, h1_156, gt_156_6, gt_156_5, gt_156_1, hs0, hpl, hM1.2.2.1]
    refine hQ g1 (FS_FE hFr hF1) hM1 ?_
    rw [hF1 156 17 (by unfold scE; omega), h17, e]; rfl
  · have hlt := Tk_lt e
    have hh := hL.2.2 0 (by omega)
    by_cases hs0 : srt (Tk y len 0) = 0
    · have hne : ¬ sk y (eN y 0) = n := by omega
      simp only [u_M_readSteps_4, u_M_readSteps_5, u_M_readSteps_8, u_M_readSteps_9, u_M_readSteps_12, u_M_readSteps_14, u_M_readSteps_17, u_M_readSteps_18, u_M_readSteps_21, u_M_readSteps_23, u_M_readSteps_26, u_M_readSteps_29, u_M_readSteps_30, u_M_readSteps_33, u_M_readSteps_36, u_M_readSteps_37, u_M_readSteps_40, u_M_readSteps_41, u_M_readSteps_44, u_M_readSteps_47, u_M_readSteps_48, ne_eq, not_false_eq_true, not_true_eq_false, true_and, and_true, true_or, or_true, eq_self, Option.toList_some, Option.toList_none, List.cons_append, List.nil_append, tc_0, tc_I, tc_L, tc_A, Nat.reduceAdd, Nat.reduceLeDiff, Nat.reduceEqDiff, Int.reduceEq, Int.reduceLT, Int.reduceLE, Int.reduceNeg, Int.reduceToNat, Int.cast_ofNat_Int, if_true, if_false, and_self, or_self, ite_self, bI_0, bI_1, bI_01, Bool.false_eq_true, reduceCtorEq, h1_156, gt_156_6, gt_156_5, gt_156_1, hl.2.1, hl.1, hM1.2.2.1, hs0, hne]
      exact h49 e
    · simp only [u_M_readSteps_4, u_M_readSteps_5, u_M_readSteps_8, u_M_readSteps_9, u_M_readSteps_12, u_M_readSteps_14, u_M_readSteps_17, u_M_readSteps_18, u_M_readSteps_21, u_M_readSteps_23, u_M_readSteps_26, u_M_readSteps_29, u_M_readSteps_30, u_M_readSteps_33, u_M_readSteps_36, u_M_readSteps_37, u_M_readSteps_40, u_M_readSteps_41, u_M_readSteps_44, u_M_readSteps_47, u_M_readSteps_48, ne_eq, not_false_eq_true, not_true_eq_false, true_and, and_true, true_or, or_true, eq_self, Option.toList_some, Option.toList_none, List.cons_append, List.nil_append, tc_0, tc_I, tc_L, tc_A, Nat.reduceAdd, Nat.reduceLeDiff, Nat.reduceEqDiff, Int.reduceEq, Int.reduceLT, Int.reduceLE, Int.reduceNeg, Int.reduceToNat, Int.cast_ofNat_Int, if_true, if_false, and_self, or_self, ite_self, bI_0, bI_1, bI_01, Bool.false_eq_true, reduceCtorEq, h1_156, gt_156_6, gt_156_5, gt_156_1, hl.2.1, hs0]
      exact h49 e
end
