/-! The run, the reference: over -/
theorem RSt_fr2 {f f' g g' : Mem} {TH : Nat} (h : RSt f g TH) (hf : ∀ b j, 20 ≤ b → b ≤ 48 → f' b j = f b j) (hg : ∀ b j, (174 ≤ b ∧ b ≤ 180) ∨ (b = 156 ∧ j = 35) → g' b j = g b j) : RSt f' g' TH := by
  have hh : ∀ k, hC f' k = hC f k := fun k => by unfold hC; rw [hf 29 _ (by omega) (by omega), hf 30 _ (by omega) (by omega)]
  refine ⟨?_, h.tl, ?_, ?_, ?_, ?_, ?_, ?_, ?_⟩
  · rw [hg 156 35 (by omega)]; exact h.th
  · intro k hk; rw [hf 20 k (by omega) (by omega), hf 21 k (by omega) (by omega), hg 174 k (by omega)]; exact h.nm k hk
  · intro s hs; rw [hf 27 s (by omega) (by omega), hg 179 s (by omega)]; exact h.hg s hs
  · intro s i hs hi
    rw [hf 27 s (by omega) (by omega)] at hi
    rw [hf (23 + s) i (by omega) (by omega), hg 180 _ (by omega)]; exact h.pl s i hs hi
  · intro k hk
    have := h.rw k hk
    rw [hh, hg 175 k (by omega)]
    rcases this with q | ⟨q1, q2, q3, q4, q5, q6, q7, q8⟩
    · exact Or.inl q
    · refine Or.inr ⟨q1, q2, q3, q4, ?_, ?_, ?_, fun i hi => ?_⟩
      · rw [hf 31 _ (by omega) (by omega), hg 176 _ (by omega)]; exact q5
      · rw [hf 32 _ (by omega) (by omega), hg 177 _ (by omega)]; exact q6
      · rw [hf 31 _ (by omega) (by omega)]; exact q7
      · rw [hf 32 _ (by omega) (by omega)] at hi
        rw [hf _ i (by omega) (by omega), hg 178 _ (by omega)]; exact q8 i hi
  · intro a b ha hb h1 h2
    rw [hh] at h1 h2
    rw [hh, hh, hg 175 a (by omega), hg 175 b (by omega)]; exact h.inj a b ha hb h1 h2
  · intro n hn; rw [hf 32 n (by omega) (by omega)]; exact h.cC n hn
  · intro n hn; rw [hg 177 n (by omega)]; exact h.cM n hn
theorem RnM_pl {sg : Int} {f f' g g' : Mem} (h : RnM sg f g) (hf : ∀ b j, (b = 151 ∧ (j = 5 ∨ j = 6 ∨ j = 8 ∨ j = 9)) ∨ b = 153 ∨ b = 154 → f' b j = f b j) (hg : ∀ b j, (b = 156 ∧ (j = 55 ∨ (57 ≤ j ∧ j ≤ 59))) ∨ b = 182 ∨ b = 183 → g' b j = g b j) (h7 : g' 156 56 = f' 151 7) : RnM sg f' g' := by
  refine ⟨?_, h7, ?_, ?_, ?_, fun k hk => ?_⟩
  · rw [hf 151 6 (by omega), hg 156 55 (by omega)]; exact h.r6
  · rw [hf 151 8 (by omega), hg 156 57 (by omega)]; exact h.r8
  · rw [hf 151 9 (by omega), hg 156 58 (by omega)]; exact h.r9
  · rw [hf 151 5 (by omega), hg 156 59 (by omega)]; exact h.r5
  · rw [hf 151 5 (by omega)] at hk
    rw [hf 153 k (by omega), hf 154 k (by omega), hg 182 k (by omega), hg 183 k (by omega)]; exact h.fr k hk
section
variable {L d c r len n : Nat} {F f f' t g : Mem} {T : Int → Int} {Q : Option TV → Wd → Prop} {TH : Nat} {fw sg code x : Int}
theorem ar_ov {r q : Nat} (hr : r < 10) (hq : q < 40) : w32 (40 * (r : Int)) = 40 * r ∧ w32 (40 * (r : Int) + q) = 40 * r + q ∧ (40 * (r : Int) + q).toNat = 40 * r + q ∧ w32 ((q : Int) + 1) = q + 1 ∧ (0 : Int) ≤ 40 * r + q ∧ (40 : Int) * r + q < 400 := by
  refine ⟨w32_id (by omega) (by omega), w32_id (by omega) (by omega), by omega, w32_id (by omega) (by omega), by omega, by omega⟩
theorem ar_q1 {q : Nat} (h : q < 40) : w32 ((q : Int) + 1 + -1) = q := by rw [w32_id (by omega) (by omega)]; omega
theorem ar_q2 {q : Nat} {x : Int} (h : q < 40) (hx : x = (if fw = 1 then (q : Int) else q + 1)) : w32 (x + 0) = x := by
  subst hx; split <;> rw [w32_id (by omega) (by omega)] <;> omega
theorem dz_no (s : SS c) (hw : wS false s) (hno : ¬ (opS1 s = 206 ∨ opS1 s = 207)) : ¬ dzS (opS1 s) = 6 ∧ ¬ dzS (opS1 s) = 7 ∧ (dzS (opS1 s) < 8 ∨ ¬ dzS (opS1 s) < 20) := by
  have big : ∀ k : Int, opS1 s = k → 200 ≤ k ∧ k ≤ 205 → ¬ dzS (opS1 s) = 6 ∧ ¬ dzS (opS1 s) = 7 ∧ (dzS (opS1 s) < 8 ∨ ¬ dzS (opS1 s) < 20) := by
    intro k h1 h2; rw [h1]; unfold dzS; rw [if_neg (by omega)]; omega
  match s, hw, hno, big with
  | .inl (k, n, e), hw, hno, big => have hk : k = 200 ∨ k = 201 := by have := hw.1; simpa using this
                                    exact big k rfl (by omega)
  | .inr (.inl (p, o, e)), hw, hno, big =>
    have ho := hw.2.2.1
    have ho5 : o = 128 ∨ o = 129 ∨ o = 130 ∨ o = 131 ∨ o = 132 := by omega
    show ¬ dzS o = 6 ∧ ¬ dzS o = 7 ∧ (dzS o < 8 ∨ ¬ dzS o < 20)
    rcases ho5 with rfl | rfl | rfl | rfl | rfl <;> decide
  | .inr (.inr (.inl (p, q))), hw, hno, big => show ¬ dzS 133 = 6 ∧ ¬ dzS 133 = 7 ∧ (dzS 133 < 8 ∨ ¬ dzS 133 < 20); decide
  | .inr (.inr (.inr (.inl (k, n, s)))), hw, hno, big => exact big k rfl (by have := hw.2.1; omega)
  | .inr (.inr (.inr (.inr (.inl (k, r, d, e))))), hw, hno, big => exact big k rfl (by have := hw.2.1; omega)
  | .inr (.inr (.inr (.inr (.inr (k, n))))), hw, hno, big => exact absurd (show k = 206 ∨ k = 207 from hw.2.1) hno
theorem p_M_overS {q : Nat} {e : En9} {X : Nat → Tre} (hR : RT g r T len) (hr5 : g 156 55 = (r : Int)) (hent : RO g r q e) (hq : q < 40) (hfw : (fw = 1 ∧ g 156 57 = 1) ∨ (fw = 0 ∧ g 156 57 = -1)) (hpl : g 156 56 = (if fw = 1 then (q : Int) else q + 1)) (hc : c ≤ 11) (hRC : RC f) (hS : RSt f g TH) (hM : RnM sg f g) (hN : 0 ≤ f 151 5 ∧ f 151 5 ≤ 12) (hX : TC X f t) (hY : TM X f t g) (hG : GoS c f t T e q fw code f') (hQ : ∀ g' TH', RnM sg f' g' → RSt f' g' TH' → FG g g' → Q (some (tI code)) (WW F t g')) : VV L (d + 44) m_M_over 0 [some (tA 156), some (tI q), none, none, none, none, none, none, none, none, none] [] (WW F t g) Q := by
  have hr := hR.r10
  obtain ⟨w1, w2, w3, w4, n1, n2⟩ := ar_ov hr hq
  obtain ⟨r0, s, j, hw, g2, g3, g4, g5, hG⟩ := hG
  have hent' := hent
  unfold RO at hent
  rw [if_pos r0] at hent
  obtain ⟨e7, e8, e9⟩ := hent
  rw [g2] at e7 e8
  have hfw' : fw = 0 ∨ fw = 1 := hfw.elim (fun h => Or.inr h.1) (fun h => Or.inl h.1)
  have hst : VV L (d + 44) m_M_over 0 [some (tA 156), some (tI q), none, none, none, none, none, none, none, none, none] [] (WW F t g) Q = VV L (d + 44) m_M_over 32 [some (tA 156), some (tI q), some (tI (40 * (r : Int) + q)), some (tI fw), some (tI (dzS (opS1 s))), none, none, none, none, none, none] [] (WW F t g) Q := by
    rcases hfw with ⟨rfl, h57⟩ | ⟨rfl, h57⟩
    · simp only [u_M_over_0, u_M_over_2, u_M_over_3, u_M_over_6, u_M_over_7, u_M_over_8, u_M_over_9, u_M_over_10, u_M_over_11, u_M_over_14, u_M_over_15, u_M_over_18, u_M_over_19, u_M_over_22, u_M_over_23, u_M_over_24, u_M_over_25, u_M_over_28, u_M_over_29, u_M_over_30, h1_156, gt_156_28, gt_156_55, gt_156_57, h1_167, h2_167, gt_167, pt_167, ne_eq, not_false_eq_true, not_true_eq_false, true_and, and_true, true_or, or_true, eq_self, Option.toList_some, Option.toList_none, List.cons_append, List.nil_append, tc_0, tc_I, tc_L, tc_A, Nat.reduceAdd, Nat.reduceLeDiff, Nat.reduceEqDiff, Int.reduceEq, Int.reduceLT, Int.reduceLE, Int.reduceNeg, Int.reduceToNat, Int.cast_ofNat_Int, if_true, if_false, and_self, or_self, ite_self, bI_0, bI_1, bI_01, Bool.false_eq_true, reduceCtorEq, hr5, w1, w2, w3, n1, n2, h57, e7]
    · simp only [u_M_over_0, u_M_over_2, u_M_over_3, u_M_over_6, u_M_over_7, u_M_over_8, u_M_over_9, u_M_over_10, u_M_over_11, u_M_over_14, u_M_over_15, u_M_over_18, u_M_over_19, u_M_over_22, u_M_over_23, u_M_over_24, u_M_over_25, u_M_over_28, u_M_over_29, u_M_over_30, h1_156, gt_156_28, gt_156_55, gt_156_57, h1_167, h2_167, gt_167, pt_167, ne_eq, not_false_eq_true, not_true_eq_false, true_and, and_true, true_or, or_true, eq_self, Option.toList_some, Option.toList_none, List.cons_append, List.nil_append, tc_0, tc_I, tc_L, tc_A, Nat.reduceAdd, Nat.reduceLeDiff, Nat.reduceEqDiff, Int.reduceEq, Int.reduceLT, Int.reduceLE, Int.reduceNeg, Int.reduceToNat, Int.cast_ofNat_Int, if_true, if_false, and_self, or_self, ite_self, bI_0, bI_1, bI_01, Bool.false_eq_true, reduceCtorEq, hr5, w1, w2, w3, n1, n2, h57, e7]
  rw [hst]
  rcases hG with ⟨hop, m, hm, hn, hk⟩ | ⟨hno, f1, hSt, hf1⟩
  · have hlt := T_in hR (show ¬ T (e.1.2.2.1 + 1) = 0 by rw [hn]; omega)
    obtain ⟨x1, x2, x3, x4, x5, x6⟩ := hR.ix (show 0 ≤ e.1.2.2.1 + 1 by omega) hlt
    rw [hn, (srt_num (show -1 - (m : Int) < 0 by omega)).2, show -1 - (-1 - (m : Int)) = (m : Int) by omega] at x6
    have e8' : g 168 (40 * r + q) = e.1.2.2.1 + 1 := by rw [e8, if_neg (by omega)]
    have hd : dzS (opS1 s) = opS1 s - 200 := by unfold dzS; rw [if_neg (by omega)]
    have hst2 : VV L (d + 44) m_M_over 32 [some (tA 156), some (tI q), some (tI (40 * (r : Int) + q)), some (tI fw), some (tI (dzS (opS1 s))), none, none, none, none, none, none] [] (WW F t g) Q = VV L (d + 43) m_M_enters 0 [some (tA 156), some (tI m), some (tI q), some (tI (if opS1 s = 207 then 1 else 0))] [] (WW F t g) (fun r_1 w1 => VV L (d + 43 + 1) m_M_over 83 [some (tA 156), some (tI q), some (tI (40 * (r : Int) + q)), some (tI fw), some (tI (dzS (opS1 s))), none, none, none, none, none, none] (r_1.toList ++ []) w1 Q) := by
      rw [hd]
      rcases hop with h | h <;> rw [h] <;> simp only [u_M_over_32, u_M_over_34, u_M_over_36, u_M_over_39, u_M_over_41, u_M_over_43, u_M_over_46, u_M_over_47, u_M_over_48, u_M_over_51, u_M_over_54, u_M_over_55, u_M_over_58, u_M_over_59, u_M_over_60, u_M_over_63, u_M_over_64, u_M_over_65, u_M_over_66, u_M_over_67, u_M_over_68, u_M_over_70, u_M_over_72, u_M_over_75, u_M_over_76, u_M_over_79, u_M_over_80, h1_156, gt_156_26, gt_156_29, gt_156_55, h1_165, h2_165, gt_165, pt_165, h1_168, h2_168, gt_168, pt_168, ne_eq, not_false_eq_true, not_true_eq_false, true_and, and_true, true_or, or_true, eq_self, Option.toList_some, Option.toList_none, List.cons_append, List.nil_append, tc_0, tc_I, tc_L, tc_A, Nat.reduceAdd, Nat.reduceLeDiff, Nat.reduceEqDiff, Int.reduceEq, Int.reduceLT, Int.reduceLE, Int.reduceNeg, Int.reduceToNat, Int.cast_ofNat_Int, if_true, if_false, and_self, or_self, ite_self, bI_0, bI_1, bI_01, Bool.false_eq_true, reduceCtorEq, hr5, w3, n1, n2, e8', x1, x2, x3, x4, x6, Int.reduceSub, Int.reduceEq, if_true, if_false]
    rw [hst2]
    unfold GoN at hk
    have hth := hY.th m hm
    have hgo : ∀ code' g' , Q (some (tI code')) (WW F t g') → VV L (d + 43 + 1) m_M_over 83 [some (tA 156), some (tI q), some (tI (40 * (r : Int) + q)), some (tI fw), some (tI (dzS (opS1 s))), none, none, none, none, none, none] ((some (tI code')).toList ++ []) (WW F t g') Q := by
      intro code' g' h; simp only [u_M_over_83, ne_eq, not_false_eq_true, not_true_eq_false, true_and, and_true, true_or, or_true, eq_self, Option.toList_some, Option.toList_none, List.cons_append, List.nil_append, tc_0, tc_I, tc_L, tc_A, Nat.reduceAdd, Nat.reduceLeDiff, Nat.reduceEqDiff, Int.reduceEq, Int.reduceLT, Int.reduceLE, Int.reduceNeg, Int.reduceToNat, Int.cast_ofNat_Int, if_true, if_false, and_self, or_self, ite_self, bI_0, bI_1, bI_01, Bool.false_eq_true, reduceCtorEq]; exact h
    refine p_M_enters (sz := t (aT f m) 9) (f := f) hM hN hm hth (hX.th m hm) (fun h => ?_) (fun h => ?_) hop hfw (fun g' h1 h2 h3 h4 => ?_) (fun h => ?_) (fun h1 h2 => ?_)
    · rw [(hY.ok m hm h).od, ← (hX.ok m hm h).od]
    · rw [(hY.ok m hm h).nn, ← (hX.ok m hm h).f9]
    · rw [if_neg h1, if_neg h2] at hk
      refine hgo _ _ ?_
      have := hQ g' TH (by rw [hk.2]; exact h4) (by rw [hk.2]; exact RSt_fr2 hS (fun b j _ _ => enC_st (by omega) (by omega) (by omega)) (fun b j hh => h3 b j (by omega))) (FG_H h3)
      rw [hk.1] at this; exact this
    · rw [if_pos h] at hk
      refine hgo _ _ ?_
      have := hQ g TH (by rw [hk.2]; exact hM) (by rw [hk.2]; exact hS) FG_refl
      rw [hk.1] at this; exact this
    · rw [if_neg h1, if_pos h2] at hk
      refine hgo _ _ ?_
      have := hQ g TH (by rw [hk.2]; exact hM) (by rw [hk.2]; exact hS) FG_refl
      rw [hk.1] at this; exact this
  · obtain ⟨z1, z2, z3⟩ := dz_no s hw hno
    obtain ⟨d1, hd1⟩ : ∃ d1, d + 43 = d1 + 3 * c + 10 := ⟨d + 33 - 3 * c, by omega⟩
    have hent2 : RO g r q ((opS1 s, 0, e.1.2.2.1, e.1.2.2.1 + boS1 s, 0, 0, 0), 0, 0) := by
      unfold RO; rw [if_pos rfl]; exact ⟨e7, e8, by rw [e9, g3]⟩
    have hst2 : VV L (d + 44) m_M_over 32 [some (tA 156), some (tI q), some (tI (40 * (r : Int) + q)), some (tI fw), some (tI (dzS (opS1 s))), none, none, none, none, none, none] [] (WW F t g) Q = VV L (d + 43) m_M_doStep 0 [some (tA 156), some (tI r), some (tI (40 * (r : Int) + q)), some (tI fw), none] [] (WW F t g) (fun r_1 w1 => VV L (d + 43 + 1) m_M_over 108 [some (tA 156), some (tI q), some (tI (40 * (r : Int) + q)), some (tI fw), some (tI (dzS (opS1 s))), none, none, none, none, none, none] (r_1.toList ++ []) w1 Q) := by
      rcases z3 with z3 | z3
      · simp only [u_M_over_32, u_M_over_34, u_M_over_36, u_M_over_39, u_M_over_41, u_M_over_43, u_M_over_84, u_M_over_86, u_M_over_88, u_M_over_91, u_M_over_93, u_M_over_95, u_M_over_98, u_M_over_99, u_M_over_100, u_M_over_103, u_M_over_104, u_M_over_105, h1_156, gt_156_55, ne_eq, not_false_eq_true, not_true_eq_false, true_and, and_true, true_or, or_true, eq_self, Option.toList_some, Option.toList_none, List.cons_append, List.nil_append, tc_0, tc_I, tc_L, tc_A, Nat.reduceAdd, Nat.reduceLeDiff, Nat.reduceEqDiff, Int.reduceEq, Int.reduceLT, Int.reduceLE, Int.reduceNeg, Int.reduceToNat, Int.cast_ofNat_Int, if_true, if_false, and_self, or_self, ite_self, bI_0, bI_1, bI_01, Bool.false_eq_true, reduceCtorEq, z1, z2, z3, hr5]
      · simp only [u_M_over_32, u_M_over_34, u_M_over_36, u_M_over_39, u_M_over_41, u_M_over_43, u_M_over_84, u_M_over_86, u_M_over_88, u_M_over_91, u_M_over_93, u_M_over_95, u_M_over_98, u_M_over_99, u_M_over_100, u_M_over_103, u_M_over_104, u_M_over_105, h1_156, gt_156_55, ne_eq, not_false_eq_true, not_true_eq_false, true_and, and_true, true_or, or_true, eq_self, Option.toList_some, Option.toList_none, List.cons_append, List.nil_append, tc_0, tc_I, tc_L, tc_A, Nat.reduceAdd, Nat.reduceLeDiff, Nat.reduceEqDiff, Int.reduceEq, Int.reduceLT, Int.reduceLE, Int.reduceNeg, Int.reduceToNat, Int.cast_ofNat_Int, if_true, if_false, and_self, or_self, ite_self, bI_0, bI_1, bI_01, Bool.false_eq_true, reduceCtorEq, z1, z2, show ¬ dzS (opS1 s) < 8 by omega, z3, hr5]
    rw [hst2, hd1]
    refine p_M_doStep hR hRC hS hq hfw' s hw hent2 hno g4 g5 hSt (fun g1 TH1 h1 h2 => ?_)
    obtain ⟨hFQ, _⟩ := St1_ok hRC hS s hw hSt hno
    have k56 : g1 156 56 = g 156 56 := h1 156 56 (by omega)
    have k57 : g1 156 57 = g 156 57 := h1 156 57 (by omega)
    have fin : ∀ pl : Int, pl = f' 151 7 → Q (some (tI code)) (WW F t (mset g1 156 56 pl)) := by
      intro pl hpl
      refine hQ _ TH1 (RnM_pl hM (fun b j hh => ?_) (fun b j hh => ?_) ?_) (RSt_fr2 h2 (fun b j hh1 hh2 => ?_) (fun b j hh => ?_)) (FG_tr (FG_Z h1) (FG_m (by omega)))
      · rw [hf1]
        split
        · rw [rd, if_neg (by omega)]; exact hFQ b j (by omega) (by omega) (by omega)
        · exact hFQ b j (by omega) (by omega) (by omega)
      · rw [rd, if_neg (by omega)]; exact h1 b j (by omega)
      · rw [rd, if_pos (by simp)]; exact hpl
      · rw [hf1]
        split
        · rw [rd, if_neg (by omega)]
        · rfl
      · rw [rd, if_neg (by omega)]
    by_cases hc0 : code = 0
    · rw [if_pos hc0] at hf1
      have h7 : f' 151 7 = (if fw = 1 then (q : Int) + 1 else q) := by rw [hf1, rd, if_pos (by simp)]
      subst hc0
      rcases hfw with ⟨rfl, h57⟩ | ⟨rfl, h57⟩
      · rw [if_pos rfl] at h7 hpl
        simp only [u_M_over_108, u_M_over_110, u_M_over_111, u_M_over_112, u_M_over_115, u_M_over_117, u_M_over_120, u_M_over_121, u_M_over_124, u_M_over_125, u_M_over_128, u_M_over_129, u_M_over_132, u_M_over_134, h1_156, gt_156_56, gt_156_57, pt_156_56, ne_eq, not_false_eq_true, not_true_eq_false, true_and, and_true, true_or, or_true, eq_self, Option.toList_some, Option.toList_none, List.cons_append, List.nil_append, tc_0, tc_I, tc_L, tc_A, Nat.reduceAdd, Nat.reduceLeDiff, Nat.reduceEqDiff, Int.reduceEq, Int.reduceLT, Int.reduceLE, Int.reduceNeg, Int.reduceToNat, Int.cast_ofNat_Int, if_true, if_false, and_self, or_self, ite_self, bI_0, bI_1, bI_01, Bool.false_eq_true, reduceCtorEq, k56, k57, hpl, h57, w4]
        exact fin _ h7.symm
      · rw [if_neg (by decide)] at h7 hpl
        have w5 : w32 ((q : Int) + 1 + -1) = q := ar_q1 hq
        simp only [u_M_over_108, u_M_over_110, u_M_over_111, u_M_over_112, u_M_over_115, u_M_over_117, u_M_over_120, u_M_over_121, u_M_over_124, u_M_over_125, u_M_over_128, u_M_over_129, u_M_over_132, u_M_over_134, h1_156, gt_156_56, gt_156_57, pt_156_56, ne_eq, not_false_eq_true, not_true_eq_false, true_and, and_true, true_or, or_true, eq_self, Option.toList_some, Option.toList_none, List.cons_append, List.nil_append, tc_0, tc_I, tc_L, tc_A, Nat.reduceAdd, Nat.reduceLeDiff, Nat.reduceEqDiff, Int.reduceEq, Int.reduceLT, Int.reduceLE, Int.reduceNeg, Int.reduceToNat, Int.cast_ofNat_Int, if_true, if_false, and_self, or_self, ite_self, bI_0, bI_1, bI_01, Bool.false_eq_true, reduceCtorEq, k56, k57, hpl, h57, w5]
        exact fin _ h7.symm
    · rw [if_neg hc0] at hf1
      have h7 : f' 151 7 = g 156 56 := by rw [hf1, hFQ 151 7 (by omega) (by omega) (by omega)]; exact hM.r7.symm
      have w5 : w32 (g 156 56 + 0) = g 156 56 := ar_q2 hq hpl
      simp only [u_M_over_108, u_M_over_110, u_M_over_111, u_M_over_112, u_M_over_115, u_M_over_117, u_M_over_120, u_M_over_121, u_M_over_124, u_M_over_125, u_M_over_128, u_M_over_129, u_M_over_132, u_M_over_134, h1_156, gt_156_56, gt_156_57, pt_156_56, ne_eq, not_false_eq_true, not_true_eq_false, true_and, and_true, true_or, or_true, eq_self, Option.toList_some, Option.toList_none, List.cons_append, List.nil_append, tc_0, tc_I, tc_L, tc_A, Nat.reduceAdd, Nat.reduceLeDiff, Nat.reduceEqDiff, Int.reduceEq, Int.reduceLT, Int.reduceLE, Int.reduceNeg, Int.reduceToNat, Int.cast_ofNat_Int, if_true, if_false, and_self, or_self, ite_self, bI_0, bI_1, bI_01, Bool.false_eq_true, reduceCtorEq, k56, hc0, w5]
      exact fin _ h7.symm
theorem ovd (op ro : Int) (hop : op = 208 ∨ op = 211) (hro : ro = 1 ∨ ro = 2 ∨ ro = 3) : ¬ dzC op ro = 6 ∧ ¬ dzC op ro = 7 ∧ ¬ dzC op ro < 8 ∧ dzC op ro < 20 := by
  rcases hop with rfl | rfl <;> rcases hro with rfl | rfl | rfl <;> decide
theorem p_M_overF {q : Nat} {e : En9} (hR : RT g r T len) (hr5 : g 156 55 = (r : Int)) (hent : RO g r q e) (hq : q < 40) (hn : n ≤ 40) (hfw : (fw = 1 ∧ g 156 57 = 1) ∨ (fw = 0 ∧ g 156 57 = -1)) (hc : c ≤ 11) (hS : RSt f g TH) (hM : RnM sg f g) (hG : GoF c n f T e q fw code f') (hQ : ∀ g' TH', RnM sg f' g' → RSt f' g' TH' → FG g g' → Q (some (tI code)) (WW F t g')) : VV L (d + 44) m_M_over 0 [some (tA 156), some (tI q), none, none, none, none, none, none, none, none, none] [] (WW F t g) Q := by
  have hr := hR.r10
  obtain ⟨w1, w2, w3, w4, n1, n2⟩ := ar_ov hr hq
  obtain ⟨x, x2, j, j2, hro, hop, hx, hx2, hs, hj, hs2, hj2, hb, hb1, hb2, hb3, ⟨v0, v1, v2, v3⟩, hp, hk⟩ := hG
  unfold RO at hent
  rw [if_neg (by omega)] at hent
  obtain ⟨e7, e9, e10x, e11, e12, e13⟩ := hent
  have e10 := e10x hop
  clear e10x
  generalize e.1.1 = op at *
  generalize e.1.2.1 = ro at *
  generalize e.2.1 = bh at *
  generalize e.2.2 = bq at *
  generalize e.1.2.2.2.2.1 = h at *
  generalize e.1.2.2.2.2.2.1 = m at *
  generalize e.1.2.2.2.2.2.2 = z at *
  obtain ⟨z1, z2, z3, z4⟩ := ovd op ro hop hro
  have hst : VV L (d + 44) m_M_over 0 [some (tA 156), some (tI q), none, none, none, none, none, none, none, none, none] [] (WW F t g) Q = VV L (d + 44) m_M_over 139 [some (tA 156), some (tI q), some (tI (40 * (r : Int) + q)), some (tI fw), some (tI (dzC op ro)), none, none, none, none, none, none] [] (WW F t (sn0 g)) Q := by
    rcases hfw with ⟨rfl, h57⟩ | ⟨rfl, h57⟩
    · simp only [u_M_over_0, u_M_over_2, u_M_over_3, u_M_over_6, u_M_over_7, u_M_over_8, u_M_over_9, u_M_over_10, u_M_over_11, u_M_over_14, u_M_over_15, u_M_over_18, u_M_over_19, u_M_over_22, u_M_over_23, u_M_over_24, u_M_over_25, u_M_over_28, u_M_over_29, u_M_over_30, u_M_over_32, u_M_over_34, u_M_over_36, u_M_over_39, u_M_over_41, u_M_over_43, u_M_over_84, u_M_over_86, u_M_over_88, u_M_over_91, u_M_over_93, u_M_over_95, u_M_over_135, u_M_over_136, h1_156, gt_156_28, gt_156_55, gt_156_57, h1_167, h2_167, gt_167, pt_167, ne_eq, not_false_eq_true, not_true_eq_false, true_and, and_true, true_or, or_true, eq_self, Option.toList_some, Option.toList_none, List.cons_append, List.nil_append, tc_0, tc_I, tc_L, tc_A, Nat.reduceAdd, Nat.reduceLeDiff, Nat.reduceEqDiff, Int.reduceEq, Int.reduceLT, Int.reduceLE, Int.reduceNeg, Int.reduceToNat, Int.cast_ofNat_Int, if_true, if_false, and_self, or_self, ite_self, bI_0, bI_1, bI_01, Bool.false_eq_true, reduceCtorEq, hr5, w1, w2, w3, n1, n2, h57, e7, z1, z2, z3, z4, s_M_seeNothing]
    · simp only [u_M_over_0, u_M_over_2, u_M_over_3, u_M_over_6, u_M_over_7, u_M_over_8, u_M_over_9, u_M_over_10, u_M_over_11, u_M_over_14, u_M_over_15, u_M_over_18, u_M_over_19, u_M_over_22, u_M_over_23, u_M_over_24, u_M_over_25, u_M_over_28, u_M_over_29, u_M_over_30, u_M_over_32, u_M_over_34, u_M_over_36, u_M_over_39, u_M_over_41, u_M_over_43, u_M_over_84, u_M_over_86, u_M_over_88, u_M_over_91, u_M_over_93, u_M_over_95, u_M_over_135, u_M_over_136, h1_156, gt_156_28, gt_156_55, gt_156_57, h1_167, h2_167, gt_167, pt_167, ne_eq, not_false_eq_true, not_true_eq_false, true_and, and_true, true_or, or_true, eq_self, Option.toList_some, Option.toList_none, List.cons_append, List.nil_append, tc_0, tc_I, tc_L, tc_A, Nat.reduceAdd, Nat.reduceLeDiff, Nat.reduceEqDiff, Int.reduceEq, Int.reduceLT, Int.reduceLE, Int.reduceNeg, Int.reduceToNat, Int.cast_ofNat_Int, if_true, if_false, and_self, or_self, ite_self, bI_0, bI_1, bI_01, Bool.false_eq_true, reduceCtorEq, hr5, w1, w2, w3, n1, n2, h57, e7, z1, z2, z3, z4, s_M_seeNothing]
  rw [hst]
  have q9 : sn0 g 169 (40 * r + q) = bh := by rw [FY_0 169 _ (by omega)]; exact e9
  have q10 : sn0 g 170 (40 * r + q) = bq := by rw [FY_0 170 _ (by omega)]; exact e10
  have q55 : sn0 g 156 55 = (r : Int) := by rw [FY_0 156 55 (by omega)]; exact hr5
  have hst2 : VV L (d + 44) m_M_over 139 [some (tA 156), some (tI q), some (tI (40 * (r : Int) + q)), some (tI fw), some (tI (dzC op ro)), none, none, none, none, none, none] [] (WW F t (sn0 g)) Q = VV L (d + 43) m_M_reckon 0 [some (tA 156), some (tI r), some (tI (if ov2 op ro fw = true then bq else bh))] [] (WW F t (sn0 g)) (fun r_1 w1 => VV L (d + 43 + 1) m_M_over 209 [some (tA 156), some (tI q), some (tI (40 * (r : Int) + q)), some (tI fw), some (tI (dzC op ro)), some (tI (if ov2 op ro fw = true then 0 else 1)), none, none, none, none, none] (r_1.toList ++ []) w1 Q) := by
    have k1 : ov2 op ro fw = true ∨ ov2 op ro fw = false := by cases ov2 op ro fw <;> simp
    clear hk hp hst hQ hM hS
    rcases hfw with ⟨rfl, h57⟩ | ⟨rfl, h57⟩ <;> rcases hop with rfl | rfl <;> rcases hro with rfl | rfl | rfl <;>
      simp only [ov2, dzC, Int.reduceEq, Int.reduceSub, if_true, if_false, decide_true, decide_false, not_true_eq_false, not_false_eq_true, Bool.false_eq_true, u_M_over_139, u_M_over_141, u_M_over_143, u_M_over_146, u_M_over_148, u_M_over_150, u_M_over_153, u_M_over_154, u_M_over_157, u_M_over_159, u_M_over_161, u_M_over_164, u_M_over_167, u_M_over_169, u_M_over_171, u_M_over_174, u_M_over_175, u_M_over_178, u_M_over_179, u_M_over_181, u_M_over_182, u_M_over_183, u_M_over_186, u_M_over_188, u_M_over_191, u_M_over_192, u_M_over_195, u_M_over_196, u_M_over_197, u_M_over_200, u_M_over_201, u_M_over_204, u_M_over_205, u_M_over_206, h1_156, gt_156_30, gt_156_31, gt_156_55, h1_169, h2_169, gt_169, pt_169, h1_170, h2_170, gt_170, pt_170, ne_eq, not_false_eq_true, not_true_eq_false, true_and, and_true, true_or, or_true, eq_self, Option.toList_some, Option.toList_none, List.cons_append, List.nil_append, tc_0, tc_I, tc_L, tc_A, Nat.reduceAdd, Nat.reduceLeDiff, Nat.reduceEqDiff, Int.reduceEq, Int.reduceLT, Int.reduceLE, Int.reduceNeg, Int.reduceToNat, Int.cast_ofNat_Int, if_true, if_false, and_self, or_self, ite_self, bI_0, bI_1, bI_01, Bool.false_eq_true, reduceCtorEq, q55, q9, q10, w3, n1, n2]
  rw [hst2]
  obtain ⟨d1, hd1⟩ : ∃ d1, d + 43 = d1 + 3 ∧ 3 * c + 3 ≤ d1 := ⟨d + 40, by omega, by omega⟩
  rw [hd1.1]
  have hke : ∀ y : Int, 200 ≤ y → ¬ kEnd y = true := fun y hy => by unfold kEnd; simp only [decide_eq_true_eq]; omega
  have main : ∀ (E : EE c) (i jj : Int), wX E → 1 ≤ i → 200 ≤ T (i - 1) → seg T i jj (kX E) → (T jj = 123 ∨ T jj = 59) → FkC f E (ovY op ro fw h m z) (ovN op ro fw h m z) code f' → VV L (d1 + 3) m_M_reckon 0 [some (tA 156), some (tI r), some (tI i)] [] (WW F t (sn0 g)) (fun r_1 w1 => VV L (d1 + 3 + 1) m_M_over 209 [some (tA 156), some (tI q), some (tI (40 * (r : Int) + q)), some (tI fw), some (tI (dzC op ro)), some (tI (if ov2 op ro fw = true then 0 else 1)), none, none, none, none, none] (r_1.toList ++ []) w1 Q) := by
    intro E i jj hE hi hT hs hj hk
    refine p_M_reckon hd1.2 E hE (RT_s0 hR) (EnM_0 hS) WM_0 (by omega) (hke _ hT) hs (by rcases hj with hj | hj <;> rw [hj] <;> decide) (by rcases hj with hj | hj <;> rw [hj] <;> decide) ?_
    unfold FkC at hk
    generalize (if ov2 op ro fw = true then (0 : Int) else 1) = o5
    cases hv : vE (vF (envC f brN) c) E with
    | error w =>
      rw [hv] at hk
      intro g1 u a1 a2 a3
      simp only [u_M_over_209, u_M_over_211, u_M_over_212, u_M_over_215, u_M_over_218, u_M_over_219, u_M_over_222, h1_156, gt_156_46, ne_eq, not_false_eq_true, not_true_eq_false, true_and, and_true, true_or, or_true, eq_self, Option.toList_some, Option.toList_none, List.cons_append, List.nil_append, tc_0, tc_I, tc_L, tc_A, Nat.reduceAdd, Nat.reduceLeDiff, Nat.reduceEqDiff, Int.reduceEq, Int.reduceLT, Int.reduceLE, Int.reduceNeg, Int.reduceToNat, Int.cast_ofNat_Int, if_true, if_false, and_self, or_self, ite_self, bI_0, bI_1, bI_01, Bool.false_eq_true, reduceCtorEq, a2, a3]
      have hy := FY_tr FY_0 (FY_5 a1)
      rw [← hk.1]
      refine hQ _ TH (RnM_pl hM (fun b j hh => hk.2.2 b j (by omega)) (fun b j hh => hy b j (by omega)) ?_) (RSt_fr hS hk.2.2 hy) (FG_Z (FZ_Y hy))
      rw [hy 156 56 (by omega), hk.2.2 151 7 (by omega)]; exact hM.r7
    | ok y =>
      obtain ⟨v, lq⟩ := y
      rw [hv] at hk
      dsimp only at hk
      intro g1 a1 a2 _
      have hy := FY_tr FY_0 (FY_5 a1)
      have y11 : g1 171 (40 * r + q) = h := by rw [hy 171 _ (by omega)]; exact e11
      have y12 : g1 172 (40 * r + q) = m := by rw [hy 172 _ (by omega)]; exact e12
      have y13 : g1 173 (40 * r + q) = z := by rw [hy 173 _ (by omega)]; exact e13
      have y56 : g1 156 56 = g 156 56 := hy 156 56 (by omega)
      have fin : ∀ (o8 ft to tg : Int), tg = (if v = 0 then ovN op ro fw h m z else ovY op ro fw h m z) → (ft = 0 ∧ tg = -1) ∨ (ft = 1 ∧ to = tg ∧ ¬ tg = -1) → VV L (d1 + 3 + 1) m_M_over 547 [some (tA 156), some (tI q), some (tI (40 * (r : Int) + q)), some (tI fw), some (tI (dzC op ro)), some (tI o5), some (tL v), none, some (tI o8), some (tI ft), some (tI to)] [] (WW F t g1) Q := by
        intro o8 ft to tg htg hh
        rw [← htg] at hk
        rcases hh with ⟨rfl, h1⟩ | ⟨rfl, h1, h2⟩
        · rw [if_pos h1] at hk
          simp only [u_M_over_547, u_M_over_548, u_M_over_550, u_M_over_553, u_M_over_555, u_M_over_558, u_M_over_559, u_M_over_562, u_M_over_565, u_M_over_567, u_M_over_570, u_M_over_571, u_M_over_574, u_M_over_576, h1_156, gt_156_56, pt_156_56, ne_eq, not_false_eq_true, not_true_eq_false, true_and, and_true, true_or, or_true, eq_self, Option.toList_some, Option.toList_none, List.cons_append, List.nil_append, tc_0, tc_I, tc_L, tc_A, Nat.reduceAdd, Nat.reduceLeDiff, Nat.reduceEqDiff, Int.reduceEq, Int.reduceLT, Int.reduceLE, Int.reduceNeg, Int.reduceToNat, Int.cast_ofNat_Int, if_true, if_false, and_self, or_self, ite_self, bI_0, bI_1, bI_01, Bool.false_eq_true, reduceCtorEq, y56]
          rw [← hk.1]
          refine hQ _ TH (RnM_pl hM (fun b j hh => hk.2 b j (by omega)) (fun b j hh => ?_) ?_) (RSt_fr2 hS (fun b j _ _ => hk.2 b j (by omega)) (fun b j hh => ?_)) (FG_tr (FG_Z (FZ_Y hy)) (FG_m (by omega)))
          · rw [rd, if_neg (by omega)]; exact hy b j (by omega)
          · rw [rd, if_pos (by simp), hk.2 151 7 (by omega)]; exact hM.r7
          · rw [rd, if_neg (by omega)]; exact hy b j (by omega)
        · rw [if_neg h2] at hk
          simp only [u_M_over_547, u_M_over_548, u_M_over_550, u_M_over_553, u_M_over_555, u_M_over_558, u_M_over_559, u_M_over_562, u_M_over_565, u_M_over_567, u_M_over_570, u_M_over_571, u_M_over_574, u_M_over_576, h1_156, gt_156_56, pt_156_56, ne_eq, not_false_eq_true, not_true_eq_false, true_and, and_true, true_or, or_true, eq_self, Option.toList_some, Option.toList_none, List.cons_append, List.nil_append, tc_0, tc_I, tc_L, tc_A, Nat.reduceAdd, Nat.reduceLeDiff, Nat.reduceEqDiff, Int.reduceEq, Int.reduceLT, Int.reduceLE, Int.reduceNeg, Int.reduceToNat, Int.cast_ofNat_Int, if_true, if_false, and_self, or_self, ite_self, bI_0, bI_1, bI_01, Bool.false_eq_true, reduceCtorEq, h1]
          rw [← hk.1]
          refine hQ _ TH (RnM_pl hM (fun b j hh => ?_) (fun b j hh => ?_) ?_) (RSt_fr2 hS (fun b j _ _ => ?_) (fun b j hh => ?_)) (FG_tr (FG_Z (FZ_Y hy)) (FG_m (by omega)))
          · rw [hk.2 b j (by omega), rd, if_neg (by omega)]
          · rw [rd, if_neg (by omega)]; exact hy b j (by omega)
          · rw [rd, if_pos (by simp), hk.2 151 7 (by omega), rd, if_pos (by simp)]
          · rw [hk.2 b j (by omega), rd, if_neg (by omega)]
          · rw [rd, if_neg (by omega)]; exact hy b j (by omega)
      have wh : w32 (h + 1) = h + 1 := w32_id (by omega) (by omega)
      have wm : w32 (m + 1) = m + 1 := w32_id (by omega) (by omega)
      have wz : w32 (z + 1) = z + 1 := w32_id (by omega) (by omega)
      clear hk hst hst2 hQ hM hS hy hs hR a1
      have h57 : fw = 0 ∨ fw = 1 := by omega
      clear hfw
      by_cases hz : v = 0
      · rcases h57 with rfl | rfl <;> rcases hop with rfl | rfl <;> rcases hro with rfl | rfl | rfl <;>
          simp only [dzC, Int.reduceEq, Int.reduceSub, if_true, if_false] at fin hp ⊢ <;>
          simp only [u_M_over_209, u_M_over_211, u_M_over_212, u_M_over_215, u_M_over_218, u_M_over_219, u_M_over_222, u_M_over_223, u_M_over_225, u_M_over_226, u_M_over_227, u_M_over_230, u_M_over_231, u_M_over_234, u_M_over_235, u_M_over_237, u_M_over_238, u_M_over_240, u_M_over_241, u_M_over_243, u_M_over_245, u_M_over_284, u_M_over_285, u_M_over_288, u_M_over_289, u_M_over_292, u_M_over_294, u_M_over_297, u_M_over_298, u_M_over_299, u_M_over_300, u_M_over_303, u_M_over_304, u_M_over_307, u_M_over_308, u_M_over_309, u_M_over_310, u_M_over_311, u_M_over_313, u_M_over_314, u_M_over_317, u_M_over_319, u_M_over_322, u_M_over_323, u_M_over_326, u_M_over_327, u_M_over_329, u_M_over_332, u_M_over_333, u_M_over_336, u_M_over_337, u_M_over_340, u_M_over_341, u_M_over_342, u_M_over_343, u_M_over_344, u_M_over_347, u_M_over_348, u_M_over_351, u_M_over_352, u_M_over_353, u_M_over_355, u_M_over_356, u_M_over_358, u_M_over_361, u_M_over_362, u_M_over_365, u_M_over_366, u_M_over_368, u_M_over_371, u_M_over_372, u_M_over_375, u_M_over_376, u_M_over_377, u_M_over_378, u_M_over_381, u_M_over_383, u_M_over_386, u_M_over_387, u_M_over_390, u_M_over_391, u_M_over_392, u_M_over_395, u_M_over_396, u_M_over_398, u_M_over_399, u_M_over_402, u_M_over_404, u_M_over_407, u_M_over_408, u_M_over_411, u_M_over_412, u_M_over_414, u_M_over_417, u_M_over_418, u_M_over_421, u_M_over_422, u_M_over_423, u_M_over_424, u_M_over_427, u_M_over_429, u_M_over_432, u_M_over_433, u_M_over_436, u_M_over_437, u_M_over_440, u_M_over_441, u_M_over_442, u_M_over_444, u_M_over_445, u_M_over_448, u_M_over_450, u_M_over_453, u_M_over_454, u_M_over_457, u_M_over_458, u_M_over_460, u_M_over_463, u_M_over_464, u_M_over_467, u_M_over_468, u_M_over_471, u_M_over_473, u_M_over_476, u_M_over_477, u_M_over_480, u_M_over_481, u_M_over_482, u_M_over_483, u_M_over_484, u_M_over_487, u_M_over_488, u_M_over_489, u_M_over_490, u_M_over_492, u_M_over_493, u_M_over_496, u_M_over_498, u_M_over_501, u_M_over_502, u_M_over_505, u_M_over_506, u_M_over_508, u_M_over_511, u_M_over_512, u_M_over_515, u_M_over_516, u_M_over_519, u_M_over_520, u_M_over_521, u_M_over_522, u_M_over_523, u_M_over_526, u_M_over_527, u_M_over_530, u_M_over_531, u_M_over_532, u_M_over_534, u_M_over_535, u_M_over_537, u_M_over_540, u_M_over_541, u_M_over_544, u_M_over_545, h1_156, gt_156_32, gt_156_33, gt_156_34, gt_156_46, h1_171, h2_171, gt_171, pt_171, h1_172, h2_172, gt_172, pt_172, h1_173, h2_173, gt_173, pt_173, ne_eq, not_false_eq_true, not_true_eq_false, true_and, and_true, true_or, or_true, eq_self, Option.toList_some, Option.toList_none, List.cons_append, List.nil_append, tc_0, tc_I, tc_L, tc_A, Nat.reduceAdd, Nat.reduceLeDiff, Nat.reduceEqDiff, Int.reduceEq, Int.reduceLT, Int.reduceLE, Int.reduceNeg, Int.reduceToNat, Int.cast_ofNat_Int, if_true, if_false, and_self, or_self, ite_self, bI_0, bI_1, bI_01, Bool.false_eq_true, reduceCtorEq, a2, lc_eq, hz, w3, n1, n2, y11, y12, y13, w4, wh, wm, wz] <;>
          (rw [hz] at fin; exact fin _ _ _ _ rfl (by clear fin; simp [ovN]; try omega))
      · rcases h57 with rfl | rfl <;> rcases hop with rfl | rfl <;> rcases hro with rfl | rfl | rfl <;>
          simp only [dzC, Int.reduceEq, Int.reduceSub, if_true, if_false] at fin hp ⊢ <;>
          simp only [u_M_over_209, u_M_over_211, u_M_over_212, u_M_over_215, u_M_over_218, u_M_over_219, u_M_over_222, u_M_over_223, u_M_over_225, u_M_over_226, u_M_over_227, u_M_over_230, u_M_over_231, u_M_over_234, u_M_over_235, u_M_over_237, u_M_over_238, u_M_over_240, u_M_over_241, u_M_over_243, u_M_over_245, u_M_over_284, u_M_over_285, u_M_over_288, u_M_over_289, u_M_over_292, u_M_over_294, u_M_over_297, u_M_over_298, u_M_over_299, u_M_over_300, u_M_over_303, u_M_over_304, u_M_over_307, u_M_over_308, u_M_over_309, u_M_over_310, u_M_over_311, u_M_over_313, u_M_over_314, u_M_over_317, u_M_over_319, u_M_over_322, u_M_over_323, u_M_over_326, u_M_over_327, u_M_over_329, u_M_over_332, u_M_over_333, u_M_over_336, u_M_over_337, u_M_over_340, u_M_over_341, u_M_over_342, u_M_over_343, u_M_over_344, u_M_over_347, u_M_over_348, u_M_over_351, u_M_over_352, u_M_over_353, u_M_over_355, u_M_over_356, u_M_over_358, u_M_over_361, u_M_over_362, u_M_over_365, u_M_over_366, u_M_over_368, u_M_over_371, u_M_over_372, u_M_over_375, u_M_over_376, u_M_over_377, u_M_over_378, u_M_over_381, u_M_over_383, u_M_over_386, u_M_over_387, u_M_over_390, u_M_over_391, u_M_over_392, u_M_over_395, u_M_over_396, u_M_over_398, u_M_over_399, u_M_over_402, u_M_over_404, u_M_over_407, u_M_over_408, u_M_over_411, u_M_over_412, u_M_over_414, u_M_over_417, u_M_over_418, u_M_over_421, u_M_over_422, u_M_over_423, u_M_over_424, u_M_over_427, u_M_over_429, u_M_over_432, u_M_over_433, u_M_over_436, u_M_over_437, u_M_over_440, u_M_over_441, u_M_over_442, u_M_over_444, u_M_over_445, u_M_over_448, u_M_over_450, u_M_over_453, u_M_over_454, u_M_over_457, u_M_over_458, u_M_over_460, u_M_over_463, u_M_over_464, u_M_over_467, u_M_over_468, u_M_over_471, u_M_over_473, u_M_over_476, u_M_over_477, u_M_over_480, u_M_over_481, u_M_over_482, u_M_over_483, u_M_over_484, u_M_over_487, u_M_over_488, u_M_over_489, u_M_over_490, u_M_over_492, u_M_over_493, u_M_over_496, u_M_over_498, u_M_over_501, u_M_over_502, u_M_over_505, u_M_over_506, u_M_over_508, u_M_over_511, u_M_over_512, u_M_over_515, u_M_over_516, u_M_over_519, u_M_over_520, u_M_over_521, u_M_over_522, u_M_over_523, u_M_over_526, u_M_over_527, u_M_over_530, u_M_over_531, u_M_over_532, u_M_over_534, u_M_over_535, u_M_over_537, u_M_over_540, u_M_over_541, u_M_over_544, u_M_over_545, h1_156, gt_156_32, gt_156_33, gt_156_34, gt_156_46, h1_171, h2_171, gt_171, pt_171, h1_172, h2_172, gt_172, pt_172, h1_173, h2_173, gt_173, pt_173, ne_eq, not_false_eq_true, not_true_eq_false, true_and, and_true, true_or, or_true, eq_self, Option.toList_some, Option.toList_none, List.cons_append, List.nil_append, tc_0, tc_I, tc_L, tc_A, Nat.reduceAdd, Nat.reduceLeDiff, Nat.reduceEqDiff, Int.reduceEq, Int.reduceLT, Int.reduceLE, Int.reduceNeg, Int.reduceToNat, Int.cast_ofNat_Int, if_true, if_false, and_self, or_self, ite_self, bI_0, bI_1, bI_01, Bool.false_eq_true, reduceCtorEq, a2, lc_eq, hz, w3, n1, n2, y11, y12, y13, w4, wh, wm, wz] <;>
          exact fin _ _ _ _ rfl (by clear fin; simp [ovY, hz]; try omega)
  by_cases ho : ov2 op ro fw = true
  · simp only [if_pos ho] at hk ⊢
    have := main x2 bq j2 hx2 hb2 hb3 hs2 (Or.inr hj2) hk
    simp only [if_pos ho] at this
    exact this
  · simp only [if_neg ho] at hk ⊢
    have := main x bh j hx hb1 (by rw [hb]; omega) hs (Or.inl hj) hk
    simp only [if_neg ho] at this
    exact this
end
