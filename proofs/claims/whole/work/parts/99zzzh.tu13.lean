/-! turn, the reference: a set is TURNED -/
section
variable {L d r len : Nat} {f t g : Mem} {T : Int → Int} {Q : Option TV → Wd → Prop} {i j n : Int} {P : List (Int × Int)} {k : List Int}
theorem RT.ix1 {q : Int} (h : RT g r T len) (h0 : 0 ≤ q) (h1 : q + 1 < len) : w32 (1600 * (r : Int)) = 1600 * r ∧ w32 (1600 * (r : Int) + q) = 1600 * r + q ∧ w32 (1600 * (r : Int) + q + 1) = 1600 * r + q + 1 ∧ 0 ≤ 1600 * (r : Int) + q + 1 ∧ 1600 * (r : Int) + q + 1 < 16000 ∧ g 164 (1600 * (r : Int) + q + 1).toNat = eS T (q + 1) ∧ g 165 (1600 * (r : Int) + q + 1).toNat = whc (T (q + 1)) := by
  obtain ⟨x1, x2, x3, x4, x5, x6⟩ := h.ix (show 0 ≤ q + 1 by omega) h1
  obtain ⟨_, y2, _, _, _, _⟩ := h.ix h0 (show q < len by omega)
  have e : 1600 * (r : Int) + q + 1 = 1600 * r + (q + 1) := by omega
  rw [e]
  exact ⟨x1, y2, x2, x3, x4, x5, x6⟩
theorem ar_sm {i j len : Int} {kl : Nat} (h0 : 0 ≤ i) (hj : j = i + 3 + kl) (h1 : 1 ≤ kl) (hl : j < len) (hl1 : len ≤ 1000) : w32 (i + 3) = i + 3 ∧ w32 (i + 3 + 2) = i + 3 + 2 ∧ w32 (j + 1) = j + 1 ∧ i + 1 < len ∧ i + 3 < len ∧ i + 3 + 1 < len ∧ 0 ≤ i + 3 ∧ j ≤ len ∧ j + 1 ≤ len ∧ 0 ≤ i + 3 + 2 := by
  refine ⟨w32_id (by omega) (by omega), w32_id (by omega) (by omega), w32_id (by omega) (by omega), ?_, ?_, ?_, ?_, ?_, ?_, ?_⟩ <;> omega
theorem SMr.hd2 (h : SMr g r len T i j n k) (hp : plQ n k = true) : ∃ s m, k = n :: s :: m ∧ T (i + 3 + 1) = s ∧ seg T (i + 3 + 2) j m ∧ kSum s = true ∧ ¬ s = 124 := by
  have hs := h.hs
  match k, hs, hp with
  | [], _, hp => exact absurd (show false = true from hp) (by decide)
  | [a], _, hp => exact absurd (show false = true from hp) (by decide)
  | a :: s :: m, hs, hp =>
    have ep : plQ n (a :: s :: m) = (decide (a = n ∧ kSum s = true ∧ ¬ s = 124 ∧ ¬ n ∈ m) && one1 s 0 m) := rfl
    rw [ep, Bool.and_eq_true, decide_eq_true_eq] at hp
    obtain ⟨⟨h1, h2, h3, _⟩, _⟩ := hp
    obtain ⟨_, q1⟩ := seg_hd hs
    obtain ⟨q2, q3⟩ := seg_hd q1
    subst h1
    exact ⟨s, m, rfl, q2, by rw [show i + 3 + 2 = i + 3 + 1 + 1 by omega]; exact q3, h2, h3⟩
theorem SMr.dr (h : SMr g r len T i j n k) (h2 : 2 ≤ k.length) : seg T (i + 3 + 2) j (k.drop 2) := by
  have hs := h.hs
  rw [← List.take_append_drop 2 k] at hs
  obtain ⟨_, hs2⟩ := seg_split hs
  rw [List.length_take, Nat.min_eq_left h2] at hs2
  exact hs2
theorem SMr.em (h : SMr g r len T i j n k) : SMr (emM g P) r len T i j n k := ⟨RT_em h.rt, h.h0, h.hn, h.h2, h.hs, h.hj, h.hjl, h.hk, h.kn, h.k1, h.gk, h.ok⟩
/-- the five questions, in their order -/
theorem pl5 (h : SMr g r len T i j n k) : (plQ n k = true ∧ T (i + 3) = n ∧ cntS (T (i + 2)) 0 k = 1 ∧ (decide (eS T (i + 3 + 1) = 7) && kSum (whc (T (i + 3 + 1)))) = true ∧ ¬ whc (T (i + 3 + 1)) = 124 ∧ 2 ≤ k.length ∧ ¬ n ∈ k.drop 2) ∨ (plQ n k = false ∧ ((¬ T (i + 3) = n) ∨ (T (i + 3) = n ∧ ¬ cntS (T (i + 2)) 0 k = 1) ∨ (T (i + 3) = n ∧ cntS (T (i + 2)) 0 k = 1 ∧ (decide (eS T (i + 3 + 1) = 7) && kSum (whc (T (i + 3 + 1)))) = false) ∨ (T (i + 3) = n ∧ cntS (T (i + 2)) 0 k = 1 ∧ (decide (eS T (i + 3 + 1) = 7) && kSum (whc (T (i + 3 + 1)))) = true ∧ whc (T (i + 3 + 1)) = 124) ∨ (T (i + 3) = n ∧ cntS (T (i + 2)) 0 k = 1 ∧ (decide (eS T (i + 3 + 1) = 7) && kSum (whc (T (i + 3 + 1)))) = true ∧ ¬ whc (T (i + 3 + 1)) = 124 ∧ 2 ≤ k.length ∧ n ∈ k.drop 2))) := by
  have hM := plQ_M (T := T) (n := n) h.hs h.hj h.kn ((h.gk _).1) h.k1
  rw [show i + 3 - 1 = i + 2 by omega] at hM
  have hlen2 : (decide (eS T (i + 3 + 1) = 7) && kSum (whc (T (i + 3 + 1)))) = true → 2 ≤ k.length := by
    intro hh
    by_cases hc : 2 ≤ k.length
    · exact hc
    · exfalso
      have k1 := h.k1
      have e := seg_len h.hs
      have e59 : T (i + 3 + 1) = 59 := by rw [show i + 3 + 1 = j by omega]; exact h.hj
      rw [e59, Bool.and_eq_true] at hh
      exact absurd hh.2 (by decide)
  cases hp : plQ n k with
  | true =>
    obtain ⟨a1, a2, a3, a4, a5⟩ := hM.mp hp
    exact Or.inl ⟨rfl, a1, a2, a3, a4, hlen2 a3, a5⟩
  | false =>
    right
    refine ⟨rfl, ?_⟩
    by_cases c1 : T (i + 3) = n
    · by_cases c2 : cntS (T (i + 2)) 0 k = 1
      · cases c3 : (decide (eS T (i + 3 + 1) = 7) && kSum (whc (T (i + 3 + 1)))) with
        | false => exact Or.inr (Or.inr (Or.inl ⟨c1, c2, rfl⟩))
        | true =>
          by_cases c4 : whc (T (i + 3 + 1)) = 124
          · exact Or.inr (Or.inr (Or.inr (Or.inl ⟨c1, c2, rfl, c4⟩)))
          · by_cases c5 : n ∈ k.drop 2
            · exact Or.inr (Or.inr (Or.inr (Or.inr ⟨c1, c2, rfl, c4, hlen2 c3, c5⟩)))
            · have := hM.mpr ⟨c1, c2, c3, c4, c5⟩
              rw [hp] at this
              exact absurd this (by decide)
      · exact Or.inr (Or.inl ⟨c1, c2⟩)
    · exact Or.inl c1
theorem l_M_pl (h : SMr g r len T i j n k) {u7 : Option TV} : VV L (d + 4) m_M_turnSet 38 [some (tA 156), some (tI r), some (tI i), some (tI j), some (tI (n - 97)), some (tI (i + 3)), some (tI (whc (T (i + 3 + 1)))), u7] [] (WW f t g) Q = VV L (d + 4) m_M_turnSet 115 [some (tA 156), some (tI r), some (tI i), some (tI j), some (tI (n - 97)), some (tI (i + 3)), some (tI (whc (T (i + 3 + 1)))), some (tI (bB (plQ n k)))] [] (WW f t g) Q := by
  have hrt := h.rt
  have e := seg_len h.hs
  obtain ⟨w1, w2, w3, l1, l2, l3, l4, l5, l6, l7⟩ := ar_sm h.h0 e h.k1 h.hjl (by have := hrt.l1; omega)
  have hoki : okT (T (i + 3)) := by
    have hs := h.hs
    have hk := h.ok
    have k1 := h.k1
    match k, hs, hk, k1 with
    | v :: m, hs, hk, _ => rw [(seg_hd hs).1]; exact hk v List.mem_cons_self
  have I1 := fun D Q => s_M_isNm (L := L) (d := D) (f := f) (t := t) (Q := Q) hrt l4 l2 hoki h.kn
  have S1 := fun D Q => s_M_sums (L := L) (d := D) (f := f) (t := t) (Q := Q) hrt l5 l4 h.hs
  rw [show i + 3 - 1 = i + 2 by omega] at S1
  obtain ⟨x1, x2, x3, x4, x5, x6, x7⟩ := hrt.ix1 l4 l3
  rcases pl5 h with ⟨p0, p1, p2, p3, p4, p5, p6⟩ | ⟨p0, hc⟩
  · have N1 := fun D Q => s_M_standsIn (L := L) (d := D) (f := f) (t := t) (Q := Q) hrt h.kn l5 l7 (h.dr p5) (fun v hv => h.ok v (List.mem_of_mem_drop hv))
    have p2' : ((cntS (T (i + 2)) 0 k : Nat) : Int) = 1 := by rw [p2]; rfl
    rw [p0]
    simp only [u_M_turnSet_38, u_M_turnSet_39, u_M_turnSet_40, u_M_turnSet_42, u_M_turnSet_43, u_M_turnSet_45, u_M_turnSet_48, u_M_turnSet_51, u_M_turnSet_52, u_M_turnSet_53, u_M_turnSet_55, u_M_turnSet_56, u_M_turnSet_59, u_M_turnSet_60, u_M_turnSet_63, u_M_turnSet_64, u_M_turnSet_67, u_M_turnSet_70, u_M_turnSet_71, u_M_turnSet_72, u_M_turnSet_74, u_M_turnSet_75, u_M_turnSet_76, u_M_turnSet_77, u_M_turnSet_78, u_M_turnSet_80, u_M_turnSet_83, u_M_turnSet_86, u_M_turnSet_88, u_M_turnSet_90, u_M_turnSet_93, u_M_turnSet_94, u_M_turnSet_95, u_M_turnSet_97, u_M_turnSet_98, u_M_turnSet_99, u_M_turnSet_100, u_M_turnSet_102, u_M_turnSet_105, u_M_turnSet_108, u_M_turnSet_109, u_M_turnSet_112, u_M_turnSet_113, h1_156, gt_156_25, h1_164, h2_164, gt_164, pt_164, ne_eq, not_false_eq_true, not_true_eq_false, true_and, and_true, true_or, or_true, eq_self, Option.toList_some, Option.toList_none, List.cons_append, List.nil_append, tc_0, tc_I, tc_L, tc_A, Nat.reduceAdd, Nat.reduceLeDiff, Nat.reduceEqDiff, Int.reduceEq, Int.reduceLT, Int.reduceLE, Int.reduceNeg, Int.reduceToNat, Int.cast_ofNat_Int, if_true, if_false, and_self, or_self, ite_self, bI_0, bI_1, bI_01, Bool.false_eq_true, reduceCtorEq, I1, p1, decide_true, bB_t, S1, p2', x1, x2, x3, x4, x5, x6, s_M_isSum, p3, p4, w2, N1, p6, decide_false, bB_f]
  · rw [p0]
    rcases hc with p1 | ⟨p1, p2⟩ | ⟨p1, p2, p3⟩ | ⟨p1, p2, p3, p4⟩ | ⟨p1, p2, p3, p4, p5, p6⟩
    · simp only [u_M_turnSet_38, u_M_turnSet_39, u_M_turnSet_40, u_M_turnSet_42, u_M_turnSet_43, u_M_turnSet_45, u_M_turnSet_48, u_M_turnSet_112, u_M_turnSet_113, h1_156, ne_eq, not_false_eq_true, not_true_eq_false, true_and, and_true, true_or, or_true, eq_self, Option.toList_some, Option.toList_none, List.cons_append, List.nil_append, tc_0, tc_I, tc_L, tc_A, Nat.reduceAdd, Nat.reduceLeDiff, Nat.reduceEqDiff, Int.reduceEq, Int.reduceLT, Int.reduceLE, Int.reduceNeg, Int.reduceToNat, Int.cast_ofNat_Int, if_true, if_false, and_self, or_self, ite_self, bI_0, bI_1, bI_01, Bool.false_eq_true, reduceCtorEq, I1, p1, decide_false, bB_f]
    · have p2' : ¬ ((cntS (T (i + 2)) 0 k : Nat) : Int) = 1 := by omega
      simp only [u_M_turnSet_38, u_M_turnSet_39, u_M_turnSet_40, u_M_turnSet_42, u_M_turnSet_43, u_M_turnSet_45, u_M_turnSet_48, u_M_turnSet_51, u_M_turnSet_52, u_M_turnSet_53, u_M_turnSet_55, u_M_turnSet_56, u_M_turnSet_59, u_M_turnSet_60, u_M_turnSet_112, u_M_turnSet_113, h1_156, ne_eq, not_false_eq_true, not_true_eq_false, true_and, and_true, true_or, or_true, eq_self, Option.toList_some, Option.toList_none, List.cons_append, List.nil_append, tc_0, tc_I, tc_L, tc_A, Nat.reduceAdd, Nat.reduceLeDiff, Nat.reduceEqDiff, Int.reduceEq, Int.reduceLT, Int.reduceLE, Int.reduceNeg, Int.reduceToNat, Int.cast_ofNat_Int, if_true, if_false, and_self, or_self, ite_self, bI_0, bI_1, bI_01, Bool.false_eq_true, reduceCtorEq, I1, p1, decide_true, bB_t, S1, p2', bB_f]
    · have p2' : ((cntS (T (i + 2)) 0 k : Nat) : Int) = 1 := by rw [p2]; rfl
      simp only [u_M_turnSet_38, u_M_turnSet_39, u_M_turnSet_40, u_M_turnSet_42, u_M_turnSet_43, u_M_turnSet_45, u_M_turnSet_48, u_M_turnSet_51, u_M_turnSet_52, u_M_turnSet_53, u_M_turnSet_55, u_M_turnSet_56, u_M_turnSet_59, u_M_turnSet_60, u_M_turnSet_63, u_M_turnSet_64, u_M_turnSet_67, u_M_turnSet_70, u_M_turnSet_71, u_M_turnSet_72, u_M_turnSet_74, u_M_turnSet_75, u_M_turnSet_76, u_M_turnSet_77, u_M_turnSet_78, u_M_turnSet_80, u_M_turnSet_83, u_M_turnSet_112, u_M_turnSet_113, h1_156, gt_156_25, h1_164, h2_164, gt_164, pt_164, ne_eq, not_false_eq_true, not_true_eq_false, true_and, and_true, true_or, or_true, eq_self, Option.toList_some, Option.toList_none, List.cons_append, List.nil_append, tc_0, tc_I, tc_L, tc_A, Nat.reduceAdd, Nat.reduceLeDiff, Nat.reduceEqDiff, Int.reduceEq, Int.reduceLT, Int.reduceLE, Int.reduceNeg, Int.reduceToNat, Int.cast_ofNat_Int, if_true, if_false, and_self, or_self, ite_self, bI_0, bI_1, bI_01, Bool.false_eq_true, reduceCtorEq, I1, p1, decide_true, bB_t, S1, p2', x1, x2, x3, x4, x5, x6, s_M_isSum, p3, bB_f]
    · have p2' : ((cntS (T (i + 2)) 0 k : Nat) : Int) = 1 := by rw [p2]; rfl
      simp only [u_M_turnSet_38, u_M_turnSet_39, u_M_turnSet_40, u_M_turnSet_42, u_M_turnSet_43, u_M_turnSet_45, u_M_turnSet_48, u_M_turnSet_51, u_M_turnSet_52, u_M_turnSet_53, u_M_turnSet_55, u_M_turnSet_56, u_M_turnSet_59, u_M_turnSet_60, u_M_turnSet_63, u_M_turnSet_64, u_M_turnSet_67, u_M_turnSet_70, u_M_turnSet_71, u_M_turnSet_72, u_M_turnSet_74, u_M_turnSet_75, u_M_turnSet_76, u_M_turnSet_77, u_M_turnSet_78, u_M_turnSet_80, u_M_turnSet_83, u_M_turnSet_86, u_M_turnSet_88, u_M_turnSet_90, u_M_turnSet_112, u_M_turnSet_113, h1_156, gt_156_25, h1_164, h2_164, gt_164, pt_164, ne_eq, not_false_eq_true, not_true_eq_false, true_and, and_true, true_or, or_true, eq_self, Option.toList_some, Option.toList_none, List.cons_append, List.nil_append, tc_0, tc_I, tc_L, tc_A, Nat.reduceAdd, Nat.reduceLeDiff, Nat.reduceEqDiff, Int.reduceEq, Int.reduceLT, Int.reduceLE, Int.reduceNeg, Int.reduceToNat, Int.cast_ofNat_Int, if_true, if_false, and_self, or_self, ite_self, bI_0, bI_1, bI_01, Bool.false_eq_true, reduceCtorEq, I1, p1, decide_true, bB_t, S1, p2', x1, x2, x3, x4, x5, x6, s_M_isSum, p3, p4, bB_f]
    · have N1 := fun D Q => s_M_standsIn (L := L) (d := D) (f := f) (t := t) (Q := Q) hrt h.kn l5 l7 (h.dr p5) (fun v hv => h.ok v (List.mem_of_mem_drop hv))
      have p2' : ((cntS (T (i + 2)) 0 k : Nat) : Int) = 1 := by rw [p2]; rfl
      simp only [u_M_turnSet_38, u_M_turnSet_39, u_M_turnSet_40, u_M_turnSet_42, u_M_turnSet_43, u_M_turnSet_45, u_M_turnSet_48, u_M_turnSet_51, u_M_turnSet_52, u_M_turnSet_53, u_M_turnSet_55, u_M_turnSet_56, u_M_turnSet_59, u_M_turnSet_60, u_M_turnSet_63, u_M_turnSet_64, u_M_turnSet_67, u_M_turnSet_70, u_M_turnSet_71, u_M_turnSet_72, u_M_turnSet_74, u_M_turnSet_75, u_M_turnSet_76, u_M_turnSet_77, u_M_turnSet_78, u_M_turnSet_80, u_M_turnSet_83, u_M_turnSet_86, u_M_turnSet_88, u_M_turnSet_90, u_M_turnSet_93, u_M_turnSet_94, u_M_turnSet_95, u_M_turnSet_97, u_M_turnSet_98, u_M_turnSet_99, u_M_turnSet_100, u_M_turnSet_102, u_M_turnSet_105, u_M_turnSet_108, u_M_turnSet_109, u_M_turnSet_112, u_M_turnSet_113, h1_156, gt_156_25, h1_164, h2_164, gt_164, pt_164, ne_eq, not_false_eq_true, not_true_eq_false, true_and, and_true, true_or, or_true, eq_self, Option.toList_some, Option.toList_none, List.cons_append, List.nil_append, tc_0, tc_I, tc_L, tc_A, Nat.reduceAdd, Nat.reduceLeDiff, Nat.reduceEqDiff, Int.reduceEq, Int.reduceLT, Int.reduceLE, Int.reduceNeg, Int.reduceToNat, Int.cast_ofNat_Int, if_true, if_false, and_self, or_self, ite_self, bI_0, bI_1, bI_01, Bool.false_eq_true, reduceCtorEq, I1, p1, decide_true, bB_t, S1, p2', x1, x2, x3, x4, x5, x6, s_M_isSum, p3, p4, w2, N1, p6, bB_f]
theorem s_M_turnSet (h : SMr g r len T i j n k) (hl : P.length + (kTu n k).length ≤ 1600) : VV L (d + 4) m_M_turnSet 0 [some (tA 156), some (tI r), some (tI i), some (tI j), none, none, none, none] [] (WW f t (emM g P)) Q = Q none (WW f t (emM g (P ++ pqL 0 (kTu n k)))) := by
  have hrt := h.rt
  have kn := h.kn
  have k122 : kName 122 = true := by decide
  have e := seg_len h.hs
  obtain ⟨w1, w2, w3, l1, l2, l3, l4, l5, l6, l7⟩ := ar_sm h.h0 e h.k1 h.hjl (by have := hrt.l1; omega)
  have H := h.em (P := P)
  obtain ⟨x1, x2, x3, x4, x5, _, x7⟩ := H.rt.ix1 h.h0 l1
  rw [h.hn, (srt_name kn).2] at x7
  obtain ⟨_, y2, y3, y4, y5, _, y7⟩ := H.rt.ix1 l4 l3
  have hst : VV L (d + 4) m_M_turnSet 0 [some (tA 156), some (tI r), some (tI i), some (tI j), none, none, none, none] [] (WW f t (emM g P)) Q = VV L (d + 4) m_M_turnSet 115 [some (tA 156), some (tI r), some (tI i), some (tI j), some (tI (n - 97)), some (tI (i + 3)), some (tI (whc (T (i + 3 + 1)))), some (tI (bB (plQ n k)))] [] (WW f t (emM g P)) Q := by
    rw [← l_M_pl H (u7 := none)]
    simp only [u_M_turnSet_0, u_M_turnSet_1, u_M_turnSet_4, u_M_turnSet_7, u_M_turnSet_8, u_M_turnSet_9, u_M_turnSet_10, u_M_turnSet_11, u_M_turnSet_12, u_M_turnSet_13, u_M_turnSet_14, u_M_turnSet_16, u_M_turnSet_17, u_M_turnSet_18, u_M_turnSet_19, u_M_turnSet_21, u_M_turnSet_22, u_M_turnSet_25, u_M_turnSet_28, u_M_turnSet_29, u_M_turnSet_30, u_M_turnSet_32, u_M_turnSet_33, u_M_turnSet_34, u_M_turnSet_35, u_M_turnSet_36, h1_156, gt_156_26, h1_165, h2_165, gt_165, pt_165, ne_eq, not_false_eq_true, not_true_eq_false, true_and, and_true, true_or, or_true, eq_self, Option.toList_some, Option.toList_none, List.cons_append, List.nil_append, tc_0, tc_I, tc_L, tc_A, Nat.reduceAdd, Nat.reduceLeDiff, Nat.reduceEqDiff, Int.reduceEq, Int.reduceLT, Int.reduceLE, Int.reduceNeg, Int.reduceToNat, Int.cast_ofNat_Int, if_true, if_false, and_self, or_self, ite_self, bI_0, bI_1, bI_01, Bool.false_eq_true, reduceCtorEq, x1, x2, x3, x4, x5, x7, w1, y2, y3, y4, y5, y7]
  rw [hst]
  have s59 : seg T (i + 3) (j + 1) (k ++ [59]) := seg_app h.hs (seg_one h.hj)
  have k61 : kEnd (T (i + 3 - 1)) = false := by rw [show i + 3 - 1 = i + 2 by omega, h.h2]; decide
  cases hp : plQ n k with
  | true =>
    obtain ⟨s, m, ek, es, hm, hsu, h124⟩ := h.hd2 hp
    have hv : s = 43 ∨ s = 45 ∨ s = 94 := by unfold kSum at hsu; simp at hsu; omega
    have ekt : kTu n k = n :: chB s :: (m ++ [59]) := by unfold kTu; rw [if_pos hp, ek]; rfl
    rw [ekt] at hl ⊢
    simp only [List.length_cons, List.length_append, List.length_nil] at hl
    have hes : kEnd s = false := by rcases hv with rfl | rfl | rfl <;> decide
    have hcb : 128 ≤ chB s ∧ chB s ≤ 132 := by unfold chB; (repeat' split) <;> omega
    have E1 := fun D Q => s_M_emM (L := L) (d := D) (f := f) (t := t) (g := g) (Q := Q) (P := P) (x := 1) (y := n - 97) (by omega)
    have E2 := fun D Q => s_M_emM (L := L) (d := D) (f := f) (t := t) (g := g) (Q := Q) (P := P ++ [((1 : Int), n - 97)]) (x := 6) (y := whc (chB s)) (by simp; omega)
    have C3 := fun D Q => s_M_copies (L := L) (d := D) (f := f) (t := t) (Q := Q) (P := P ++ [((1 : Int), n - 97)] ++ [((6 : Int), whc (chB s))]) hrt l6 l7 (seg_app hm (seg_one h.hj)) (by simp; omega)
    have hfin : P ++ [((1 : Int), n - 97)] ++ [((6 : Int), whc (chB s))] ++ pqL (T (i + 3 + 2 - 1)) (m ++ [59]) = P ++ pqL 0 (n :: chB s :: (m ++ [59])) := by
      have e6 : eSl n (chB s) = 6 := by rw [eSl_o (by omega)]; unfold srt kName kRow kStk; simp; omega
      rw [show i + 3 + 2 - 1 = i + 3 + 1 by omega, es, pqL_e hes (kEnd_hi (k := chB s) (by omega))]
      show _ = P ++ (eSl 0 n, whc n) :: (eSl n (chB s), whc (chB s)) :: pqL (chB s) (m ++ [59])
      rw [(eSl_n kn).1, (srt_name kn).2, e6]; simp
    rw [hfin] at C3
    have j0 : whc 43 = 43 ∧ whc 45 = 45 ∧ whc 94 = 94 := by decide
    have c0 : whc (chB 43) = 0 ∧ whc (chB 45) = 1 ∧ whc (chB 94) = 2 := by decide
    rw [es]
    rcases hv with rfl | rfl | rfl
    · rw [c0.1] at E2 C3
      simp only [u_M_turnSet_115, u_M_turnSet_117, u_M_turnSet_120, u_M_turnSet_121, u_M_turnSet_122, u_M_turnSet_124, u_M_turnSet_127, u_M_turnSet_128, u_M_turnSet_130, u_M_turnSet_132, u_M_turnSet_134, u_M_turnSet_137, u_M_turnSet_138, u_M_turnSet_141, u_M_turnSet_143, u_M_turnSet_145, u_M_turnSet_148, u_M_turnSet_149, u_M_turnSet_152, u_M_turnSet_153, u_M_turnSet_156, u_M_turnSet_157, u_M_turnSet_158, u_M_turnSet_160, u_M_turnSet_161, u_M_turnSet_162, u_M_turnSet_163, u_M_turnSet_164, u_M_turnSet_165, u_M_turnSet_168, u_M_turnSet_273, h1_156, ne_eq, not_false_eq_true, not_true_eq_false, true_and, and_true, true_or, or_true, eq_self, Option.toList_some, Option.toList_none, List.cons_append, List.nil_append, tc_0, tc_I, tc_L, tc_A, Nat.reduceAdd, Nat.reduceLeDiff, Nat.reduceEqDiff, Int.reduceEq, Int.reduceLT, Int.reduceLE, Int.reduceNeg, Int.reduceToNat, Int.cast_ofNat_Int, if_true, if_false, and_self, or_self, ite_self, bI_0, bI_1, bI_01, Bool.false_eq_true, reduceCtorEq, bB_t, E1, j0.1, E2, w2, w3, C3]
    · rw [c0.2.1] at E2 C3
      simp only [u_M_turnSet_115, u_M_turnSet_117, u_M_turnSet_120, u_M_turnSet_121, u_M_turnSet_122, u_M_turnSet_124, u_M_turnSet_127, u_M_turnSet_128, u_M_turnSet_130, u_M_turnSet_132, u_M_turnSet_134, u_M_turnSet_137, u_M_turnSet_138, u_M_turnSet_141, u_M_turnSet_143, u_M_turnSet_145, u_M_turnSet_148, u_M_turnSet_149, u_M_turnSet_152, u_M_turnSet_153, u_M_turnSet_156, u_M_turnSet_157, u_M_turnSet_158, u_M_turnSet_160, u_M_turnSet_161, u_M_turnSet_162, u_M_turnSet_163, u_M_turnSet_164, u_M_turnSet_165, u_M_turnSet_168, u_M_turnSet_273, h1_156, ne_eq, not_false_eq_true, not_true_eq_false, true_and, and_true, true_or, or_true, eq_self, Option.toList_some, Option.toList_none, List.cons_append, List.nil_append, tc_0, tc_I, tc_L, tc_A, Nat.reduceAdd, Nat.reduceLeDiff, Nat.reduceEqDiff, Int.reduceEq, Int.reduceLT, Int.reduceLE, Int.reduceNeg, Int.reduceToNat, Int.cast_ofNat_Int, if_true, if_false, and_self, or_self, ite_self, bI_0, bI_1, bI_01, Bool.false_eq_true, reduceCtorEq, bB_t, E1, j0.2.1, Int.reduceEq, E2, w2, w3, C3]
    · rw [c0.2.2] at E2 C3
      simp only [u_M_turnSet_115, u_M_turnSet_117, u_M_turnSet_120, u_M_turnSet_121, u_M_turnSet_122, u_M_turnSet_124, u_M_turnSet_127, u_M_turnSet_128, u_M_turnSet_130, u_M_turnSet_132, u_M_turnSet_134, u_M_turnSet_137, u_M_turnSet_138, u_M_turnSet_141, u_M_turnSet_143, u_M_turnSet_145, u_M_turnSet_148, u_M_turnSet_149, u_M_turnSet_152, u_M_turnSet_153, u_M_turnSet_156, u_M_turnSet_157, u_M_turnSet_158, u_M_turnSet_160, u_M_turnSet_161, u_M_turnSet_162, u_M_turnSet_163, u_M_turnSet_164, u_M_turnSet_165, u_M_turnSet_168, u_M_turnSet_273, h1_156, ne_eq, not_false_eq_true, not_true_eq_false, true_and, and_true, true_or, or_true, eq_self, Option.toList_some, Option.toList_none, List.cons_append, List.nil_append, tc_0, tc_I, tc_L, tc_A, Nat.reduceAdd, Nat.reduceLeDiff, Nat.reduceEqDiff, Int.reduceEq, Int.reduceLT, Int.reduceLE, Int.reduceNeg, Int.reduceToNat, Int.cast_ofNat_Int, if_true, if_false, and_self, or_self, ite_self, bI_0, bI_1, bI_01, Bool.false_eq_true, reduceCtorEq, bB_t, E1, j0.2.2, Int.reduceEq, E2, w2, w3, C3]
  | false =>
    have hp' : ¬ plQ n k = true := by rw [hp]; decide
    have N1 := fun D Q => s_M_standsIn (L := L) (d := D) (f := f) (t := t) (Q := Q) (RT_em (P := P) hrt) kn l5 l4 h.hs h.ok
    by_cases hin : n ∈ k
    · have ekt : kTu n k = [200, 122, 61] ++ (k ++ [59, n, 133, 122, 59, 202, 122, 86, 59, 201, 122, 61, -1, 59]) := by unfold kTu; rw [if_neg hp', if_pos hin]
      rw [ekt] at hl ⊢
      simp only [List.length_cons, List.length_append, List.length_nil] at hl
      obtain ⟨P1, e1⟩ : ∃ P1, P1 = P ++ pqL 0 [200, 122, 61] := ⟨_, rfl⟩
      obtain ⟨P2, e2⟩ : ∃ P2, P2 = P1 ++ pqL 0 (k ++ [59]) := ⟨_, rfl⟩
      obtain ⟨P3, e3⟩ : ∃ P3, P3 = P2 ++ [((1 : Int), n - 97)] := ⟨_, rfl⟩
      obtain ⟨P4, e4⟩ : ∃ P4, P4 = P3 ++ [((6 : Int), (3 : Int))] := ⟨_, rfl⟩
      obtain ⟨P5, e5⟩ : ∃ P5, P5 = P4 ++ [((1 : Int), (25 : Int))] := ⟨_, rfl⟩
      obtain ⟨P6, e6⟩ : ∃ P6, P6 = P5 ++ [((7 : Int), (59 : Int))] := ⟨_, rfl⟩
      obtain ⟨P7, e7⟩ : ∃ P7, P7 = P6 ++ pqL 0 [202, 122, 86, 59] := ⟨_, rfl⟩
      have n1' : P1.length = P.length + 3 := by rw [e1, List.length_append, pqL_len]; rfl
      have n2' : P2.length = P1.length + k.length + 1 := by rw [e2, List.length_append, pqL_len, List.length_append, List.length_singleton]; omega
      have n3' : P3.length = P2.length + 1 := by rw [e3]; simp
      have n4' : P4.length = P3.length + 1 := by rw [e4]; simp
      have n5' : P5.length = P4.length + 1 := by rw [e5]; simp
      have n6' : P6.length = P5.length + 1 := by rw [e6]; simp
      have n7' : P7.length = P6.length + 4 := by rw [e7, List.length_append, pqL_len]; rfl
      have em : pqL 0 [n, 133, 122, 59] = [((1 : Int), n - 97), (6, 3), (1, 25), (7, 59)] := by
        show [(eSl 0 n, whc n), (eSl n 133, whc 133), (eSl 133 122, whc 122), (eSl 122 59, whc 59)] = _
        rw [(eSl_n kn).1, (srt_name kn).2, eSl_o (pv := n) (v := 133) (by decide)]; rfl
      have nn45 : ¬ n = 45 := by unfold kName at kn; simp at kn; omega
      have hall : P ++ pqL 0 ([200, 122, 61] ++ (k ++ [59, n, 133, 122, 59, 202, 122, 86, 59, 201, 122, 61, -1, 59])) = P7 ++ pqL 0 [201, 122, 61, -1, 59] := by
        have ea : [200, 122, 61] ++ (k ++ [59, n, 133, 122, 59, 202, 122, 86, 59, 201, 122, 61, -1, 59]) = [200, 122, 61] ++ ((k ++ [59]) ++ (n :: [133, 122, 59] ++ (202 :: [122, 86, 59] ++ (201 :: [122, 61, -1, 59])))) := by simp
        rw [ea, pqL_j (l := [200, 122, 61]) (Or.inr (by decide)), pqL_a (l := k ++ [59]) nn45, pqL_a (l := n :: [133, 122, 59]) (v := 202) (by decide), pqL_1 (l := 202 :: [122, 86, 59]) (v := 201) (by decide), em, e7, e6, e5, e4, e3, e2, e1]
        simp only [List.append_assoc, List.cons_append, List.nil_append]
      rw [hall]
      have A1 := fun D Q => s_M_emitLe0 (L := L) (d := D) (f := f) (t := t) (g := g) (Q := Q) (P := P) (n := 122) k122 (by omega)
      have A2 := fun D Q => s_M_copies (L := L) (d := D) (f := f) (t := t) (Q := Q) (P := P1) hrt l6 l4 s59 (by simp; omega)
      have A3 := fun D Q => s_M_emM (L := L) (d := D) (f := f) (t := t) (g := g) (Q := Q) (P := P2) (x := 1) (y := n - 97) (by omega)
      have A4 := fun D Q => s_M_emM (L := L) (d := D) (f := f) (t := t) (g := g) (Q := Q) (P := P3) (x := 6) (y := 3) (by omega)
      have A5 := fun D Q => s_M_emM (L := L) (d := D) (f := f) (t := t) (g := g) (Q := Q) (P := P4) (x := 1) (y := 25) (by omega)
      have A6 := fun D Q => s_M_emS (L := L) (d := D) (f := f) (t := t) (g := g) (Q := Q) (P := P5) (v := 59) (by omega)
      have A7 := fun D Q => s_M_emitPushed (L := L) (d := D) (f := f) (t := t) (g := g) (Q := Q) (P := P6) (n := 122) k122 (by omega)
      have A8 := fun D Q => s_M_emitGone (L := L) (d := D) (f := f) (t := t) (g := g) (Q := Q) (P := P7) (n := 122) k122 (by omega)
      have z25 : (122 : Int) - 97 = 25 := by decide
      rw [← e1, z25] at A1
      rw [pqL_e k61 (y := 0) (by decide), ← e2] at A2
      rw [← e3] at A3
      rw [← e4] at A4
      rw [← e5] at A5
      rw [← e6] at A6
      rw [← e7, z25] at A7
      rw [z25] at A8
      simp only [u_M_turnSet_115, u_M_turnSet_117, u_M_turnSet_171, u_M_turnSet_172, u_M_turnSet_173, u_M_turnSet_175, u_M_turnSet_176, u_M_turnSet_178, u_M_turnSet_181, u_M_turnSet_217, u_M_turnSet_218, u_M_turnSet_219, u_M_turnSet_221, u_M_turnSet_224, u_M_turnSet_225, u_M_turnSet_226, u_M_turnSet_228, u_M_turnSet_229, u_M_turnSet_230, u_M_turnSet_231, u_M_turnSet_234, u_M_turnSet_235, u_M_turnSet_236, u_M_turnSet_238, u_M_turnSet_241, u_M_turnSet_242, u_M_turnSet_244, u_M_turnSet_245, u_M_turnSet_248, u_M_turnSet_249, u_M_turnSet_250, u_M_turnSet_252, u_M_turnSet_255, u_M_turnSet_256, u_M_turnSet_258, u_M_turnSet_261, u_M_turnSet_262, u_M_turnSet_264, u_M_turnSet_267, u_M_turnSet_268, u_M_turnSet_270, u_M_turnSet_273, h1_156, ne_eq, not_false_eq_true, not_true_eq_false, true_and, and_true, true_or, or_true, eq_self, Option.toList_some, Option.toList_none, List.cons_append, List.nil_append, tc_0, tc_I, tc_L, tc_A, Nat.reduceAdd, Nat.reduceLeDiff, Nat.reduceEqDiff, Int.reduceEq, Int.reduceLT, Int.reduceLE, Int.reduceNeg, Int.reduceToNat, Int.cast_ofNat_Int, if_true, if_false, and_self, or_self, ite_self, bI_0, bI_1, bI_01, Bool.false_eq_true, reduceCtorEq, bB_f, N1, hin, decide_true, bB_t, w3, A1, A2, A3, A4, A5, A6, A7, A8]
    · have ekt : kTu n k = [202, n, 86, 59, n, 128] ++ (k ++ [59]) := by unfold kTu; rw [if_neg hp', if_neg hin]
      rw [ekt] at hl ⊢
      simp only [List.length_cons, List.length_append, List.length_nil] at hl
      obtain ⟨P1, e1⟩ : ∃ P1, P1 = P ++ pqL 0 [202, n, 86, 59] := ⟨_, rfl⟩
      obtain ⟨P2, e2⟩ : ∃ P2, P2 = P1 ++ [((1 : Int), n - 97)] := ⟨_, rfl⟩
      obtain ⟨P3, e3⟩ : ∃ P3, P3 = P2 ++ [((6 : Int), (0 : Int))] := ⟨_, rfl⟩
      have n1' : P1.length = P.length + 4 := by rw [e1, List.length_append, pqL_len]; rfl
      have n2' : P2.length = P1.length + 1 := by rw [e2]; simp
      have n3' : P3.length = P2.length + 1 := by rw [e3]; simp
      have em : pqL 0 [n, 128] = [((1 : Int), n - 97), (6, 0)] := by
        show [(eSl 0 n, whc n), (eSl n 128, whc 128)] = _
        rw [(eSl_n kn).1, (srt_name kn).2, eSl_o (pv := n) (v := 128) (by decide)]; rfl
      have nn45 : ¬ n = 45 := by unfold kName at kn; simp at kn; omega
      have hall : P ++ pqL 0 ([202, n, 86, 59, n, 128] ++ (k ++ [59])) = P3 ++ pqL 0 (k ++ [59]) := by
        have ea : [202, n, 86, 59, n, 128] ++ (k ++ [59]) = [202, n, 86, 59] ++ (n :: [128] ++ (k ++ [59])) := by simp
        rw [ea, pqL_a (l := [202, n, 86, 59]) nn45, pqL_j (l := n :: [128]) (Or.inr (show kEnd 128 = false by decide)), em, e3, e2, e1]
        simp only [List.append_assoc, List.cons_append, List.nil_append]
      rw [hall]
      have A1 := fun D Q => s_M_emitPushed (L := L) (d := D) (f := f) (t := t) (g := g) (Q := Q) (P := P) (n := n) kn (by omega)
      have A2 := fun D Q => s_M_emM (L := L) (d := D) (f := f) (t := t) (g := g) (Q := Q) (P := P1) (x := 1) (y := n - 97) (by omega)
      have A3 := fun D Q => s_M_emM (L := L) (d := D) (f := f) (t := t) (g := g) (Q := Q) (P := P2) (x := 6) (y := 0) (by omega)
      have A4 := fun D Q => s_M_copies (L := L) (d := D) (f := f) (t := t) (Q := Q) (P := P3) hrt l6 l4 s59 (by simp; omega)
      rw [← e1] at A1
      rw [← e2] at A2
      rw [← e3] at A3
      rw [pqL_e k61 (y := 0) (by decide)] at A4
      simp only [u_M_turnSet_115, u_M_turnSet_117, u_M_turnSet_171, u_M_turnSet_172, u_M_turnSet_173, u_M_turnSet_175, u_M_turnSet_176, u_M_turnSet_178, u_M_turnSet_181, u_M_turnSet_184, u_M_turnSet_185, u_M_turnSet_187, u_M_turnSet_190, u_M_turnSet_191, u_M_turnSet_192, u_M_turnSet_194, u_M_turnSet_197, u_M_turnSet_198, u_M_turnSet_200, u_M_turnSet_201, u_M_turnSet_204, u_M_turnSet_205, u_M_turnSet_206, u_M_turnSet_208, u_M_turnSet_209, u_M_turnSet_210, u_M_turnSet_211, u_M_turnSet_214, u_M_turnSet_273, h1_156, ne_eq, not_false_eq_true, not_true_eq_false, true_and, and_true, true_or, or_true, eq_self, Option.toList_some, Option.toList_none, List.cons_append, List.nil_append, tc_0, tc_I, tc_L, tc_A, Nat.reduceAdd, Nat.reduceLeDiff, Nat.reduceEqDiff, Int.reduceEq, Int.reduceLT, Int.reduceLE, Int.reduceNeg, Int.reduceToNat, Int.cast_ofNat_Int, if_true, if_false, and_self, or_self, ite_self, bI_0, bI_1, bI_01, Bool.false_eq_true, reduceCtorEq, bB_f, N1, hin, decide_false, w3, A1, A2, A3, A4]
end
