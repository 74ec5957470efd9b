/-! Worth: factor -/
section
variable {L D a : Nat} {f t g : Mem} {Q : Option TV → Wd → Prop} {δ : Int}
theorem seen_1 {N k : Nat} (hN : N < 67108864) (hk : k < 26) : N ||| 2 ^ k < 67108864 := by
  have : (67108864 : Nat) = 2 ^ 26 := by decide
  rw [this] at hN ⊢
  exact Nat.or_lt_two_pow hN (Nat.pow_lt_pow_right (by omega) hk)
theorem seen_2 {N k : Nat} (hN : N < 4096) (hk : k < 12) : N ||| 2 ^ k < 4096 := by
  have : (4096 : Nat) = 2 ^ 12 := by decide
  rw [this] at hN ⊢
  exact Nat.or_lt_two_pow hN (Nat.pow_lt_pow_right (by omega) hk)
theorem p2_31 {k : Nat} (h : k < 31) : 2 ^ k < 2147483648 := Nat.lt_of_lt_of_le (Nat.pow_lt_pow_right (by omega) h) (by decide)
/-- a name is read -/
theorem p_Wo_readName {E : Env} {N : Nat} {I : Nat → Nat} {k : Nat} {j : Int} (hE : EnC f E) (hW : WS f N I) (h6 : f 149 6 = j) (h7 : f 149 7 = 0) (hk : k < 26) (hQ : VQ f N I t g j Q (match E.1 k with
    | none => .error 1
    | some v => .ok (v, [(-1, (k : Int))]))) : VV L (D + 1) m_Wo_readName 0 [some (tA 149), some (tI k)] [] (WW f t g) Q := by
  obtain ⟨w1, w2, w3⟩ := hW
  have hb := p2_31 (show k < 31 by omega)
  rcases hE.n k hk with ⟨n1, n2⟩ | ⟨n1, n2⟩
  · rw [n2] at hQ
    have ht : thr f k = false := by unfold thr; simp [n1]
    have e3 : (mset f 149 7 1) 149 3 = (N : Int) := by rw [rd, if_neg (by omega)]; exact w1
    simp only [u_Wo_readName_0, u_Wo_readName_1, u_Wo_readName_4, u_Wo_readName_5, u_Wo_readName_8, u_Wo_readName_11, u_Wo_readName_12, u_Wo_readName_13, h1_149, h1_19, gt_149_0, ne_eq, not_false_eq_true, not_true_eq_false, true_and, and_true, true_or, or_true, eq_self, Option.toList_some, Option.toList_none, List.cons_append, List.nil_append, tc_0, tc_I, tc_L, tc_A, Nat.reduceAdd, Nat.reduceLeDiff, Nat.reduceEqDiff, Int.reduceEq, Int.reduceLT, Int.reduceLE, Int.reduceNeg, Int.reduceToNat, Int.cast_ofNat_Int, if_true, if_false, and_self, or_self, ite_self, bI_0, bI_1, bI_01, Bool.false_eq_true, reduceCtorEq, s_St_isThere, ht, bB_f, s_Wo_refuse, h7]
    simp only [u_Wo_readName_0, u_Wo_readName_1, u_Wo_readName_4, u_Wo_readName_5, u_Wo_readName_8, u_Wo_readName_11, u_Wo_readName_12, u_Wo_readName_13, u_Wo_readName_16, u_Wo_readName_17, u_Wo_readName_18, u_Wo_readName_21, u_Wo_readName_22, u_Wo_readName_23, u_Wo_readName_24, u_Wo_readName_25, u_Wo_readName_28, u_Wo_readName_29, u_Wo_readName_32, u_Wo_readName_33, u_Wo_readName_36, u_Wo_readName_37, h1_149, gt_149_0, h1_19, gt_149_3, pt_149_3, ne_eq, not_false_eq_true, not_true_eq_false, true_and, and_true, true_or, or_true, eq_self, Option.toList_some, Option.toList_none, List.cons_append, List.nil_append, tc_0, tc_I, tc_L, tc_A, Nat.reduceAdd, Nat.reduceLeDiff, Nat.reduceEqDiff, Int.reduceEq, Int.reduceLT, Int.reduceLE, Int.reduceNeg, Int.reduceToNat, Int.cast_ofNat_Int, if_true, if_false, and_self, or_self, ite_self, bI_0, bI_1, bI_01, Bool.false_eq_true, reduceCtorEq, e3, o32_shl1 (show k < 31 by omega), o32_or (show N < 2147483648 by omega) hb, s_St_worthOf]
    refine hQ _ _ ?_ ?_ ?_
    · exact FW_tr (FW_m (j := 7) (by omega)) (FW_m (j := 3) (by omega))
    · rw [rd, if_neg (by omega), rd, if_pos (by simp)]
    · omega
  · rw [n2] at hQ
    have ht : thr f k = true := by unfold thr; simp [n1]; omega
    have hw : wrt (mset f 149 3 ((N ||| 2 ^ k : Nat) : Int)) k = f 21 k := by
      have h1 : thr (mset f 149 3 ((N ||| 2 ^ k : Nat) : Int)) k = true := by unfold thr; rw [rd, if_neg (by omega)]; simp [n1]; omega
      unfold wrt; rw [if_pos h1, rd, if_neg (by omega), Int.toNat_natCast]
    simp only [u_Wo_readName_0, u_Wo_readName_1, u_Wo_readName_4, u_Wo_readName_5, u_Wo_readName_8, u_Wo_readName_11, u_Wo_readName_12, u_Wo_readName_13, u_Wo_readName_16, u_Wo_readName_17, u_Wo_readName_18, u_Wo_readName_21, u_Wo_readName_22, u_Wo_readName_23, u_Wo_readName_24, u_Wo_readName_25, u_Wo_readName_28, u_Wo_readName_29, u_Wo_readName_32, u_Wo_readName_33, u_Wo_readName_36, u_Wo_readName_37, h1_149, gt_149_0, h1_19, gt_149_3, pt_149_3, ne_eq, not_false_eq_true, not_true_eq_false, true_and, and_true, true_or, or_true, eq_self, Option.toList_some, Option.toList_none, List.cons_append, List.nil_append, tc_0, tc_I, tc_L, tc_A, Nat.reduceAdd, Nat.reduceLeDiff, Nat.reduceEqDiff, Int.reduceEq, Int.reduceLT, Int.reduceLE, Int.reduceNeg, Int.reduceToNat, Int.cast_ofNat_Int, if_true, if_false, and_self, or_self, ite_self, bI_0, bI_1, bI_01, Bool.false_eq_true, reduceCtorEq, s_St_isThere, ht, bB_t, w1, o32_shl1 (show k < 31 by omega), o32_or (show N < 2147483648 by omega) hb, s_St_worthOf, hw]
    refine hQ _ (FW_m (by omega)) (by rw [rd, if_neg (by omega)]; exact h6) (by rw [rd, if_neg (by omega)]; exact h7) ⟨?_, ?_, fun q hq => ?_⟩
    · rw [rd, if_pos (by simp)]; simp [snN]
    · simp only [snN, List.foldl_cons, List.foldl_nil, if_true, Int.toNat_natCast]; exact seen_1 w2 hk
    · rw [rd, if_neg (by omega)]; exact w3 q hq
theorem p_Wo_readCount {E : Env} {N : Nat} {I : Nat → Nat} {i : Int} (hT : isT a) (hl : t a 1 ≤ 1000) (hE : EnC f E) (hW : WS f N I) (h5 : (f 149 5).toNat = a) (h6 : f 149 6 = i) (h7 : f 149 7 = 0) (hi : 0 ≤ i) (hr : kRow (tok t a i) = true) (hQ : VQ f N I t g (i + 1) Q (match E.2.1 (tok t a i - 65) with
    | none => .error 2
    | some n => .ok (n, []))) : VV L (D + 1) m_Wo_readCount 0 [some (tA 149), none] [] (WW f t g) Q := by
  have hlt := tok_ne (knz (v := tok t a i) (by simp [hr]))
  have h65 : 65 ≤ tok t a i ∧ tok t a i ≤ 70 := by unfold kRow at hr; simpa using hr
  have wr : w32 (tok t a i - 65) = tok t a i - 65 := w32_id (by omega) (by omega)
  have wi : w32 (i + 1) = i + 1 := w32_id (by omega) (by omega)
  have er : (((tok t a i - 65).toNat : Nat) : Int) = tok t a i - 65 := by omega
  have hrw : rwH f (tok t a i - 65) = f 29 (tok t a i - 65).toNat := by unfold rwH; rw [if_pos (by omega)]
  have q := hE.r (tok t a i - 65).toNat (by omega)
  rw [er] at q
  rcases q with ⟨n1, n2⟩ | ⟨n1, n3, n2⟩
  · rw [n2] at hQ
    have e7 : (mset f 149 6 (i + 1)) 149 7 = 0 := by rw [rd, if_neg (by omega)]; exact h7
    simp only [u_Wo_readCount_0, u_Wo_readCount_1, u_Wo_readCount_4, u_Wo_readCount_5, u_Wo_readCount_8, u_Wo_readCount_9, u_Wo_readCount_12, u_Wo_readCount_15, u_Wo_readCount_17, u_Wo_readCount_18, u_Wo_readCount_21, u_Wo_readCount_22, u_Wo_readCount_23, u_Wo_readCount_24, u_Wo_readCount_27, u_Wo_readCount_28, u_Wo_readCount_29, u_Wo_readCount_32, u_Wo_readCount_33, u_Wo_readCount_34, u_Wo_readCount_37, u_Wo_readCount_38, u_Wo_readCount_39, u_Wo_readCount_42, u_Wo_readCount_43, u_Wo_readCount_46, u_Wo_readCount_47, u_Wo_readCount_50, u_Wo_readCount_51, h1_149, gt_149_1, h1_28, gt_149_5, pt_149_5, gt_149_6, pt_149_6, xT_0, xT_h1, ne_eq, not_false_eq_true, not_true_eq_false, true_and, and_true, true_or, or_true, eq_self, Option.toList_some, Option.toList_none, List.cons_append, List.nil_append, tc_0, tc_I, tc_L, tc_A, Nat.reduceAdd, Nat.reduceLeDiff, Nat.reduceEqDiff, Int.reduceEq, Int.reduceLT, Int.reduceLE, Int.reduceNeg, Int.reduceToNat, Int.cast_ofNat_Int, if_true, if_false, and_self, or_self, ite_self, bI_0, bI_1, bI_01, Bool.false_eq_true, reduceCtorEq, h5, hT, s_Tx_token hT hl, h6, wr, s_Sf_heldByRow, hrw, n1, wi, s_Wo_refuse, e7, s_Sf_countOf]
    exact hQ _ _ (FW_tr (FW_m (j := 6) (by omega)) (FW_m (j := 7) (by omega))) (by rw [rd, if_pos (by simp)]) (by omega)
  · rw [n2] at hQ
    have hc : ctS (mset f 149 6 (i + 1)) (f 29 (tok t a i - 65).toNat) = f 32 (f 29 (tok t a i - 65).toNat).toNat := by
      unfold ctS; rw [if_pos ⟨n1, n3⟩, rd, if_neg (by omega)]
    simp only [u_Wo_readCount_0, u_Wo_readCount_1, u_Wo_readCount_4, u_Wo_readCount_5, u_Wo_readCount_8, u_Wo_readCount_9, u_Wo_readCount_12, u_Wo_readCount_15, u_Wo_readCount_17, u_Wo_readCount_18, u_Wo_readCount_21, u_Wo_readCount_22, u_Wo_readCount_23, u_Wo_readCount_24, u_Wo_readCount_27, u_Wo_readCount_28, u_Wo_readCount_29, u_Wo_readCount_32, u_Wo_readCount_33, u_Wo_readCount_34, u_Wo_readCount_37, u_Wo_readCount_38, u_Wo_readCount_39, u_Wo_readCount_42, u_Wo_readCount_43, u_Wo_readCount_46, u_Wo_readCount_47, u_Wo_readCount_50, u_Wo_readCount_51, h1_149, gt_149_1, h1_28, gt_149_5, pt_149_5, gt_149_6, pt_149_6, xT_0, xT_h1, ne_eq, not_false_eq_true, not_true_eq_false, true_and, and_true, true_or, or_true, eq_self, Option.toList_some, Option.toList_none, List.cons_append, List.nil_append, tc_0, tc_I, tc_L, tc_A, Nat.reduceAdd, Nat.reduceLeDiff, Nat.reduceEqDiff, Int.reduceEq, Int.reduceLT, Int.reduceLE, Int.reduceNeg, Int.reduceToNat, Int.cast_ofNat_Int, if_true, if_false, and_self, or_self, ite_self, bI_0, bI_1, bI_01, Bool.false_eq_true, reduceCtorEq, h5, hT, s_Tx_token hT hl, h6, wr, s_Sf_heldByRow, hrw, show ¬ f 29 (tok t a i - 65).toNat = -1 by omega, wi, s_Sf_countOf, hc]
    exact hQ _ (FW_m (by omega)) (by rw [rd, if_pos (by simp)]) (by rw [rd, if_neg (by omega)]; exact h7) (WS_m hW (by omega))
theorem p_Wo_leaf (hT : isT a) (hl : t a 1 ≤ 1000) (h0 : 0 ≤ δ) (h12 : δ ≤ 12) (x : Int ⊕ Int) (hx : wL x) : VFs L (D + 2) a t g m_Wo_factor [none] δ (kL x) (fun E => vL E x) (fun _ => True) := by
  intro f E N I i j Q hE hW h5 h6 h7 hi hs _ hQ
  have hF1 : FW f (mset f 149 6 (i + 1)) := FW_m (by omega)
  have e5 : ((mset f 149 6 (i + 1)) 149 5).toNat = a := by rw [rd, if_neg (by omega)]; exact h5
  have e6 : (mset f 149 6 (i + 1)) 149 6 = i + 1 := by rw [rd, if_pos (by simp)]
  have e7 : (mset f 149 6 (i + 1)) 149 7 = 0 := by rw [rd, if_neg (by omega)]; exact h7
  match x, hx, hs, hQ with
  | .inl v, hx, hs, hQ =>
    obtain ⟨hv, hs'⟩ := seg_hd hs
    have hj := seg_len hs
    simp [kL] at hj
    subst hj
    have hlt := tok_ne (show ¬ tok t a i = 0 by
      rw [hv]; rcases hx with h | h
      · omega
      · exact knz (by simp [h]))
    have wi : w32 (i + 1) = i + 1 := w32_id (by omega) (by omega)
    rcases hx with h | h
    · have hn : kNum v = true := by unfold kNum; simp; omega
      have wv : w32 (-1 - v) = -1 - v := w32_id (by omega) (by omega)
      have hQ2 : VQ f N I t g (i + 1) Q (.ok (-1 - v, [])) := by
        have e : vL E (.inl v) = .ok (-1 - v, []) := by unfold vL; dsimp only; rw [if_pos (by omega)]
        rw [← e]; exact hQ
      simp only [u_Wo_factor_0, u_Wo_factor_1, u_Wo_factor_4, u_Wo_factor_7, u_Wo_factor_8, u_Wo_factor_10, u_Wo_factor_13, u_Wo_factor_14, u_Wo_factor_15, u_Wo_factor_16, u_Wo_factor_19, u_Wo_factor_20, u_Wo_factor_23, u_Wo_factor_26, u_Wo_factor_27, u_Wo_factor_28, u_Wo_factor_29, u_Wo_factor_32, u_Wo_factor_33, u_Wo_factor_34, u_Wo_factor_37, u_Wo_factor_38, u_Wo_factor_41, u_Wo_factor_44, u_Wo_factor_45, u_Wo_factor_48, u_Wo_factor_49, u_Wo_factor_50, u_Wo_factor_51, u_Wo_factor_54, u_Wo_factor_57, u_Wo_factor_58, u_Wo_factor_59, u_Wo_factor_61, u_Wo_factor_62, u_Wo_factor_65, u_Wo_factor_66, u_Wo_factor_67, u_Wo_factor_70, u_Wo_factor_73, u_Wo_factor_74, u_Wo_factor_75, u_Wo_factor_77, u_Wo_factor_78, u_Wo_factor_79, u_Wo_factor_82, u_Wo_factor_83, u_Wo_factor_84, u_Wo_factor_86, u_Wo_factor_89, u_Wo_factor_90, u_Wo_factor_93, u_Wo_factor_94, u_Wo_factor_95, u_Wo_factor_97, u_Wo_factor_100, u_Wo_factor_101, u_Wo_factor_102, u_Wo_factor_103, u_Wo_factor_104, u_Wo_factor_107, u_Wo_factor_108, u_Wo_factor_109, u_Wo_factor_110, u_Wo_factor_111, u_Wo_factor_112, u_Wo_factor_113, u_Wo_factor_116, h1_149, gt_149_7, pt_149_7, gt_149_5, pt_149_5, gt_149_6, pt_149_6, xT_0, xT_h1, ne_eq, not_false_eq_true, not_true_eq_false, true_and, and_true, true_or, or_true, eq_self, Option.toList_some, Option.toList_none, List.cons_append, List.nil_append, tc_0, tc_I, tc_L, tc_A, Nat.reduceAdd, Nat.reduceLeDiff, Nat.reduceEqDiff, Int.reduceEq, Int.reduceLT, Int.reduceLE, Int.reduceNeg, Int.reduceToNat, Int.cast_ofNat_Int, if_true, if_false, and_self, or_self, ite_self, bI_0, bI_1, bI_01, Bool.false_eq_true, reduceCtorEq, h7, show δ ≤ 12 from h12, h5, hT, s_Tx_token hT hl, h6, wi, s_Tk_isNumber, hv, hn, bB_t, s_Tk_numberOf, wv]
      exact hQ2 _ hF1 e6 e7 (WS_m hW (by omega))
    · have hb : 97 ≤ v ∧ v ≤ 122 := by unfold kName at h; simpa using h
      have hn : kNum v = false := by unfold kNum; simp; omega
      have wv : w32 (v - 97) = ((v - 97).toNat : Int) := by rw [w32_id (by omega) (by omega)]; omega
      simp only [u_Wo_factor_0, u_Wo_factor_1, u_Wo_factor_4, u_Wo_factor_7, u_Wo_factor_8, u_Wo_factor_10, u_Wo_factor_13, u_Wo_factor_14, u_Wo_factor_15, u_Wo_factor_16, u_Wo_factor_19, u_Wo_factor_20, u_Wo_factor_23, u_Wo_factor_26, u_Wo_factor_27, u_Wo_factor_28, u_Wo_factor_29, u_Wo_factor_32, u_Wo_factor_33, u_Wo_factor_34, u_Wo_factor_37, u_Wo_factor_38, u_Wo_factor_41, u_Wo_factor_44, u_Wo_factor_45, u_Wo_factor_48, u_Wo_factor_49, u_Wo_factor_50, u_Wo_factor_51, u_Wo_factor_54, u_Wo_factor_57, u_Wo_factor_58, u_Wo_factor_59, u_Wo_factor_61, u_Wo_factor_62, u_Wo_factor_65, u_Wo_factor_66, u_Wo_factor_67, u_Wo_factor_70, u_Wo_factor_73, u_Wo_factor_74, u_Wo_factor_75, u_Wo_factor_77, u_Wo_factor_78, u_Wo_factor_79, u_Wo_factor_82, u_Wo_factor_83, u_Wo_factor_84, u_Wo_factor_86, u_Wo_factor_89, u_Wo_factor_90, u_Wo_factor_93, u_Wo_factor_94, u_Wo_factor_95, u_Wo_factor_97, u_Wo_factor_100, u_Wo_factor_101, u_Wo_factor_102, u_Wo_factor_103, u_Wo_factor_104, u_Wo_factor_107, u_Wo_factor_108, u_Wo_factor_109, u_Wo_factor_110, u_Wo_factor_111, u_Wo_factor_112, u_Wo_factor_113, u_Wo_factor_116, h1_149, gt_149_7, pt_149_7, gt_149_5, pt_149_5, gt_149_6, pt_149_6, xT_0, xT_h1, ne_eq, not_false_eq_true, not_true_eq_false, true_and, and_true, true_or, or_true, eq_self, Option.toList_some, Option.toList_none, List.cons_append, List.nil_append, tc_0, tc_I, tc_L, tc_A, Nat.reduceAdd, Nat.reduceLeDiff, Nat.reduceEqDiff, Int.reduceEq, Int.reduceLT, Int.reduceLE, Int.reduceNeg, Int.reduceToNat, Int.cast_ofNat_Int, if_true, if_false, and_self, or_self, ite_self, bI_0, bI_1, bI_01, Bool.false_eq_true, reduceCtorEq, h7, show δ ≤ 12 from h12, h5, hT, s_Tx_token hT hl, h6, wi, s_Tk_isNumber, hv, hn, bB_f, s_Tk_isName, h, bB_t, wv]
      refine p_Wo_readName (D := D) (k := (v - 97).toNat) (j := i + 1) (EnC_FW hE hF1) (WS_m hW (by omega)) e6 e7 (by omega) ?_
      have e : vL E (.inl v) = (match E.1 (((v - 97).toNat : Nat) : Int) with
        | none => .error 1
        | some u => .ok (u, [(-1, (((v - 97).toNat : Nat) : Int))])) := by
        unfold vL; dsimp only; rw [if_neg (by omega), show (((v - 97).toNat : Nat) : Int) = v - 97 by omega]; cases E.1 (v - 97) <;> rfl
      have hQ2 : VQ (mset f 149 6 (i + 1)) N I t g (i + 1) Q (vL E (.inl v)) := VQ_FW hF1 hQ
      rw [e] at hQ2
      cases hc : E.1 (((v - 97).toNat : Nat) : Int) with
      | none => rw [hc] at hQ2; intro f' v' a1 a2 a3; simp only [u_Wo_factor_0, u_Wo_factor_1, u_Wo_factor_4, u_Wo_factor_7, u_Wo_factor_8, u_Wo_factor_10, u_Wo_factor_13, u_Wo_factor_14, u_Wo_factor_15, u_Wo_factor_16, u_Wo_factor_19, u_Wo_factor_20, u_Wo_factor_23, u_Wo_factor_26, u_Wo_factor_27, u_Wo_factor_28, u_Wo_factor_29, u_Wo_factor_32, u_Wo_factor_33, u_Wo_factor_34, u_Wo_factor_37, u_Wo_factor_38, u_Wo_factor_41, u_Wo_factor_44, u_Wo_factor_45, u_Wo_factor_48, u_Wo_factor_49, u_Wo_factor_50, u_Wo_factor_51, u_Wo_factor_54, u_Wo_factor_57, u_Wo_factor_58, u_Wo_factor_59, u_Wo_factor_61, u_Wo_factor_62, u_Wo_factor_65, u_Wo_factor_66, u_Wo_factor_67, u_Wo_factor_70, u_Wo_factor_73, u_Wo_factor_74, u_Wo_factor_75, u_Wo_factor_77, u_Wo_factor_78, u_Wo_factor_79, u_Wo_factor_82, u_Wo_factor_83, u_Wo_factor_84, u_Wo_factor_86, u_Wo_factor_89, u_Wo_factor_90, u_Wo_factor_93, u_Wo_factor_94, u_Wo_factor_95, u_Wo_factor_97, u_Wo_factor_100, u_Wo_factor_101, u_Wo_factor_102, u_Wo_factor_103, u_Wo_factor_104, u_Wo_factor_107, u_Wo_factor_108, u_Wo_factor_109, u_Wo_factor_110, u_Wo_factor_111, u_Wo_factor_112, u_Wo_factor_113, u_Wo_factor_116, h1_149, gt_149_7, pt_149_7, gt_149_5, pt_149_5, gt_149_6, pt_149_6, xT_0, xT_h1, ne_eq, not_false_eq_true, not_true_eq_false, true_and, and_true, true_or, or_true, eq_self, Option.toList_some, Option.toList_none, List.cons_append, List.nil_append, tc_0, tc_I, tc_L, tc_A, Nat.reduceAdd, Nat.reduceLeDiff, Nat.reduceEqDiff, Int.reduceEq, Int.reduceLT, Int.reduceLE, Int.reduceNeg, Int.reduceToNat, Int.cast_ofNat_Int, if_true, if_false, and_self, or_self, ite_self, bI_0, bI_1, bI_01, Bool.false_eq_true, reduceCtorEq]; exact hQ2 f' v' a1 a2 a3
      | some u => rw [hc] at hQ2; intro f' a1 a2 a3 a4; simp only [u_Wo_factor_0, u_Wo_factor_1, u_Wo_factor_4, u_Wo_factor_7, u_Wo_factor_8, u_Wo_factor_10, u_Wo_factor_13, u_Wo_factor_14, u_Wo_factor_15, u_Wo_factor_16, u_Wo_factor_19, u_Wo_factor_20, u_Wo_factor_23, u_Wo_factor_26, u_Wo_factor_27, u_Wo_factor_28, u_Wo_factor_29, u_Wo_factor_32, u_Wo_factor_33, u_Wo_factor_34, u_Wo_factor_37, u_Wo_factor_38, u_Wo_factor_41, u_Wo_factor_44, u_Wo_factor_45, u_Wo_factor_48, u_Wo_factor_49, u_Wo_factor_50, u_Wo_factor_51, u_Wo_factor_54, u_Wo_factor_57, u_Wo_factor_58, u_Wo_factor_59, u_Wo_factor_61, u_Wo_factor_62, u_Wo_factor_65, u_Wo_factor_66, u_Wo_factor_67, u_Wo_factor_70, u_Wo_factor_73, u_Wo_factor_74, u_Wo_factor_75, u_Wo_factor_77, u_Wo_factor_78, u_Wo_factor_79, u_Wo_factor_82, u_Wo_factor_83, u_Wo_factor_84, u_Wo_factor_86, u_Wo_factor_89, u_Wo_factor_90, u_Wo_factor_93, u_Wo_factor_94, u_Wo_factor_95, u_Wo_factor_97, u_Wo_factor_100, u_Wo_factor_101, u_Wo_factor_102, u_Wo_factor_103, u_Wo_factor_104, u_Wo_factor_107, u_Wo_factor_108, u_Wo_factor_109, u_Wo_factor_110, u_Wo_factor_111, u_Wo_factor_112, u_Wo_factor_113, u_Wo_factor_116, h1_149, gt_149_7, pt_149_7, gt_149_5, pt_149_5, gt_149_6, pt_149_6, xT_0, xT_h1, ne_eq, not_false_eq_true, not_true_eq_false, true_and, and_true, true_or, or_true, eq_self, Option.toList_some, Option.toList_none, List.cons_append, List.nil_append, tc_0, tc_I, tc_L, tc_A, Nat.reduceAdd, Nat.reduceLeDiff, Nat.reduceEqDiff, Int.reduceEq, Int.reduceLT, Int.reduceLE, Int.reduceNeg, Int.reduceToNat, Int.cast_ofNat_Int, if_true, if_false, and_self, or_self, ite_self, bI_0, bI_1, bI_01, Bool.false_eq_true, reduceCtorEq]; exact hQ2 f' a1 a2 a3 a4
  | .inr r, hx, hs, hQ =>
    obtain ⟨hv, hs⟩ := seg_hd hs
    obtain ⟨hv2, hs'⟩ := seg_hd hs
    have hj := seg_len hs
    simp at hj
    subst hj
    have hlt := tok_ne (show ¬ tok t a i = 0 by omega)
    have wi : w32 (i + 1) = i + 1 := w32_id (by omega) (by omega)
    have p1 : kNum 35 = false := by decide
    have p2 : kName 35 = false := by decide
    have p3 : kRow 35 = false := by decide
    simp only [u_Wo_factor_0, u_Wo_factor_1, u_Wo_factor_4, u_Wo_factor_7, u_Wo_factor_8, u_Wo_factor_10, u_Wo_factor_13, u_Wo_factor_14, u_Wo_factor_15, u_Wo_factor_16, u_Wo_factor_19, u_Wo_factor_20, u_Wo_factor_23, u_Wo_factor_26, u_Wo_factor_27, u_Wo_factor_28, u_Wo_factor_29, u_Wo_factor_32, u_Wo_factor_33, u_Wo_factor_34, u_Wo_factor_37, u_Wo_factor_38, u_Wo_factor_41, u_Wo_factor_44, u_Wo_factor_45, u_Wo_factor_48, u_Wo_factor_49, u_Wo_factor_50, u_Wo_factor_51, u_Wo_factor_54, u_Wo_factor_57, u_Wo_factor_58, u_Wo_factor_59, u_Wo_factor_61, u_Wo_factor_62, u_Wo_factor_65, u_Wo_factor_66, u_Wo_factor_67, u_Wo_factor_70, u_Wo_factor_73, u_Wo_factor_74, u_Wo_factor_75, u_Wo_factor_77, u_Wo_factor_78, u_Wo_factor_79, u_Wo_factor_82, u_Wo_factor_83, u_Wo_factor_84, u_Wo_factor_86, u_Wo_factor_89, u_Wo_factor_90, u_Wo_factor_93, u_Wo_factor_94, u_Wo_factor_95, u_Wo_factor_97, u_Wo_factor_100, u_Wo_factor_101, u_Wo_factor_102, u_Wo_factor_103, u_Wo_factor_104, u_Wo_factor_107, u_Wo_factor_108, u_Wo_factor_109, u_Wo_factor_110, u_Wo_factor_111, u_Wo_factor_112, u_Wo_factor_113, u_Wo_factor_116, h1_149, gt_149_7, pt_149_7, gt_149_5, pt_149_5, gt_149_6, pt_149_6, xT_0, xT_h1, ne_eq, not_false_eq_true, not_true_eq_false, true_and, and_true, true_or, or_true, eq_self, Option.toList_some, Option.toList_none, List.cons_append, List.nil_append, tc_0, tc_I, tc_L, tc_A, Nat.reduceAdd, Nat.reduceLeDiff, Nat.reduceEqDiff, Int.reduceEq, Int.reduceLT, Int.reduceLE, Int.reduceNeg, Int.reduceToNat, Int.cast_ofNat_Int, if_true, if_false, and_self, or_self, ite_self, bI_0, bI_1, bI_01, Bool.false_eq_true, reduceCtorEq, h7, show δ ≤ 12 from h12, h5, hT, s_Tx_token hT hl, h6, wi, s_Tk_isNumber, hv, p1, p2, p3, bB_f, s_Tk_isName, s_Tk_isRow]
    refine p_Wo_readCount (D := D) (i := i + 1) hT hl (EnC_FW hE hF1) (WS_m hW (by omega)) e5 e6 e7 (by omega) (by rw [hv2]; exact hx) ?_
    rw [hv2]
    have e : vL E (.inr r) = (match E.2.1 (r - 65) with
        | none => .error 2
        | some n => .ok (n, [])) := by unfold vL; dsimp only; cases E.2.1 (r - 65) <;> rfl
    have hQ2 : VQ (mset f 149 6 (i + 1)) N I t g (i + 1 + 1) Q (vL E (.inr r)) := VQ_FW hF1 hQ
    rw [e] at hQ2
    cases hc : E.2.1 (r - 65) with
    | none => rw [hc] at hQ2; intro f' v' a1 a2 a3; simp only [u_Wo_factor_0, u_Wo_factor_1, u_Wo_factor_4, u_Wo_factor_7, u_Wo_factor_8, u_Wo_factor_10, u_Wo_factor_13, u_Wo_factor_14, u_Wo_factor_15, u_Wo_factor_16, u_Wo_factor_19, u_Wo_factor_20, u_Wo_factor_23, u_Wo_factor_26, u_Wo_factor_27, u_Wo_factor_28, u_Wo_factor_29, u_Wo_factor_32, u_Wo_factor_33, u_Wo_factor_34, u_Wo_factor_37, u_Wo_factor_38, u_Wo_factor_41, u_Wo_factor_44, u_Wo_factor_45, u_Wo_factor_48, u_Wo_factor_49, u_Wo_factor_50, u_Wo_factor_51, u_Wo_factor_54, u_Wo_factor_57, u_Wo_factor_58, u_Wo_factor_59, u_Wo_factor_61, u_Wo_factor_62, u_Wo_factor_65, u_Wo_factor_66, u_Wo_factor_67, u_Wo_factor_70, u_Wo_factor_73, u_Wo_factor_74, u_Wo_factor_75, u_Wo_factor_77, u_Wo_factor_78, u_Wo_factor_79, u_Wo_factor_82, u_Wo_factor_83, u_Wo_factor_84, u_Wo_factor_86, u_Wo_factor_89, u_Wo_factor_90, u_Wo_factor_93, u_Wo_factor_94, u_Wo_factor_95, u_Wo_factor_97, u_Wo_factor_100, u_Wo_factor_101, u_Wo_factor_102, u_Wo_factor_103, u_Wo_factor_104, u_Wo_factor_107, u_Wo_factor_108, u_Wo_factor_109, u_Wo_factor_110, u_Wo_factor_111, u_Wo_factor_112, u_Wo_factor_113, u_Wo_factor_116, h1_149, gt_149_7, pt_149_7, gt_149_5, pt_149_5, gt_149_6, pt_149_6, xT_0, xT_h1, ne_eq, not_false_eq_true, not_true_eq_false, true_and, and_true, true_or, or_true, eq_self, Option.toList_some, Option.toList_none, List.cons_append, List.nil_append, tc_0, tc_I, tc_L, tc_A, Nat.reduceAdd, Nat.reduceLeDiff, Nat.reduceEqDiff, Int.reduceEq, Int.reduceLT, Int.reduceLE, Int.reduceNeg, Int.reduceToNat, Int.cast_ofNat_Int, if_true, if_false, and_self, or_self, ite_self, bI_0, bI_1, bI_01, Bool.false_eq_true, reduceCtorEq]; exact hQ2 f' v' a1 a2 a3
    | some u => rw [hc] at hQ2; intro f' a1 a2 a3 a4; simp only [u_Wo_factor_0, u_Wo_factor_1, u_Wo_factor_4, u_Wo_factor_7, u_Wo_factor_8, u_Wo_factor_10, u_Wo_factor_13, u_Wo_factor_14, u_Wo_factor_15, u_Wo_factor_16, u_Wo_factor_19, u_Wo_factor_20, u_Wo_factor_23, u_Wo_factor_26, u_Wo_factor_27, u_Wo_factor_28, u_Wo_factor_29, u_Wo_factor_32, u_Wo_factor_33, u_Wo_factor_34, u_Wo_factor_37, u_Wo_factor_38, u_Wo_factor_41, u_Wo_factor_44, u_Wo_factor_45, u_Wo_factor_48, u_Wo_factor_49, u_Wo_factor_50, u_Wo_factor_51, u_Wo_factor_54, u_Wo_factor_57, u_Wo_factor_58, u_Wo_factor_59, u_Wo_factor_61, u_Wo_factor_62, u_Wo_factor_65, u_Wo_factor_66, u_Wo_factor_67, u_Wo_factor_70, u_Wo_factor_73, u_Wo_factor_74, u_Wo_factor_75, u_Wo_factor_77, u_Wo_factor_78, u_Wo_factor_79, u_Wo_factor_82, u_Wo_factor_83, u_Wo_factor_84, u_Wo_factor_86, u_Wo_factor_89, u_Wo_factor_90, u_Wo_factor_93, u_Wo_factor_94, u_Wo_factor_95, u_Wo_factor_97, u_Wo_factor_100, u_Wo_factor_101, u_Wo_factor_102, u_Wo_factor_103, u_Wo_factor_104, u_Wo_factor_107, u_Wo_factor_108, u_Wo_factor_109, u_Wo_factor_110, u_Wo_factor_111, u_Wo_factor_112, u_Wo_factor_113, u_Wo_factor_116, h1_149, gt_149_7, pt_149_7, gt_149_5, pt_149_5, gt_149_6, pt_149_6, xT_0, xT_h1, ne_eq, not_false_eq_true, not_true_eq_false, true_and, and_true, true_or, or_true, eq_self, Option.toList_some, Option.toList_none, List.cons_append, List.nil_append, tc_0, tc_I, tc_L, tc_A, Nat.reduceAdd, Nat.reduceLeDiff, Nat.reduceEqDiff, Int.reduceEq, Int.reduceLT, Int.reduceLE, Int.reduceNeg, Int.reduceToNat, Int.cast_ofNat_Int, if_true, if_false, and_self, or_self, ite_self, bI_0, bI_1, bI_01, Bool.false_eq_true, reduceCtorEq]; exact hQ2 f' a1 a2 a3 a4
theorem vI_1 {E : Env} {r : Int} {R : Rs} : vI E r R = (match R with
  | .error e => .error e
  | .ok (i, q) => match E.2.1 r with
    | none => .error 2
    | some n => if i < 0 ∨ n ≤ i then .error 3 else .ok (i, q)) := by
  cases R <;> rfl
/-- which item is told -/
def VI (f : Mem) (N : Nat) (I : Nat → Nat) (t g : Mem) (j : Int) (Q : Option TV → Wd → Prop) : Rs → Prop
  | .ok (v, q) => ∀ f', FW f f' → f' 149 6 = j → f' 149 7 = 0 → WS f' (snN N q) (snI (hld f) I q) → Q (some (tI v)) (WW f' t g)
  | .error w => ∀ f' v, FW f f' → f' 149 7 = w → ¬ w = 0 → Q (some (tI v)) (WW f' t g)
theorem l_ia {r n u : Int} {l4 : Option TV} : VV L (D + 1) m_Wo_itemAhead 38 [some (tA 149), some (tI r), some (tI δ), some (tL u), l4, some (tI n)] [] (WW f t g) Q = if f 149 7 = 0 then (if n = -1 then Q (some (tI (-1))) (WW (mset f 149 7 2) t g) else if u < 0 ∨ ctS f n ≤ u then Q (some (tI (-1))) (WW (mset f 149 7 3) t g) else Q (some (tI (w32 u))) (WW f t g)) else Q (some (tI (-1))) (WW f t g) := by
  have h75 : ∀ f', ¬ f' 149 7 = 0 → VV L (D + 1) m_Wo_itemAhead 75 [some (tA 149), some (tI r), some (tI δ), some (tL u), l4, some (tI n)] [] (WW f' t g) Q = Q (some (tI (-1))) (WW f' t g) := by
    intro f' h
    simp only [u_Wo_itemAhead_75, u_Wo_itemAhead_76, u_Wo_itemAhead_79, u_Wo_itemAhead_82, u_Wo_itemAhead_83, u_Wo_itemAhead_84, u_Wo_itemAhead_87, u_Wo_itemAhead_88, h1_149, gt_149_7, ne_eq, not_false_eq_true, not_true_eq_false, true_and, and_true, true_or, or_true, eq_self, Option.toList_some, Option.toList_none, List.cons_append, List.nil_append, tc_0, tc_I, tc_L, tc_A, Nat.reduceAdd, Nat.reduceLeDiff, Nat.reduceEqDiff, Int.reduceEq, Int.reduceLT, Int.reduceLE, Int.reduceNeg, Int.reduceToNat, Int.cast_ofNat_Int, if_true, if_false, and_self, or_self, ite_self, bI_0, bI_1, bI_01, Bool.false_eq_true, reduceCtorEq, h]
  have h49 : ∀ f', ¬ f' 149 7 = 0 → VV L (D + 1) m_Wo_itemAhead 49 [some (tA 149), some (tI r), some (tI δ), some (tL u), l4, some (tI n)] [] (WW f' t g) Q = Q (some (tI (-1))) (WW f' t g) := by
    intro f' h
    by_cases h1 : u < 0
    · simp only [u_Wo_itemAhead_49, u_Wo_itemAhead_50, u_Wo_itemAhead_51, u_Wo_itemAhead_52, u_Wo_itemAhead_55, u_Wo_itemAhead_56, u_Wo_itemAhead_57, u_Wo_itemAhead_60, u_Wo_itemAhead_62, u_Wo_itemAhead_65, u_Wo_itemAhead_66, u_Wo_itemAhead_67, u_Wo_itemAhead_70, u_Wo_itemAhead_71, u_Wo_itemAhead_72, h1_149, h1_28, gt_149_1, ne_eq, not_false_eq_true, not_true_eq_false, true_and, and_true, true_or, or_true, eq_self, Option.toList_some, Option.toList_none, List.cons_append, List.nil_append, tc_0, tc_I, tc_L, tc_A, Nat.reduceAdd, Nat.reduceLeDiff, Nat.reduceEqDiff, Int.reduceEq, Int.reduceLT, Int.reduceLE, Int.reduceNeg, Int.reduceToNat, Int.cast_ofNat_Int, if_true, if_false, and_self, or_self, ite_self, bI_0, bI_1, bI_01, Bool.false_eq_true, reduceCtorEq, lc_lt, h1, s_Wo_refuse, h, h75 f' h]
    · by_cases h2 : u < ctS f' n
      · simp only [u_Wo_itemAhead_49, u_Wo_itemAhead_50, u_Wo_itemAhead_51, u_Wo_itemAhead_52, u_Wo_itemAhead_55, u_Wo_itemAhead_56, u_Wo_itemAhead_57, u_Wo_itemAhead_60, u_Wo_itemAhead_62, u_Wo_itemAhead_65, u_Wo_itemAhead_66, u_Wo_itemAhead_67, u_Wo_itemAhead_70, u_Wo_itemAhead_71, u_Wo_itemAhead_72, h1_149, h1_28, gt_149_1, ne_eq, not_false_eq_true, not_true_eq_false, true_and, and_true, true_or, or_true, eq_self, Option.toList_some, Option.toList_none, List.cons_append, List.nil_append, tc_0, tc_I, tc_L, tc_A, Nat.reduceAdd, Nat.reduceLeDiff, Nat.reduceEqDiff, Int.reduceEq, Int.reduceLT, Int.reduceLE, Int.reduceNeg, Int.reduceToNat, Int.cast_ofNat_Int, if_true, if_false, and_self, or_self, ite_self, bI_0, bI_1, bI_01, Bool.false_eq_true, reduceCtorEq, lc_lt, h1, s_Sf_countOf, h2, s_Wo_refuse, h, h75 f' h]
      · simp only [u_Wo_itemAhead_49, u_Wo_itemAhead_50, u_Wo_itemAhead_51, u_Wo_itemAhead_52, u_Wo_itemAhead_55, u_Wo_itemAhead_56, u_Wo_itemAhead_57, u_Wo_itemAhead_60, u_Wo_itemAhead_62, u_Wo_itemAhead_65, u_Wo_itemAhead_66, u_Wo_itemAhead_67, u_Wo_itemAhead_70, u_Wo_itemAhead_71, u_Wo_itemAhead_72, h1_149, h1_28, gt_149_1, ne_eq, not_false_eq_true, not_true_eq_false, true_and, and_true, true_or, or_true, eq_self, Option.toList_some, Option.toList_none, List.cons_append, List.nil_append, tc_0, tc_I, tc_L, tc_A, Nat.reduceAdd, Nat.reduceLeDiff, Nat.reduceEqDiff, Int.reduceEq, Int.reduceLT, Int.reduceLE, Int.reduceNeg, Int.reduceToNat, Int.cast_ofNat_Int, if_true, if_false, and_self, or_self, ite_self, bI_0, bI_1, bI_01, Bool.false_eq_true, reduceCtorEq, lc_lt, h1, s_Sf_countOf, h2, s_Wo_refuse, h, h75 f' h]
  by_cases h7 : f 149 7 = 0
  · rw [if_pos h7]
    by_cases hn : n = -1
    · rw [if_pos hn]
      have e : ¬ (mset f 149 7 2) 149 7 = 0 := by rw [rd, if_pos (by simp)]; omega
      simp only [u_Wo_itemAhead_38, u_Wo_itemAhead_40, u_Wo_itemAhead_41, u_Wo_itemAhead_44, u_Wo_itemAhead_45, u_Wo_itemAhead_46, h1_149, ne_eq, not_false_eq_true, not_true_eq_false, true_and, and_true, true_or, or_true, eq_self, Option.toList_some, Option.toList_none, List.cons_append, List.nil_append, tc_0, tc_I, tc_L, tc_A, Nat.reduceAdd, Nat.reduceLeDiff, Nat.reduceEqDiff, Int.reduceEq, Int.reduceLT, Int.reduceLE, Int.reduceNeg, Int.reduceToNat, Int.cast_ofNat_Int, if_true, if_false, and_self, or_self, ite_self, bI_0, bI_1, bI_01, Bool.false_eq_true, reduceCtorEq, hn, s_Wo_refuse, h7]
      rw [hn] at h49
      exact h49 _ e
    · rw [if_neg hn]
      have e : ¬ (mset f 149 7 3) 149 7 = 0 := by rw [rd, if_pos (by simp)]; omega
      by_cases h1 : u < 0
      · rw [if_pos (Or.inl h1)]
        simp only [u_Wo_itemAhead_38, u_Wo_itemAhead_40, u_Wo_itemAhead_41, u_Wo_itemAhead_44, u_Wo_itemAhead_45, u_Wo_itemAhead_46, u_Wo_itemAhead_49, u_Wo_itemAhead_50, u_Wo_itemAhead_51, u_Wo_itemAhead_52, u_Wo_itemAhead_55, u_Wo_itemAhead_56, u_Wo_itemAhead_57, u_Wo_itemAhead_60, u_Wo_itemAhead_62, u_Wo_itemAhead_65, u_Wo_itemAhead_66, u_Wo_itemAhead_67, u_Wo_itemAhead_70, u_Wo_itemAhead_71, u_Wo_itemAhead_72, h1_149, h1_28, gt_149_1, ne_eq, not_false_eq_true, not_true_eq_false, true_and, and_true, true_or, or_true, eq_self, Option.toList_some, Option.toList_none, List.cons_append, List.nil_append, tc_0, tc_I, tc_L, tc_A, Nat.reduceAdd, Nat.reduceLeDiff, Nat.reduceEqDiff, Int.reduceEq, Int.reduceLT, Int.reduceLE, Int.reduceNeg, Int.reduceToNat, Int.cast_ofNat_Int, if_true, if_false, and_self, or_self, ite_self, bI_0, bI_1, bI_01, Bool.false_eq_true, reduceCtorEq, hn, lc_lt, h1, s_Wo_refuse, h7, h75 _ e]
      · by_cases h2 : u < ctS f n
        · rw [if_neg (by omega)]
          simp only [u_Wo_itemAhead_38, u_Wo_itemAhead_40, u_Wo_itemAhead_41, u_Wo_itemAhead_44, u_Wo_itemAhead_45, u_Wo_itemAhead_46, u_Wo_itemAhead_49, u_Wo_itemAhead_50, u_Wo_itemAhead_51, u_Wo_itemAhead_52, u_Wo_itemAhead_55, u_Wo_itemAhead_56, u_Wo_itemAhead_57, u_Wo_itemAhead_60, u_Wo_itemAhead_62, u_Wo_itemAhead_65, u_Wo_itemAhead_66, u_Wo_itemAhead_67, u_Wo_itemAhead_70, u_Wo_itemAhead_71, u_Wo_itemAhead_72, u_Wo_itemAhead_75, u_Wo_itemAhead_76, u_Wo_itemAhead_79, u_Wo_itemAhead_82, u_Wo_itemAhead_83, u_Wo_itemAhead_84, u_Wo_itemAhead_87, u_Wo_itemAhead_88, h1_149, h1_28, gt_149_1, gt_149_7, ne_eq, not_false_eq_true, not_true_eq_false, true_and, and_true, true_or, or_true, eq_self, Option.toList_some, Option.toList_none, List.cons_append, List.nil_append, tc_0, tc_I, tc_L, tc_A, Nat.reduceAdd, Nat.reduceLeDiff, Nat.reduceEqDiff, Int.reduceEq, Int.reduceLT, Int.reduceLE, Int.reduceNeg, Int.reduceToNat, Int.cast_ofNat_Int, if_true, if_false, and_self, or_self, ite_self, bI_0, bI_1, bI_01, Bool.false_eq_true, reduceCtorEq, hn, lc_lt, h1, s_Sf_countOf, h2, h7]
        · rw [if_pos (Or.inr (by omega))]
          simp only [u_Wo_itemAhead_38, u_Wo_itemAhead_40, u_Wo_itemAhead_41, u_Wo_itemAhead_44, u_Wo_itemAhead_45, u_Wo_itemAhead_46, u_Wo_itemAhead_49, u_Wo_itemAhead_50, u_Wo_itemAhead_51, u_Wo_itemAhead_52, u_Wo_itemAhead_55, u_Wo_itemAhead_56, u_Wo_itemAhead_57, u_Wo_itemAhead_60, u_Wo_itemAhead_62, u_Wo_itemAhead_65, u_Wo_itemAhead_66, u_Wo_itemAhead_67, u_Wo_itemAhead_70, u_Wo_itemAhead_71, u_Wo_itemAhead_72, h1_149, h1_28, gt_149_1, ne_eq, not_false_eq_true, not_true_eq_false, true_and, and_true, true_or, or_true, eq_self, Option.toList_some, Option.toList_none, List.cons_append, List.nil_append, tc_0, tc_I, tc_L, tc_A, Nat.reduceAdd, Nat.reduceLeDiff, Nat.reduceEqDiff, Int.reduceEq, Int.reduceLT, Int.reduceLE, Int.reduceNeg, Int.reduceToNat, Int.cast_ofNat_Int, if_true, if_false, and_self, or_self, ite_self, bI_0, bI_1, bI_01, Bool.false_eq_true, reduceCtorEq, hn, lc_lt, h1, s_Sf_countOf, h2, s_Wo_refuse, h7, h75 _ e]
  · rw [if_neg h7]
    by_cases hn : n = -1
    · simp only [u_Wo_itemAhead_38, u_Wo_itemAhead_40, u_Wo_itemAhead_41, u_Wo_itemAhead_44, u_Wo_itemAhead_45, u_Wo_itemAhead_46, h1_149, ne_eq, not_false_eq_true, not_true_eq_false, true_and, and_true, true_or, or_true, eq_self, Option.toList_some, Option.toList_none, List.cons_append, List.nil_append, tc_0, tc_I, tc_L, tc_A, Nat.reduceAdd, Nat.reduceLeDiff, Nat.reduceEqDiff, Int.reduceEq, Int.reduceLT, Int.reduceLE, Int.reduceNeg, Int.reduceToNat, Int.cast_ofNat_Int, if_true, if_false, and_self, or_self, ite_self, bI_0, bI_1, bI_01, Bool.false_eq_true, reduceCtorEq, hn, s_Wo_refuse, h7]
      rw [hn] at h49
      exact h49 f h7
    · simp only [u_Wo_itemAhead_38, u_Wo_itemAhead_40, u_Wo_itemAhead_41, u_Wo_itemAhead_44, u_Wo_itemAhead_45, u_Wo_itemAhead_46, h1_149, ne_eq, not_false_eq_true, not_true_eq_false, true_and, and_true, true_or, or_true, eq_self, Option.toList_some, Option.toList_none, List.cons_append, List.nil_append, tc_0, tc_I, tc_L, tc_A, Nat.reduceAdd, Nat.reduceLeDiff, Nat.reduceEqDiff, Int.reduceEq, Int.reduceLT, Int.reduceLE, Int.reduceNeg, Int.reduceToNat, Int.cast_ofNat_Int, if_true, if_false, and_self, or_self, ite_self, bI_0, bI_1, bI_01, Bool.false_eq_true, reduceCtorEq, hn]
      exact h49 f h7
theorem p_Wo_itemAhead {F : Type} {kf : F → List Int} {wf : F → Prop} {vf : Env → F → Rs} (hT : isT a) (hl : t a 1 ≤ 1000) (h0 : 0 ≤ δ) (h12 : δ ≤ 100) (hF : ∀ x : Exq F, wE wf x → VFs L (D + 1) a t g m_Wo_sum [none, none, none, none, none, none] (δ + 1) (kE kf x) (fun E => vE (vf E) x) (fun v => kSum v = false ∧ kPro v = false)) (e : Exq F) (he : wE wf e) {r : Nat} (hr : r < 6) : ∀ (f : Mem) (E : Env) (N : Nat) (I : Nat → Nat) (i j : Int) (Q : Option TV → Wd → Prop), EnC f E → WS f N I → (f 149 5).toNat = a → f 149 6 = i → f 149 7 = 0 → 0 ≤ i → tok t a i = 91 → seg (tok t a) (i + 1) j (kE kf e) → tok t a j = 93 → VI f N I t g (j + 1) Q (vI E r (vE (vf E) e)) → VV L (D + 2) m_Wo_itemAhead 0 [some (tA 149), some (tI r), some (tI δ), none, none, none] [] (WW f t g) Q := by
  intro f E N I i j Q hE hW h5 h6 h7 hi h91 hs h93 hQ
  have hlt := tok_ne (show ¬ tok t a i = 0 by omega)
  have hjt := tok_ne (show ¬ tok t a j = 0 by omega)
  have wi : w32 (i + 1) = i + 1 := w32_id (by omega) (by omega)
  have wj : w32 (j + 1) = j + 1 := w32_id (by omega) (by omega)
  have wd : w32 (δ + 1) = δ + 1 := w32_id (by omega) (by omega)
  have hF1 : FW f (mset f 149 6 (i + 1)) := FW_m (by omega)
  have e5 : ((mset f 149 6 (i + 1)) 149 5).toNat = a := by rw [rd, if_neg (by omega)]; exact h5
  have e6 : (mset f 149 6 (i + 1)) 149 6 = i + 1 := by rw [rd, if_pos (by simp)]
  have e7 : (mset f 149 6 (i + 1)) 149 7 = 0 := by rw [rd, if_neg (by omega)]; exact h7
  simp only [u_Wo_itemAhead_0, u_Wo_itemAhead_1, u_Wo_itemAhead_2, u_Wo_itemAhead_5, u_Wo_itemAhead_6, u_Wo_itemAhead_7, u_Wo_itemAhead_10, u_Wo_itemAhead_11, u_Wo_itemAhead_12, u_Wo_itemAhead_13, u_Wo_itemAhead_14, u_Wo_itemAhead_17, u_Wo_itemAhead_18, u_Wo_itemAhead_19, u_Wo_itemAhead_20, u_Wo_itemAhead_23, u_Wo_itemAhead_24, u_Wo_itemAhead_25, u_Wo_itemAhead_28, u_Wo_itemAhead_29, u_Wo_itemAhead_32, u_Wo_itemAhead_33, u_Wo_itemAhead_36, u_Wo_itemAhead_38, u_Wo_itemAhead_40, u_Wo_itemAhead_41, u_Wo_itemAhead_44, u_Wo_itemAhead_45, u_Wo_itemAhead_46, u_Wo_itemAhead_49, u_Wo_itemAhead_50, u_Wo_itemAhead_51, u_Wo_itemAhead_52, u_Wo_itemAhead_55, u_Wo_itemAhead_56, u_Wo_itemAhead_57, u_Wo_itemAhead_60, u_Wo_itemAhead_62, u_Wo_itemAhead_65, u_Wo_itemAhead_66, u_Wo_itemAhead_67, u_Wo_itemAhead_70, u_Wo_itemAhead_71, u_Wo_itemAhead_72, u_Wo_itemAhead_75, u_Wo_itemAhead_76, u_Wo_itemAhead_79, u_Wo_itemAhead_82, u_Wo_itemAhead_83, u_Wo_itemAhead_84, u_Wo_itemAhead_87, u_Wo_itemAhead_88, h1_149, gt_149_6, pt_149_6, gt_149_1, h1_28, gt_149_7, pt_149_7, ne_eq, not_false_eq_true, not_true_eq_false, true_and, and_true, true_or, or_true, eq_self, Option.toList_some, Option.toList_none, List.cons_append, List.nil_append, tc_0, tc_I, tc_L, tc_A, Nat.reduceAdd, Nat.reduceLeDiff, Nat.reduceEqDiff, Int.reduceEq, Int.reduceLT, Int.reduceLE, Int.reduceNeg, Int.reduceToNat, Int.cast_ofNat_Int, if_true, if_false, and_self, or_self, ite_self, bI_0, bI_1, bI_01, Bool.false_eq_true, reduceCtorEq, h6, wi, wd]
  refine hF e he _ E N I (i + 1) j _ (EnC_FW hE hF1) (WS_m hW (by omega)) e5 e6 e7 (by omega) hs (by rw [h93]; decide) ?_
  show VQ _ _ _ _ _ _ _ (vE (vf E) e)
  rw [vI_1] at hQ
  have hrw : ∀ f', FW f f' → rwH f' r = f 29 r := fun f' h => by unfold rwH; rw [if_pos (by omega), Int.toNat_natCast]; exact h 29 r (by omega)
  cases hv : vE (vf E) e with
  | error w =>
    rw [hv] at hQ
    intro f1 u a1 a2 a3
    have b1 : FW f (mset f1 149 6 (w32 (f1 149 6 + 1))) := FW_tr (FW_tr hF1 a1) (FW_m (by omega))
    have b7 : (mset f1 149 6 (w32 (f1 149 6 + 1))) 149 7 = w := by rw [rd, if_neg (by omega)]; exact a2
    simp only [u_Wo_itemAhead_0, u_Wo_itemAhead_1, u_Wo_itemAhead_2, u_Wo_itemAhead_5, u_Wo_itemAhead_6, u_Wo_itemAhead_7, u_Wo_itemAhead_10, u_Wo_itemAhead_11, u_Wo_itemAhead_12, u_Wo_itemAhead_13, u_Wo_itemAhead_14, u_Wo_itemAhead_17, u_Wo_itemAhead_18, u_Wo_itemAhead_19, u_Wo_itemAhead_20, u_Wo_itemAhead_23, u_Wo_itemAhead_24, u_Wo_itemAhead_25, u_Wo_itemAhead_28, u_Wo_itemAhead_29, u_Wo_itemAhead_32, u_Wo_itemAhead_33, u_Wo_itemAhead_36, h1_149, gt_149_6, pt_149_6, gt_149_1, h1_28, gt_149_7, pt_149_7, ne_eq, not_false_eq_true, not_true_eq_false, true_and, and_true, true_or, or_true, eq_self, Option.toList_some, Option.toList_none, List.cons_append, List.nil_append, tc_0, tc_I, tc_L, tc_A, Nat.reduceAdd, Nat.reduceLeDiff, Nat.reduceEqDiff, Int.reduceEq, Int.reduceLT, Int.reduceLE, Int.reduceNeg, Int.reduceToNat, Int.cast_ofNat_Int, if_true, if_false, and_self, or_self, ite_self, bI_0, bI_1, bI_01, Bool.false_eq_true, reduceCtorEq, s_Sf_heldByRow, hrw _ b1]
    refine Eq.mpr (l_ia (D := D + 1)) ?_
    rw [if_neg (by rw [b7]; exact a3)]
    exact hQ _ _ b1 b7 a3
  | ok z =>
    obtain ⟨u, q⟩ := z
    rw [hv] at hQ
    dsimp only at hQ
    intro f1 a1 a2 a3 a4
    have b1 : FW f (mset f1 149 6 (j + 1)) := FW_tr (FW_tr hF1 a1) (FW_m (by omega))
    have b6 : (mset f1 149 6 (j + 1)) 149 6 = j + 1 := by rw [rd, if_pos (by simp)]
    have b7 : (mset f1 149 6 (j + 1)) 149 7 = 0 := by rw [rd, if_neg (by omega)]; exact a3
    have hh : hld (mset f 149 6 (i + 1)) = hld f := hld_FW hF1
    rw [hh] at a4
    simp only [u_Wo_itemAhead_0, u_Wo_itemAhead_1, u_Wo_itemAhead_2, u_Wo_itemAhead_5, u_Wo_itemAhead_6, u_Wo_itemAhead_7, u_Wo_itemAhead_10, u_Wo_itemAhead_11, u_Wo_itemAhead_12, u_Wo_itemAhead_13, u_Wo_itemAhead_14, u_Wo_itemAhead_17, u_Wo_itemAhead_18, u_Wo_itemAhead_19, u_Wo_itemAhead_20, u_Wo_itemAhead_23, u_Wo_itemAhead_24, u_Wo_itemAhead_25, u_Wo_itemAhead_28, u_Wo_itemAhead_29, u_Wo_itemAhead_32, u_Wo_itemAhead_33, u_Wo_itemAhead_36, h1_149, gt_149_6, pt_149_6, gt_149_1, h1_28, gt_149_7, pt_149_7, ne_eq, not_false_eq_true, not_true_eq_false, true_and, and_true, true_or, or_true, eq_self, Option.toList_some, Option.toList_none, List.cons_append, List.nil_append, tc_0, tc_I, tc_L, tc_A, Nat.reduceAdd, Nat.reduceLeDiff, Nat.reduceEqDiff, Int.reduceEq, Int.reduceLT, Int.reduceLE, Int.reduceNeg, Int.reduceToNat, Int.cast_ofNat_Int, if_true, if_false, and_self, or_self, ite_self, bI_0, bI_1, bI_01, Bool.false_eq_true, reduceCtorEq, a2, wj, s_Sf_heldByRow, hrw _ b1]
    refine Eq.mpr (l_ia (D := D + 1)) ?_
    rw [if_pos b7]
    rcases hE.r r hr with ⟨n1, n2⟩ | ⟨n1, n3, n2⟩
    · rw [n2] at hQ
      rw [if_pos n1]
      exact hQ _ _ (FW_tr b1 (FW_m (by omega))) (by rw [rd, if_pos (by simp)]) (by omega)
    · rw [n2] at hQ
      dsimp only at hQ
      have hc := hE.c (f 29 r).toNat (by omega)
      have hct : ctS (mset f1 149 6 (j + 1)) (f 29 r) = f 32 (f 29 r).toNat := by unfold ctS; rw [if_pos ⟨n1, n3⟩]; exact b1 32 _ (by omega)
      rw [if_neg (by omega), hct]
      by_cases hb : u < 0 ∨ f 32 (f 29 r).toNat ≤ u
      · rw [if_pos hb] at hQ
        rw [if_pos hb]
        exact hQ _ _ (FW_tr b1 (FW_m (by omega))) (by rw [rd, if_pos (by simp)]) (by omega)
      · rw [if_neg hb] at hQ
        rw [if_neg hb, w32_id (by omega) (by omega)]
        exact hQ _ b1 b6 b7 (WS_m a4 (by omega))
end
