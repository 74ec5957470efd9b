/-! Worth: factor by induction; sumAt -/
section
variable {L a : Nat} {t g : Mem}
theorem p_Wo_factor (hT : isT a) (hl : t a 1 ≤ 1000) : ∀ (b D : Nat) (δ : Int), 0 ≤ δ → δ + b ≤ 12 → 5 * b + 4 ≤ D → ∀ x : FF b, wF b x → VFs L D a t g m_Wo_factor [none] δ (kF b x) (fun E => vF E b x) (fun _ => True) := by
  intro b
  induction b with
  | zero =>
    intro D δ h0 h12 hD x hx
    obtain ⟨d, rfl⟩ : ∃ d, D = d + 2 := ⟨D - 2, by omega⟩
    exact p_Wo_leaf hT hl h0 (by omega) x hx
  | succ b ih =>
    intro D δ h0 h12 hD x hx
    obtain ⟨d, rfl⟩ : ∃ d, D = d + 7 := ⟨D - 7, by omega⟩
    match x, hx with
    | .inl x, hx => exact p_Wo_leaf hT hl h0 (by omega) x hx
    | .inr y, hx =>
      have hsum : ∀ (D' : Nat) (δ' : Int), 0 ≤ δ' → δ' + b ≤ 12 → 5 * b + 4 ≤ D' + 1 → ∀ x : Exq (FF b), wE (wF b) x → VFs L (D' + 3) a t g m_Wo_sum [none, none, none, none, none, none] δ' (kE (kF b) x) (fun E => vE (vF E b) x) (fun v => kSum v = false ∧ kPro v = false) := fun D' δ' h1 h2 h3 => p_Wo_sum hT hl (ih (D' + 1) δ' h1 h2 h3)
      intro f E N I i j Q hE hW h5 h6 h7 hi hs _ hQ
      have hF1 : FW f (mset f 149 6 (i + 1)) := FW_m (by omega)
      have e5 : ((mset f 149 6 (i + 1)) 149 5).toNat = a := by rw [rd, if_neg (by omega)]; exact h5
      have e6 : (mset f 149 6 (i + 1)) 149 6 = i + 1 := by rw [rd, if_pos (by simp)]
      have e7 : (mset f 149 6 (i + 1)) 149 7 = 0 := by rw [rd, if_neg (by omega)]; exact h7
      have wd : w32 (δ + 1) = δ + 1 := w32_id (by omega) (by omega)
      have hd : ¬ (12 : Int) < δ := by omega
      match y, hx, hs, hQ with
      | .inl x, hx, hs, hQ =>
        obtain ⟨hv, hs⟩ := seg_hd hs
        have hlt := tok_ne (show ¬ tok t a i = 0 by omega)
        have wi : w32 (i + 1) = i + 1 := w32_id (by omega) (by omega)
        have p1 : kNum 45 = false := by decide
        have p2 : kName 45 = false := by decide
        have p3 : kRow 45 = false := by decide
        rw [u_Wo_factor_0]
        simp only [u_Wo_factor_1, u_Wo_factor_4, u_Wo_factor_7, u_Wo_factor_8, u_Wo_factor_10, u_Wo_factor_13, u_Wo_factor_14, u_Wo_factor_15, u_Wo_factor_16, u_Wo_factor_19, u_Wo_factor_20, u_Wo_factor_23, u_Wo_factor_26, u_Wo_factor_27, u_Wo_factor_28, u_Wo_factor_29, u_Wo_factor_32, u_Wo_factor_33, u_Wo_factor_34, u_Wo_factor_37, u_Wo_factor_38, u_Wo_factor_41, u_Wo_factor_44, u_Wo_factor_45, u_Wo_factor_48, u_Wo_factor_49, u_Wo_factor_50, u_Wo_factor_51, u_Wo_factor_54, u_Wo_factor_57, u_Wo_factor_58, u_Wo_factor_59, u_Wo_factor_61, u_Wo_factor_62, u_Wo_factor_65, u_Wo_factor_66, u_Wo_factor_67, u_Wo_factor_70, u_Wo_factor_73, u_Wo_factor_74, u_Wo_factor_75, u_Wo_factor_77, u_Wo_factor_78, u_Wo_factor_79, u_Wo_factor_82, u_Wo_factor_83, u_Wo_factor_84, u_Wo_factor_86, u_Wo_factor_89, u_Wo_factor_90, u_Wo_factor_93, u_Wo_factor_94, u_Wo_factor_95, u_Wo_factor_97, u_Wo_factor_100, u_Wo_factor_101, u_Wo_factor_102, u_Wo_factor_103, u_Wo_factor_104, h1_149, gt_149_7, gt_149_5, gt_149_6, pt_149_6, xT_h1, ne_eq, not_false_eq_true, not_true_eq_false, true_and, and_true, true_or, or_true, eq_self, Option.toList_some, Option.toList_none, List.cons_append, List.nil_append, tc_0, tc_I, tc_L, tc_A, Nat.reduceAdd, Nat.reduceLeDiff, Nat.reduceEqDiff, Int.reduceEq, Int.reduceLT, Int.reduceLE, Int.reduceNeg, Int.reduceToNat, Int.cast_ofNat_Int, if_true, if_false, and_self, or_self, ite_self, bI_0, bI_1, bI_01, Bool.false_eq_true, reduceCtorEq, h7, show δ ≤ 12 by omega, h5, hT, s_Tx_token hT hl, h6, wi, s_Tk_isNumber, hv, p1, p2, p3, bB_f, s_Tk_isName, s_Tk_isRow, wd]
        refine ih (d + 6) (δ + 1) (by omega) (by omega) (by omega) x hx _ E N I (i + 1) j _ (EnC_FW hE hF1) (WS_m hW (by omega)) e5 e6 e7 (by omega) hs trivial ?_
        have hQ2 : VQ (mset f 149 6 (i + 1)) N I t g j Q (match vF E b x with
          | .error e => .error e
          | .ok (v, q) => .ok (w64 (-v), q)) := VQ_FW hF1 hQ
        show VQ _ _ _ _ _ _ _ (vF E b x)
        cases hv2 : vF E b x with
        | error w => rw [hv2] at hQ2; intro f' u a1 a2 a3; simp only [u_Wo_factor_107, u_Wo_factor_108, ne_eq, not_false_eq_true, not_true_eq_false, true_and, and_true, true_or, or_true, eq_self, Option.toList_some, Option.toList_none, List.cons_append, List.nil_append, tc_0, tc_I, tc_L, tc_A, Nat.reduceAdd, Nat.reduceLeDiff, Nat.reduceEqDiff, Int.reduceEq, Int.reduceLT, Int.reduceLE, Int.reduceNeg, Int.reduceToNat, Int.cast_ofNat_Int, if_true, if_false, and_self, or_self, ite_self, bI_0, bI_1, bI_01, Bool.false_eq_true, reduceCtorEq]; exact hQ2 f' _ a1 a2 a3
        | ok z => obtain ⟨v, q⟩ := z; rw [hv2] at hQ2; intro f' a1 a2 a3 a4; simp only [u_Wo_factor_107, u_Wo_factor_108, ne_eq, not_false_eq_true, not_true_eq_false, true_and, and_true, true_or, or_true, eq_self, Option.toList_some, Option.toList_none, List.cons_append, List.nil_append, tc_0, tc_I, tc_L, tc_A, Nat.reduceAdd, Nat.reduceLeDiff, Nat.reduceEqDiff, Int.reduceEq, Int.reduceLT, Int.reduceLE, Int.reduceNeg, Int.reduceToNat, Int.cast_ofNat_Int, if_true, if_false, and_self, or_self, ite_self, bI_0, bI_1, bI_01, Bool.false_eq_true, reduceCtorEq]; exact hQ2 f' a1 a2 a3 a4
      | .inr (.inl (r, e)), hx, hs, hQ =>
        obtain ⟨hv, hs⟩ := seg_hd hs
        obtain ⟨h91, hs⟩ := seg_hd hs
        obtain ⟨hs1, hs2⟩ := seg_split hs
        obtain ⟨h93, hs3⟩ := seg_hd hs2
        have hjl := seg_len hs3
        simp at hjl
        have hrw : 65 ≤ r ∧ r ≤ 70 := by have := hx.1; unfold kRow at this; simpa using this
        have hlt := tok_ne (show ¬ tok t a i = 0 by omega)
        have wi : w32 (i + 1) = i + 1 := w32_id (by omega) (by omega)
        have p1 : kNum r = false := by unfold kNum; simp; omega
        have p2 : kName r = false := by unfold kName; simp; omega
        have p3 : kRow r = true := hx.1
        have wr : w32 (r - 65) = ((r - 65).toNat : Int) := by rw [w32_id (by omega) (by omega)]; omega
        have er : (((r - 65).toNat : Nat) : Int) = r - 65 := by omega
        simp only [u_Wo_factor_0, u_Wo_factor_1, u_Wo_factor_4, u_Wo_factor_7, u_Wo_factor_8, u_Wo_factor_10, u_Wo_factor_13, u_Wo_factor_14, u_Wo_factor_15, u_Wo_factor_16, u_Wo_factor_19, u_Wo_factor_20, u_Wo_factor_23, u_Wo_factor_26, u_Wo_factor_27, u_Wo_factor_28, u_Wo_factor_29, u_Wo_factor_32, u_Wo_factor_33, u_Wo_factor_34, u_Wo_factor_37, u_Wo_factor_38, u_Wo_factor_41, u_Wo_factor_44, u_Wo_factor_45, u_Wo_factor_48, u_Wo_factor_49, u_Wo_factor_50, u_Wo_factor_51, u_Wo_factor_54, u_Wo_factor_57, u_Wo_factor_58, u_Wo_factor_59, u_Wo_factor_61, u_Wo_factor_62, u_Wo_factor_65, u_Wo_factor_66, u_Wo_factor_67, u_Wo_factor_70, u_Wo_factor_73, u_Wo_factor_74, u_Wo_factor_75, u_Wo_factor_77, u_Wo_factor_78, u_Wo_factor_79, h1_149, gt_149_7, gt_149_5, gt_149_6, pt_149_6, xT_h1, ne_eq, not_false_eq_true, not_true_eq_false, true_and, and_true, true_or, or_true, eq_self, Option.toList_some, Option.toList_none, List.cons_append, List.nil_append, tc_0, tc_I, tc_L, tc_A, Nat.reduceAdd, Nat.reduceLeDiff, Nat.reduceEqDiff, Int.reduceEq, Int.reduceLT, Int.reduceLE, Int.reduceNeg, Int.reduceToNat, Int.cast_ofNat_Int, if_true, if_false, and_self, or_self, ite_self, bI_0, bI_1, bI_01, Bool.false_eq_true, reduceCtorEq, h7, show δ ≤ 12 by omega, h5, hT, s_Tx_token hT hl, h6, wi, s_Tk_isNumber, hv, p1, p2, p3, bB_f, bB_t, s_Tk_isName, s_Tk_isRow, wr]
        refine p_Wo_readItem (D := d + 3) hT hl h0 (by omega) (kf := kF b) (wf := wF b) (vf := fun E => vF E b) (hsum (d + 1) (δ + 1) (by omega) (by omega) (by omega)) e hx.2 (r := (r - 65).toNat) (by omega) _ E N I (i + 1) _ _ (EnC_FW hE hF1) (WS_m hW (by omega)) e5 e6 e7 (by omega) h91 hs1 h93 ?_
        have hQ2 : VQ (mset f 149 6 (i + 1)) N I t g j Q (match vI E (r - 65) (vE (vF E b) e) with
          | .error e => .error e
          | .ok (i, q) => if E.2.2.2 (r - 65) i = true then .error 6 else .ok (E.2.2.1 (r - 65) i, q ++ [(r - 65, i)])) := VQ_FW hF1 hQ
        rw [er]
        rw [hjl] at hQ2
        cases hv2 : vI E (r - 65) (vE (vF E b) e) with
        | error w => rw [hv2] at hQ2; intro f' u a1 a2 a3; simp only [u_Wo_factor_82, ne_eq, not_false_eq_true, not_true_eq_false, true_and, and_true, true_or, or_true, eq_self, Option.toList_some, Option.toList_none, List.cons_append, List.nil_append, tc_0, tc_I, tc_L, tc_A, Nat.reduceAdd, Nat.reduceLeDiff, Nat.reduceEqDiff, Int.reduceEq, Int.reduceLT, Int.reduceLE, Int.reduceNeg, Int.reduceToNat, Int.cast_ofNat_Int, if_true, if_false, and_self, or_self, ite_self, bI_0, bI_1, bI_01, Bool.false_eq_true, reduceCtorEq]; exact hQ2 f' _ a1 a2 a3
        | ok z =>
          obtain ⟨u, q⟩ := z
          rw [hv2] at hQ2
          dsimp only at hQ2 ⊢
          by_cases hb : E.2.2.2 (r - 65) u = true
          · rw [if_pos hb] at hQ2 ⊢; intro f' u a1 a2 a3; simp only [u_Wo_factor_82, ne_eq, not_false_eq_true, not_true_eq_false, true_and, and_true, true_or, or_true, eq_self, Option.toList_some, Option.toList_none, List.cons_append, List.nil_append, tc_0, tc_I, tc_L, tc_A, Nat.reduceAdd, Nat.reduceLeDiff, Nat.reduceEqDiff, Int.reduceEq, Int.reduceLT, Int.reduceLE, Int.reduceNeg, Int.reduceToNat, Int.cast_ofNat_Int, if_true, if_false, and_self, or_self, ite_self, bI_0, bI_1, bI_01, Bool.false_eq_true, reduceCtorEq]; exact hQ2 f' _ a1 a2 a3
          · rw [if_neg hb] at hQ2 ⊢; intro f' a1 a2 a3 a4; simp only [u_Wo_factor_82, ne_eq, not_false_eq_true, not_true_eq_false, true_and, and_true, true_or, or_true, eq_self, Option.toList_some, Option.toList_none, List.cons_append, List.nil_append, tc_0, tc_I, tc_L, tc_A, Nat.reduceAdd, Nat.reduceLeDiff, Nat.reduceEqDiff, Int.reduceEq, Int.reduceLT, Int.reduceLE, Int.reduceNeg, Int.reduceToNat, Int.cast_ofNat_Int, if_true, if_false, and_self, or_self, ite_self, bI_0, bI_1, bI_01, Bool.false_eq_true, reduceCtorEq]; exact hQ2 f' a1 a2 a3 a4
      | .inr (.inr (.inl e)), hx, hs, hQ =>
        obtain ⟨hv, hs⟩ := seg_hd hs
        obtain ⟨hs1, hs2⟩ := seg_split hs
        obtain ⟨h41, hs3⟩ := seg_hd hs2
        have hjl := seg_len hs3
        simp at hjl
        have hlt := tok_ne (show ¬ tok t a i = 0 by omega)
        have wi : w32 (i + 1) = i + 1 := w32_id (by omega) (by omega)
        have p1 : kNum 40 = false := by decide
        have p2 : kName 40 = false := by decide
        have p3 : kRow 40 = false := by decide
        simp only [u_Wo_factor_0, u_Wo_factor_1, u_Wo_factor_4, u_Wo_factor_7, u_Wo_factor_8, u_Wo_factor_10, u_Wo_factor_13, u_Wo_factor_14, u_Wo_factor_15, u_Wo_factor_16, u_Wo_factor_19, u_Wo_factor_20, u_Wo_factor_23, u_Wo_factor_26, u_Wo_factor_27, u_Wo_factor_28, u_Wo_factor_29, u_Wo_factor_32, u_Wo_factor_33, u_Wo_factor_34, u_Wo_factor_37, u_Wo_factor_38, u_Wo_factor_41, u_Wo_factor_44, u_Wo_factor_45, u_Wo_factor_48, u_Wo_factor_49, u_Wo_factor_50, u_Wo_factor_51, u_Wo_factor_54, u_Wo_factor_57, u_Wo_factor_58, u_Wo_factor_59, u_Wo_factor_61, u_Wo_factor_62, u_Wo_factor_65, u_Wo_factor_66, u_Wo_factor_67, u_Wo_factor_70, u_Wo_factor_73, u_Wo_factor_74, u_Wo_factor_75, u_Wo_factor_77, u_Wo_factor_78, u_Wo_factor_79, u_Wo_factor_82, u_Wo_factor_83, u_Wo_factor_84, u_Wo_factor_86, u_Wo_factor_89, u_Wo_factor_90, u_Wo_factor_93, u_Wo_factor_94, u_Wo_factor_95, u_Wo_factor_97, u_Wo_factor_100, u_Wo_factor_101, u_Wo_factor_102, u_Wo_factor_103, u_Wo_factor_104, u_Wo_factor_107, u_Wo_factor_108, u_Wo_factor_109, u_Wo_factor_110, u_Wo_factor_111, u_Wo_factor_112, u_Wo_factor_113, h1_149, gt_149_7, gt_149_5, gt_149_6, pt_149_6, xT_h1, ne_eq, not_false_eq_true, not_true_eq_false, true_and, and_true, true_or, or_true, eq_self, Option.toList_some, Option.toList_none, List.cons_append, List.nil_append, tc_0, tc_I, tc_L, tc_A, Nat.reduceAdd, Nat.reduceLeDiff, Nat.reduceEqDiff, Int.reduceEq, Int.reduceLT, Int.reduceLE, Int.reduceNeg, Int.reduceToNat, Int.cast_ofNat_Int, if_true, if_false, and_self, or_self, ite_self, bI_0, bI_1, bI_01, Bool.false_eq_true, reduceCtorEq, h7, show δ ≤ 12 by omega, h5, hT, s_Tx_token hT hl, h6, wi, s_Tk_isNumber, hv, p1, p2, p3, bB_f, s_Tk_isName, s_Tk_isRow, wd]
        refine p_Wo_readBrackets1 (D := d + 4) hT hl (kf := kF b) (wf := wF b) (vf := fun E => vF E b) (hsum (d + 2) (δ + 1) (by omega) (by omega) (by omega)) e hx _ E N I (i + 1) _ _ (EnC_FW hE hF1) (WS_m hW (by omega)) e5 e6 e7 (by omega) hs1 h41 ?_
        have hQ2 : VQ (mset f 149 6 (i + 1)) N I t g j Q (vE (vF E b) e) := VQ_FW hF1 hQ
        rw [hjl] at hQ2
        show VQ _ _ _ _ _ _ _ (vE (vF E b) e)
        cases hv2 : vE (vF E b) e with
        | error w => rw [hv2] at hQ2; intro f' u a1 a2 a3; simp only [u_Wo_factor_116, ne_eq, not_false_eq_true, not_true_eq_false, true_and, and_true, true_or, or_true, eq_self, Option.toList_some, Option.toList_none, List.cons_append, List.nil_append, tc_0, tc_I, tc_L, tc_A, Nat.reduceAdd, Nat.reduceLeDiff, Nat.reduceEqDiff, Int.reduceEq, Int.reduceLT, Int.reduceLE, Int.reduceNeg, Int.reduceToNat, Int.cast_ofNat_Int, if_true, if_false, and_self, or_self, ite_self, bI_0, bI_1, bI_01, Bool.false_eq_true, reduceCtorEq]; exact hQ2 f' _ a1 a2 a3
        | ok z => obtain ⟨v, q⟩ := z; rw [hv2] at hQ2; intro f' a1 a2 a3 a4; simp only [u_Wo_factor_116, ne_eq, not_false_eq_true, not_true_eq_false, true_and, and_true, true_or, or_true, eq_self, Option.toList_some, Option.toList_none, List.cons_append, List.nil_append, tc_0, tc_I, tc_L, tc_A, Nat.reduceAdd, Nat.reduceLeDiff, Nat.reduceEqDiff, Int.reduceEq, Int.reduceLT, Int.reduceLE, Int.reduceNeg, Int.reduceToNat, Int.cast_ofNat_Int, if_true, if_false, and_self, or_self, ite_self, bI_0, bI_1, bI_01, Bool.false_eq_true, reduceCtorEq]; exact hQ2 f' a1 a2 a3 a4
      | .inr (.inr (.inr (c, e1, e2))), hx, hs, hQ =>
        obtain ⟨hv, hs⟩ := seg_hd hs
        obtain ⟨hs1, hs2⟩ := seg_split hs
        obtain ⟨hcc, hs3⟩ := seg_hd hs2
        obtain ⟨hs4, hs5⟩ := seg_split hs3
        obtain ⟨h41, hs6⟩ := seg_hd hs5
        have hjl := seg_len hs6
        simp at hjl
        have hlt := tok_ne (show ¬ tok t a i = 0 by omega)
        have wi : w32 (i + 1) = i + 1 := w32_id (by omega) (by omega)
        have p1 : kNum 40 = false := by decide
        have p2 : kName 40 = false := by decide
        have p3 : kRow 40 = false := by decide
        simp only [u_Wo_factor_0, u_Wo_factor_1, u_Wo_factor_4, u_Wo_factor_7, u_Wo_factor_8, u_Wo_factor_10, u_Wo_factor_13, u_Wo_factor_14, u_Wo_factor_15, u_Wo_factor_16, u_Wo_factor_19, u_Wo_factor_20, u_Wo_factor_23, u_Wo_factor_26, u_Wo_factor_27, u_Wo_factor_28, u_Wo_factor_29, u_Wo_factor_32, u_Wo_factor_33, u_Wo_factor_34, u_Wo_factor_37, u_Wo_factor_38, u_Wo_factor_41, u_Wo_factor_44, u_Wo_factor_45, u_Wo_factor_48, u_Wo_factor_49, u_Wo_factor_50, u_Wo_factor_51, u_Wo_factor_54, u_Wo_factor_57, u_Wo_factor_58, u_Wo_factor_59, u_Wo_factor_61, u_Wo_factor_62, u_Wo_factor_65, u_Wo_factor_66, u_Wo_factor_67, u_Wo_factor_70, u_Wo_factor_73, u_Wo_factor_74, u_Wo_factor_75, u_Wo_factor_77, u_Wo_factor_78, u_Wo_factor_79, u_Wo_factor_82, u_Wo_factor_83, u_Wo_factor_84, u_Wo_factor_86, u_Wo_factor_89, u_Wo_factor_90, u_Wo_factor_93, u_Wo_factor_94, u_Wo_factor_95, u_Wo_factor_97, u_Wo_factor_100, u_Wo_factor_101, u_Wo_factor_102, u_Wo_factor_103, u_Wo_factor_104, u_Wo_factor_107, u_Wo_factor_108, u_Wo_factor_109, u_Wo_factor_110, u_Wo_factor_111, u_Wo_factor_112, u_Wo_factor_113, h1_149, gt_149_7, gt_149_5, gt_149_6, pt_149_6, xT_h1, ne_eq, not_false_eq_true, not_true_eq_false, true_and, and_true, true_or, or_true, eq_self, Option.toList_some, Option.toList_none, List.cons_append, List.nil_append, tc_0, tc_I, tc_L, tc_A, Nat.reduceAdd, Nat.reduceLeDiff, Nat.reduceEqDiff, Int.reduceEq, Int.reduceLT, Int.reduceLE, Int.reduceNeg, Int.reduceToNat, Int.cast_ofNat_Int, if_true, if_false, and_self, or_self, ite_self, bI_0, bI_1, bI_01, Bool.false_eq_true, reduceCtorEq, h7, show δ ≤ 12 by omega, h5, hT, s_Tx_token hT hl, h6, wi, s_Tk_isNumber, hv, p1, p2, p3, bB_f, s_Tk_isName, s_Tk_isRow, wd]
        refine p_Wo_readBrackets2 (D := d + 4) hT hl (kf := kF b) (wf := wF b) (vf := fun E => vF E b) (hsum (d + 2) (δ + 1) (by omega) (by omega) (by omega)) e1 e2 hx.2.1 hx.2.2 hx.1 _ E N I (i + 1) _ _ _ (EnC_FW hE hF1) (WS_m hW (by omega)) e5 e6 e7 (by omega) hs1 hcc hs4 h41 ?_
        have hQ2 : VQ (mset f 149 6 (i + 1)) N I t g j Q (match vE (vF E b) e1 with
          | .error e => .error e
          | .ok (v, q) => match vE (vF E b) e2 with
            | .error e => .error e
            | .ok (u, q') => .ok (if c = 60 then bI (v < u) else bI (v = u), q ++ q')) := VQ_FW hF1 hQ
        rw [hjl] at hQ2
        cases hv2 : vE (vF E b) e1 with
        | error w => rw [hv2] at hQ2; intro f' u a1 a2 a3; simp only [u_Wo_factor_116, ne_eq, not_false_eq_true, not_true_eq_false, true_and, and_true, true_or, or_true, eq_self, Option.toList_some, Option.toList_none, List.cons_append, List.nil_append, tc_0, tc_I, tc_L, tc_A, Nat.reduceAdd, Nat.reduceLeDiff, Nat.reduceEqDiff, Int.reduceEq, Int.reduceLT, Int.reduceLE, Int.reduceNeg, Int.reduceToNat, Int.cast_ofNat_Int, if_true, if_false, and_self, or_self, ite_self, bI_0, bI_1, bI_01, Bool.false_eq_true, reduceCtorEq]; exact hQ2 f' _ a1 a2 a3
        | ok z =>
          obtain ⟨v, q⟩ := z
          rw [hv2] at hQ2
          dsimp only at hQ2 ⊢
          cases hv3 : vE (vF E b) e2 with
          | error w => rw [hv3] at hQ2; intro f' u a1 a2 a3; simp only [u_Wo_factor_116, ne_eq, not_false_eq_true, not_true_eq_false, true_and, and_true, true_or, or_true, eq_self, Option.toList_some, Option.toList_none, List.cons_append, List.nil_append, tc_0, tc_I, tc_L, tc_A, Nat.reduceAdd, Nat.reduceLeDiff, Nat.reduceEqDiff, Int.reduceEq, Int.reduceLT, Int.reduceLE, Int.reduceNeg, Int.reduceToNat, Int.cast_ofNat_Int, if_true, if_false, and_self, or_self, ite_self, bI_0, bI_1, bI_01, Bool.false_eq_true, reduceCtorEq]; exact hQ2 f' _ a1 a2 a3
          | ok z => obtain ⟨u, q'⟩ := z; rw [hv3] at hQ2; intro f' a1 a2 a3 a4; simp only [u_Wo_factor_116, ne_eq, not_false_eq_true, not_true_eq_false, true_and, and_true, true_or, or_true, eq_self, Option.toList_some, Option.toList_none, List.cons_append, List.nil_append, tc_0, tc_I, tc_L, tc_A, Nat.reduceAdd, Nat.reduceLeDiff, Nat.reduceEqDiff, Int.reduceEq, Int.reduceLT, Int.reduceLE, Int.reduceNeg, Int.reduceToNat, Int.cast_ofNat_Int, if_true, if_false, and_self, or_self, ite_self, bI_0, bI_1, bI_01, Bool.false_eq_true, reduceCtorEq]; exact hQ2 f' a1 a2 a3 a4
end
