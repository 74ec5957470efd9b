/-! Worth: factor, whole -/
section
variable {L D a : Nat} {f t g : Mem} {Q : Option TV → Wd → Prop} {δ : Int} {F : Type} {kf : F → List Int} {wf : F → Prop} {vf : Env → F → Rs}
theorem p_Wo_readItem (hT : isT a) (hl : t a 1 ≤ 1000) (h0 : 0 ≤ δ) (h12 : δ ≤ 100) (hF : ∀ x : Exq F, wE wf x → VFs L (D + 1) a t g m_Wo_sum [none, none, none, none, none, none] (δ + 1) (kE kf x) (fun E => vE (vf E) x) (fun v => kSum v = false ∧ kPro v = false)) (e : Exq F) (he : wE wf e) {r : Nat} (hr : r < 6) : ∀ (f : Mem) (E : Env) (N : Nat) (I : Nat → Nat) (i j : Int) (Q : Option TV → Wd → Prop), EnC f E → WS f N I → (f 149 5).toNat = a → f 149 6 = i → f 149 7 = 0 → 0 ≤ i → tok t a i = 91 → seg (tok t a) (i + 1) j (kE kf e) → tok t a j = 93 → VQ f N I t g (j + 1) Q (match vI E r (vE (vf E) e) with
    | .error e => .error e
    | .ok (u, q) => if E.2.2.2 r u = true then .error 6 else .ok (E.2.2.1 r u, q ++ [((r : Int), u)])) → VV L (D + 3) m_Wo_readItem 0 [some (tA 149), some (tI r), some (tI δ), none, none] [] (WW f t g) Q := by
  intro f E N I i j Q hE hW h5 h6 h7 hi h91 hs h93 hQ
  simp only [u_Wo_readItem_0, u_Wo_readItem_1, u_Wo_readItem_2, u_Wo_readItem_3, h1_149, ne_eq, not_false_eq_true, not_true_eq_false, true_and, and_true, true_or, or_true, eq_self, Option.toList_some, Option.toList_none, List.cons_append, List.nil_append, tc_0, tc_I, tc_L, tc_A, Nat.reduceAdd, Nat.reduceLeDiff, Nat.reduceEqDiff, Int.reduceEq, Int.reduceLT, Int.reduceLE, Int.reduceNeg, Int.reduceToNat, Int.cast_ofNat_Int, if_true, if_false, and_self, or_self, ite_self, bI_0, bI_1, bI_01, Bool.false_eq_true, reduceCtorEq]
  refine p_Wo_itemAhead hT hl h0 h12 hF e he hr f E N I i j _ hE hW h5 h6 h7 hi h91 hs h93 ?_
  have hrw : ∀ f', FW f f' → rwH f' r = f 29 r := fun f' h => by unfold rwH; rw [if_pos (by omega), Int.toNat_natCast]; exact h 29 r (by omega)
  have hin : ∀ u q, vI E r (vE (vf E) e) = .ok (u, q) → 0 ≤ f 29 r ∧ f 29 r < 15 ∧ 0 ≤ u ∧ u < f 32 (f 29 r).toNat := by
    intro u q h
    rw [vI_1] at h
    cases hv : vE (vf E) e with
    | error w => rw [hv] at h; cases h
    | ok z =>
      obtain ⟨u', q'⟩ := z
      rw [hv] at h
      dsimp only at h
      rcases hE.r r hr with ⟨n1, n2⟩ | ⟨n1, n3, n2⟩
      · rw [n2] at h; cases h
      · rw [n2] at h
        dsimp only at h
        split at h
        · cases h
        · cases h; omega
  cases hv : vI E r (vE (vf E) e) with
  | error w =>
    rw [hv] at hQ
    intro f1 u a1 a2 a3
    simp only [u_Wo_readItem_6, u_Wo_readItem_7, u_Wo_readItem_8, u_Wo_readItem_11, u_Wo_readItem_12, u_Wo_readItem_15, u_Wo_readItem_17, u_Wo_readItem_18, u_Wo_readItem_21, u_Wo_readItem_24, u_Wo_readItem_26, u_Wo_readItem_29, u_Wo_readItem_32, u_Wo_readItem_33, h1_149, h1_28, gt_149_1, gt_149_7, ne_eq, not_false_eq_true, not_true_eq_false, true_and, and_true, true_or, or_true, eq_self, Option.toList_some, Option.toList_none, List.cons_append, List.nil_append, tc_0, tc_I, tc_L, tc_A, Nat.reduceAdd, Nat.reduceLeDiff, Nat.reduceEqDiff, Int.reduceEq, Int.reduceLT, Int.reduceLE, Int.reduceNeg, Int.reduceToNat, Int.cast_ofNat_Int, if_true, if_false, and_self, or_self, ite_self, bI_0, bI_1, bI_01, Bool.false_eq_true, reduceCtorEq, s_Sf_heldByRow, hrw _ a1, a2, a3]
    exact hQ _ _ a1 a2 a3
  | ok z =>
    obtain ⟨u, q⟩ := z
    obtain ⟨k0, k1, k2, k3⟩ := hin u q hv
    have hc := hE.c (f 29 r).toNat (by omega)
    rw [hv] at hQ
    dsimp only at hQ
    intro f1 a1 a2 a3 a4
    have hb := hE.b r u.toNat hr k0 (by omega)
    have uN : ((u.toNat : Nat) : Int) = u := by omega
    rw [uN] at hb
    have hk := a1 149 4 (by omega)
    have nN : (((f 29 r).toNat : Nat) : Int) = f 29 r := by omega
    have hnum : (0 ≤ f 29 r ∧ f 29 r < 15) := ⟨k0, k1⟩
    have ws : w32 (w32 (26 + w32 (f 29 r * 12)) + u) = 26 + f 29 r * 12 + u := by
      rw [w32_id (x := f 29 r * 12) (by omega) (by omega), w32_id (x := 26 + f 29 r * 12) (by omega) (by omega), w32_id (by omega) (by omega)]
    obtain ⟨s1, s2, s3⟩ := a4
    have hI := s3 (f 29 r).toNat (by omega)
    have hp := p2_31 (show u.toNat < 31 by omega)
    have hor : o32 (fun x y => x ||| y) (f1 150 (f 29 r).toNat) (o32 (fun x y => x <<< (y &&& 31)) 1 u) = ((snI (hld f) I q (f 29 r).toNat ||| 2 ^ u.toNat : Nat) : Int) := by
      rw [hI.1, ← uN, o32_shl1 (show u.toNat < 31 by omega), o32_or (show snI (hld f) I q (f 29 r).toNat < 2147483648 by omega) hp, uN]
    by_cases hbar : E.2.2.2 r u = true
    · rw [if_pos hbar] at hQ
      have hkp : f1 149 4 = 26 + f 29 r * 12 + u := by rw [hk]; rw [hb] at hbar; simpa using hbar
      simp only [u_Wo_readItem_6, u_Wo_readItem_7, u_Wo_readItem_8, u_Wo_readItem_11, u_Wo_readItem_12, u_Wo_readItem_15, u_Wo_readItem_17, u_Wo_readItem_18, u_Wo_readItem_21, u_Wo_readItem_24, u_Wo_readItem_26, u_Wo_readItem_29, u_Wo_readItem_32, u_Wo_readItem_33, u_Wo_readItem_34, u_Wo_readItem_35, u_Wo_readItem_38, u_Wo_readItem_40, u_Wo_readItem_41, u_Wo_readItem_44, u_Wo_readItem_47, u_Wo_readItem_48, u_Wo_readItem_50, h1_149, h1_28, gt_149_1, gt_149_7, gt_149_4, ne_eq, not_false_eq_true, not_true_eq_false, true_and, and_true, true_or, or_true, eq_self, Option.toList_some, Option.toList_none, List.cons_append, List.nil_append, tc_0, tc_I, tc_L, tc_A, Nat.reduceAdd, Nat.reduceLeDiff, Nat.reduceEqDiff, Int.reduceEq, Int.reduceLT, Int.reduceLE, Int.reduceNeg, Int.reduceToNat, Int.cast_ofNat_Int, if_true, if_false, and_self, or_self, ite_self, bI_0, bI_1, bI_01, Bool.false_eq_true, reduceCtorEq, s_Sf_heldByRow, hrw _ a1, a3, s_Sf_isNumber, hnum, decide_true, bB_t, s_Wo_spotOf, ws, hkp, s_Wo_refuse]
      simp only [u_Wo_readItem_53, u_Wo_readItem_54, u_Wo_readItem_57, u_Wo_readItem_59, u_Wo_readItem_60, u_Wo_readItem_61, u_Wo_readItem_62, u_Wo_readItem_63, u_Wo_readItem_64, u_Wo_readItem_65, u_Wo_readItem_66, u_Wo_readItem_67, u_Wo_readItem_70, u_Wo_readItem_72, u_Wo_readItem_73, u_Wo_readItem_76, h1_149, h1_28, gt_149_1, gt_149_2, h1_150, h2_150, gt_150, pt_150, ne_eq, not_false_eq_true, not_true_eq_false, true_and, and_true, true_or, or_true, eq_self, Option.toList_some, Option.toList_none, List.cons_append, List.nil_append, tc_0, tc_I, tc_L, tc_A, Nat.reduceAdd, Nat.reduceLeDiff, Nat.reduceEqDiff, Int.reduceEq, Int.reduceLT, Int.reduceLE, Int.reduceNeg, Int.reduceToNat, Int.cast_ofNat_Int, if_true, if_false, and_self, or_self, ite_self, bI_0, bI_1, bI_01, Bool.false_eq_true, reduceCtorEq, k0, k1, rd, false_and, hor]
      rw [s_Sf_load (fun h h' => by
        simp only [rd]
        rw [if_neg (by omega), if_neg (by omega), a1 32 _ (by omega)]
        have := hE.c (f 29 r).toNat (by omega)
        omega)]
      simp only [u_Wo_readItem_76, ne_eq, not_false_eq_true, not_true_eq_false, true_and, and_true, true_or, or_true, eq_self, Option.toList_some, Option.toList_none, List.cons_append, List.nil_append, tc_0, tc_I, tc_L, tc_A, Nat.reduceAdd, Nat.reduceLeDiff, Nat.reduceEqDiff, Int.reduceEq, Int.reduceLT, Int.reduceLE, Int.reduceNeg, Int.reduceToNat, Int.cast_ofNat_Int, if_true, if_false, and_self, or_self, ite_self, bI_0, bI_1, bI_01, Bool.false_eq_true, reduceCtorEq]
      refine hQ _ _ ?_ ?_ ?_
      · exact FW_tr a1 (FW_tr (FW_m (j := 7) (by omega)) (fun b j hh => by rw [rd, if_neg (by omega)]))
      · rw [rd, if_neg (by omega), rd, if_pos (by simp)]
      · omega
    · rw [if_neg hbar] at hQ
      have hkp : ¬ f1 149 4 = 26 + f 29 r * 12 + u := by
        rw [hk]; rw [hb] at hbar; simpa using hbar
      simp only [u_Wo_readItem_6, u_Wo_readItem_7, u_Wo_readItem_8, u_Wo_readItem_11, u_Wo_readItem_12, u_Wo_readItem_15, u_Wo_readItem_17, u_Wo_readItem_18, u_Wo_readItem_21, u_Wo_readItem_24, u_Wo_readItem_26, u_Wo_readItem_29, u_Wo_readItem_32, u_Wo_readItem_33, u_Wo_readItem_34, u_Wo_readItem_35, u_Wo_readItem_38, u_Wo_readItem_40, u_Wo_readItem_41, u_Wo_readItem_44, h1_149, h1_28, gt_149_1, gt_149_7, gt_149_4, ne_eq, not_false_eq_true, not_true_eq_false, true_and, and_true, true_or, or_true, eq_self, Option.toList_some, Option.toList_none, List.cons_append, List.nil_append, tc_0, tc_I, tc_L, tc_A, Nat.reduceAdd, Nat.reduceLeDiff, Nat.reduceEqDiff, Int.reduceEq, Int.reduceLT, Int.reduceLE, Int.reduceNeg, Int.reduceToNat, Int.cast_ofNat_Int, if_true, if_false, and_self, or_self, ite_self, bI_0, bI_1, bI_01, Bool.false_eq_true, reduceCtorEq, s_Sf_heldByRow, hrw _ a1, a3, s_Sf_isNumber, hnum, decide_true, bB_t, s_Wo_spotOf, ws, hkp]
      simp only [u_Wo_readItem_53, u_Wo_readItem_54, u_Wo_readItem_57, u_Wo_readItem_59, u_Wo_readItem_60, u_Wo_readItem_61, u_Wo_readItem_62, u_Wo_readItem_63, u_Wo_readItem_64, u_Wo_readItem_65, u_Wo_readItem_66, u_Wo_readItem_67, u_Wo_readItem_70, u_Wo_readItem_72, u_Wo_readItem_73, u_Wo_readItem_76, h1_149, h1_28, gt_149_1, gt_149_2, h1_150, h2_150, gt_150, pt_150, ne_eq, not_false_eq_true, not_true_eq_false, true_and, and_true, true_or, or_true, eq_self, Option.toList_some, Option.toList_none, List.cons_append, List.nil_append, tc_0, tc_I, tc_L, tc_A, Nat.reduceAdd, Nat.reduceLeDiff, Nat.reduceEqDiff, Int.reduceEq, Int.reduceLT, Int.reduceLE, Int.reduceNeg, Int.reduceToNat, Int.cast_ofNat_Int, if_true, if_false, and_self, or_self, ite_self, bI_0, bI_1, bI_01, Bool.false_eq_true, reduceCtorEq, k0, k1, hor]
      have h32 : (mset f1 150 (f 29 r).toNat ((snI (hld f) I q (f 29 r).toNat ||| 2 ^ u.toNat : Nat) : Int)) 32 (f 29 r).toNat = f 32 (f 29 r).toNat := by
        rw [rd, if_neg (by omega)]; exact a1 32 _ (by omega)
      rw [s_Sf_load (fun h h' => by rw [h32]; omega)]
      simp only [u_Wo_readItem_76, ne_eq, not_false_eq_true, not_true_eq_false, true_and, and_true, true_or, or_true, eq_self, Option.toList_some, Option.toList_none, List.cons_append, List.nil_append, tc_0, tc_I, tc_L, tc_A, Nat.reduceAdd, Nat.reduceLeDiff, Nat.reduceEqDiff, Int.reduceEq, Int.reduceLT, Int.reduceLE, Int.reduceNeg, Int.reduceToNat, Int.cast_ofNat_Int, if_true, if_false, and_self, or_self, ite_self, bI_0, bI_1, bI_01, Bool.false_eq_true, reduceCtorEq]
      have hld' : ldS (mset f1 150 (f 29 r).toNat ((snI (hld f) I q (f 29 r).toNat ||| 2 ^ u.toNat : Nat) : Int)) (f 29 r) u = E.2.2.1 r u := by
        have hi2 := hE.i r u.toNat hr k0 (by omega)
        rw [uN] at hi2
        unfold ldS
        rw [if_pos ⟨k0, k1, k2, by rw [h32]; exact k3⟩, rd, if_neg (by omega), a1 _ _ (by omega), hi2]
      rw [hld']
      refine hQ _ ?_ ?_ ?_ ?_
      · exact FW_tr a1 (fun b j hh => by rw [rd, if_neg (by omega)])
      · rw [rd, if_neg (by omega)]; exact a2
      · rw [rd, if_neg (by omega)]; exact a3
      · have eN : snN N (q ++ [((r : Int), u)]) = snN N q := by
          rw [snN_app]
          conv => lhs; unfold snN
          simp only [List.foldl_cons, List.foldl_nil]
          rw [if_neg (by omega)]
          rfl
        have eI : snI (hld f) I (q ++ [((r : Int), u)]) = fun k : Nat => if (k : Int) = f 29 r then snI (hld f) I q k ||| 2 ^ u.toNat else snI (hld f) I q k := by
          rw [snI_app]
          conv => lhs; unfold snI
          simp only [List.foldl_cons, List.foldl_nil]
          rw [if_neg (by omega)]
          rfl
        rw [eN, eI]
        refine ⟨by rw [rd, if_neg (by omega)]; exact s1, s2, fun k hk' => ?_⟩
        dsimp only
        by_cases e : (k : Int) = f 29 r
        · have ek : k = (f 29 r).toNat := by omega
          subst ek
          rw [rd, if_pos (by simp), if_pos e]
          exact ⟨rfl, seen_2 hI.2 (by omega)⟩
        · rw [rd, if_neg (by omega), if_neg e]; exact s3 k hk'
theorem p_Wo_readBrackets1 (hT : isT a) (hl : t a 1 ≤ 1000) (hF : ∀ x : Exq F, wE wf x → VFs L (D + 1) a t g m_Wo_sum [none, none, none, none, none, none] δ (kE kf x) (fun E => vE (vf E) x) (fun v => kSum v = false ∧ kPro v = false)) (e : Exq F) (he : wE wf e) : ∀ (f : Mem) (E : Env) (N : Nat) (I : Nat → Nat) (i j : Int) (Q : Option TV → Wd → Prop), EnC f E → WS f N I → (f 149 5).toNat = a → f 149 6 = i → f 149 7 = 0 → 0 ≤ i → seg (tok t a) i j (kE kf e) → tok t a j = 41 → VQ f N I t g (j + 1) Q (vE (vf E) e) → VV L (D + 2) m_Wo_readBrackets 0 [some (tA 149), some (tI δ), none, none, none, none, none] [] (WW f t g) Q := by
  intro f E N I i j Q hE hW h5 h6 h7 hi hs h41 hQ
  have hjt := tok_ne (show ¬ tok t a j = 0 by omega)
  have wj : w32 (j + 1) = j + 1 := w32_id (by omega) (by omega)
  simp only [u_Wo_readBrackets_0, u_Wo_readBrackets_1, u_Wo_readBrackets_2, h1_149, ne_eq, not_false_eq_true, not_true_eq_false, true_and, and_true, true_or, or_true, eq_self, Option.toList_some, Option.toList_none, List.cons_append, List.nil_append, tc_0, tc_I, tc_L, tc_A, Nat.reduceAdd, Nat.reduceLeDiff, Nat.reduceEqDiff, Int.reduceEq, Int.reduceLT, Int.reduceLE, Int.reduceNeg, Int.reduceToNat, Int.cast_ofNat_Int, if_true, if_false, and_self, or_self, ite_self, bI_0, bI_1, bI_01, Bool.false_eq_true, reduceCtorEq]
  refine hF e he f E N I i j _ hE hW h5 h6 h7 hi hs (by rw [h41]; decide) ?_
  show VQ _ _ _ _ _ _ _ (vE (vf E) e)
  cases hv : vE (vf E) e with
  | error w =>
    rw [hv] at hQ
    intro f1 u a1 a2 a3
    have e5 : (f1 149 5).toNat = a := by rw [a1 149 5 (by omega)]; exact h5
    have b7 : (mset f1 149 6 (w32 (f1 149 6 + 1))) 149 7 = w := by rw [rd, if_neg (by omega)]; exact a2
    by_cases hz : tok t a (f1 149 6) = 41
    · simp only [u_Wo_readBrackets_0, u_Wo_readBrackets_1, u_Wo_readBrackets_2, u_Wo_readBrackets_5, u_Wo_readBrackets_6, u_Wo_readBrackets_7, u_Wo_readBrackets_10, u_Wo_readBrackets_11, u_Wo_readBrackets_14, u_Wo_readBrackets_17, u_Wo_readBrackets_19, u_Wo_readBrackets_20, u_Wo_readBrackets_21, u_Wo_readBrackets_24, u_Wo_readBrackets_25, u_Wo_readBrackets_26, u_Wo_readBrackets_29, u_Wo_readBrackets_31, u_Wo_readBrackets_33, u_Wo_readBrackets_36, u_Wo_readBrackets_37, u_Wo_readBrackets_40, u_Wo_readBrackets_43, u_Wo_readBrackets_44, u_Wo_readBrackets_45, u_Wo_readBrackets_46, u_Wo_readBrackets_47, u_Wo_readBrackets_50, u_Wo_readBrackets_52, u_Wo_readBrackets_53, u_Wo_readBrackets_54, u_Wo_readBrackets_57, u_Wo_readBrackets_58, u_Wo_readBrackets_59, u_Wo_readBrackets_62, u_Wo_readBrackets_64, u_Wo_readBrackets_66, u_Wo_readBrackets_69, u_Wo_readBrackets_70, u_Wo_readBrackets_72, u_Wo_readBrackets_73, u_Wo_readBrackets_76, u_Wo_readBrackets_79, u_Wo_readBrackets_80, u_Wo_readBrackets_82, u_Wo_readBrackets_83, u_Wo_readBrackets_86, u_Wo_readBrackets_87, u_Wo_readBrackets_90, u_Wo_readBrackets_91, h1_149, gt_149_5, pt_149_5, gt_149_6, pt_149_6, xT_0, xT_h1, gt_149_7, pt_149_7, ne_eq, not_false_eq_true, not_true_eq_false, true_and, and_true, true_or, or_true, eq_self, Option.toList_some, Option.toList_none, List.cons_append, List.nil_append, tc_0, tc_I, tc_L, tc_A, Nat.reduceAdd, Nat.reduceLeDiff, Nat.reduceEqDiff, Int.reduceEq, Int.reduceLT, Int.reduceLE, Int.reduceNeg, Int.reduceToNat, Int.cast_ofNat_Int, if_true, if_false, and_self, or_self, ite_self, bI_0, bI_1, bI_01, Bool.false_eq_true, reduceCtorEq, e5, hT, s_Tx_token hT hl, hz]
      exact hQ _ _ (FW_tr a1 (FW_m (by omega))) b7 a3
    · simp only [u_Wo_readBrackets_0, u_Wo_readBrackets_1, u_Wo_readBrackets_2, u_Wo_readBrackets_5, u_Wo_readBrackets_6, u_Wo_readBrackets_7, u_Wo_readBrackets_10, u_Wo_readBrackets_11, u_Wo_readBrackets_14, u_Wo_readBrackets_17, u_Wo_readBrackets_19, u_Wo_readBrackets_20, u_Wo_readBrackets_21, u_Wo_readBrackets_24, u_Wo_readBrackets_25, u_Wo_readBrackets_26, u_Wo_readBrackets_29, u_Wo_readBrackets_31, u_Wo_readBrackets_33, u_Wo_readBrackets_36, u_Wo_readBrackets_37, u_Wo_readBrackets_40, u_Wo_readBrackets_43, u_Wo_readBrackets_44, u_Wo_readBrackets_45, u_Wo_readBrackets_46, u_Wo_readBrackets_47, u_Wo_readBrackets_50, u_Wo_readBrackets_52, u_Wo_readBrackets_53, u_Wo_readBrackets_54, u_Wo_readBrackets_57, u_Wo_readBrackets_58, u_Wo_readBrackets_59, u_Wo_readBrackets_62, u_Wo_readBrackets_64, u_Wo_readBrackets_66, u_Wo_readBrackets_69, u_Wo_readBrackets_70, u_Wo_readBrackets_72, u_Wo_readBrackets_73, u_Wo_readBrackets_76, u_Wo_readBrackets_79, u_Wo_readBrackets_80, u_Wo_readBrackets_82, u_Wo_readBrackets_83, u_Wo_readBrackets_86, u_Wo_readBrackets_87, u_Wo_readBrackets_90, u_Wo_readBrackets_91, h1_149, gt_149_5, pt_149_5, gt_149_6, pt_149_6, xT_0, xT_h1, gt_149_7, pt_149_7, ne_eq, not_false_eq_true, not_true_eq_false, true_and, and_true, true_or, or_true, eq_self, Option.toList_some, Option.toList_none, List.cons_append, List.nil_append, tc_0, tc_I, tc_L, tc_A, Nat.reduceAdd, Nat.reduceLeDiff, Nat.reduceEqDiff, Int.reduceEq, Int.reduceLT, Int.reduceLE, Int.reduceNeg, Int.reduceToNat, Int.cast_ofNat_Int, if_true, if_false, and_self, or_self, ite_self, bI_0, bI_1, bI_01, Bool.false_eq_true, reduceCtorEq, e5, hT, s_Tx_token hT hl, hz, b7, a3]
      exact hQ _ _ (FW_tr a1 (FW_m (by omega))) b7 a3
  | ok z =>
    obtain ⟨u, q⟩ := z
    rw [hv] at hQ
    intro f1 a1 a2 a3 a4
    have e5 : (f1 149 5).toNat = a := by rw [a1 149 5 (by omega)]; exact h5
    simp only [u_Wo_readBrackets_0, u_Wo_readBrackets_1, u_Wo_readBrackets_2, u_Wo_readBrackets_5, u_Wo_readBrackets_6, u_Wo_readBrackets_7, u_Wo_readBrackets_10, u_Wo_readBrackets_11, u_Wo_readBrackets_14, u_Wo_readBrackets_17, u_Wo_readBrackets_19, u_Wo_readBrackets_20, u_Wo_readBrackets_21, u_Wo_readBrackets_24, u_Wo_readBrackets_25, u_Wo_readBrackets_26, u_Wo_readBrackets_29, u_Wo_readBrackets_31, u_Wo_readBrackets_33, u_Wo_readBrackets_36, u_Wo_readBrackets_37, u_Wo_readBrackets_40, u_Wo_readBrackets_43, u_Wo_readBrackets_44, u_Wo_readBrackets_45, u_Wo_readBrackets_46, u_Wo_readBrackets_47, u_Wo_readBrackets_50, u_Wo_readBrackets_52, u_Wo_readBrackets_53, u_Wo_readBrackets_54, u_Wo_readBrackets_57, u_Wo_readBrackets_58, u_Wo_readBrackets_59, u_Wo_readBrackets_62, u_Wo_readBrackets_64, u_Wo_readBrackets_66, u_Wo_readBrackets_69, u_Wo_readBrackets_70, u_Wo_readBrackets_72, u_Wo_readBrackets_73, u_Wo_readBrackets_76, u_Wo_readBrackets_79, u_Wo_readBrackets_80, u_Wo_readBrackets_82, u_Wo_readBrackets_83, u_Wo_readBrackets_86, u_Wo_readBrackets_87, u_Wo_readBrackets_90, u_Wo_readBrackets_91, h1_149, gt_149_5, pt_149_5, gt_149_6, pt_149_6, xT_0, xT_h1, gt_149_7, pt_149_7, ne_eq, not_false_eq_true, not_true_eq_false, true_and, and_true, true_or, or_true, eq_self, Option.toList_some, Option.toList_none, List.cons_append, List.nil_append, tc_0, tc_I, tc_L, tc_A, Nat.reduceAdd, Nat.reduceLeDiff, Nat.reduceEqDiff, Int.reduceEq, Int.reduceLT, Int.reduceLE, Int.reduceNeg, Int.reduceToNat, Int.cast_ofNat_Int, if_true, if_false, and_self, or_self, ite_self, bI_0, bI_1, bI_01, Bool.false_eq_true, reduceCtorEq, e5, hT, s_Tx_token hT hl, a2, h41, wj]
    exact hQ _ (FW_tr a1 (FW_m (by omega))) (by rw [rd, if_pos (by simp)]) (by rw [rd, if_neg (by omega)]; exact a3) (WS_m a4 (by omega))
theorem p_Wo_readBrackets2 (hT : isT a) (hl : t a 1 ≤ 1000) (hF : ∀ x : Exq F, wE wf x → VFs L (D + 1) a t g m_Wo_sum [none, none, none, none, none, none] δ (kE kf x) (fun E => vE (vf E) x) (fun v => kSum v = false ∧ kPro v = false)) (e e2 : Exq F) (he : wE wf e) (he2 : wE wf e2) {c : Int} (hc : c = 60 ∨ c = 61) : ∀ (f : Mem) (E : Env) (N : Nat) (I : Nat → Nat) (i j k : Int) (Q : Option TV → Wd → Prop), EnC f E → WS f N I → (f 149 5).toNat = a → f 149 6 = i → f 149 7 = 0 → 0 ≤ i → seg (tok t a) i j (kE kf e) → tok t a j = c → seg (tok t a) (j + 1) k (kE kf e2) → tok t a k = 41 → VQ f N I t g (k + 1) Q (match vE (vf E) e with
    | .error w => .error w
    | .ok (v, q) => match vE (vf E) e2 with
      | .error w => .error w
      | .ok (u, q') => .ok (if c = 60 then bI (v < u) else bI (v = u), q ++ q')) → VV L (D + 2) m_Wo_readBrackets 0 [some (tA 149), some (tI δ), none, none, none, none, none] [] (WW f t g) Q := by
  intro f E N I i j k Q hE hW h5 h6 h7 hi hs hjc hs2 h41 hQ
  have hjt := tok_ne (show ¬ tok t a j = 0 by omega)
  have hkt := tok_ne (show ¬ tok t a k = 0 by omega)
  have hjk := hs2.1
  have wj : w32 (j + 1) = j + 1 := w32_id (by omega) (by omega)
  have wk : w32 (k + 1) = k + 1 := w32_id (by omega) (by omega)
  simp only [u_Wo_readBrackets_0, u_Wo_readBrackets_1, u_Wo_readBrackets_2, h1_149, ne_eq, not_false_eq_true, not_true_eq_false, true_and, and_true, true_or, or_true, eq_self, Option.toList_some, Option.toList_none, List.cons_append, List.nil_append, tc_0, tc_I, tc_L, tc_A, Nat.reduceAdd, Nat.reduceLeDiff, Nat.reduceEqDiff, Int.reduceEq, Int.reduceLT, Int.reduceLE, Int.reduceNeg, Int.reduceToNat, Int.cast_ofNat_Int, if_true, if_false, and_self, or_self, ite_self, bI_0, bI_1, bI_01, Bool.false_eq_true, reduceCtorEq]
  refine hF e he f E N I i j _ hE hW h5 h6 h7 hi hs (by rw [hjc]; rcases hc with rfl | rfl <;> decide) ?_
  show VQ _ _ _ _ _ _ _ (vE (vf E) e)
  cases hv : vE (vf E) e with
  | error w =>
    rw [hv] at hQ
    intro f1 u a1 a2 a3
    have e5 : (f1 149 5).toNat = a := by rw [a1 149 5 (by omega)]; exact h5
    have b7 : (mset f1 149 6 (w32 (f1 149 6 + 1))) 149 7 = w := by rw [rd, if_neg (by omega)]; exact a2
    by_cases hz : tok t a (f1 149 6) = 41
    · simp only [u_Wo_readBrackets_0, u_Wo_readBrackets_1, u_Wo_readBrackets_2, u_Wo_readBrackets_5, u_Wo_readBrackets_6, u_Wo_readBrackets_7, u_Wo_readBrackets_10, u_Wo_readBrackets_11, u_Wo_readBrackets_14, u_Wo_readBrackets_17, u_Wo_readBrackets_19, u_Wo_readBrackets_20, u_Wo_readBrackets_21, u_Wo_readBrackets_24, u_Wo_readBrackets_25, u_Wo_readBrackets_26, u_Wo_readBrackets_29, u_Wo_readBrackets_31, u_Wo_readBrackets_33, u_Wo_readBrackets_36, u_Wo_readBrackets_37, u_Wo_readBrackets_40, u_Wo_readBrackets_43, u_Wo_readBrackets_44, u_Wo_readBrackets_45, u_Wo_readBrackets_46, u_Wo_readBrackets_47, u_Wo_readBrackets_50, u_Wo_readBrackets_52, u_Wo_readBrackets_53, u_Wo_readBrackets_54, u_Wo_readBrackets_57, u_Wo_readBrackets_58, u_Wo_readBrackets_59, u_Wo_readBrackets_62, u_Wo_readBrackets_64, u_Wo_readBrackets_66, u_Wo_readBrackets_69, u_Wo_readBrackets_70, u_Wo_readBrackets_72, u_Wo_readBrackets_73, u_Wo_readBrackets_76, u_Wo_readBrackets_79, u_Wo_readBrackets_80, u_Wo_readBrackets_82, u_Wo_readBrackets_83, u_Wo_readBrackets_86, u_Wo_readBrackets_87, u_Wo_readBrackets_90, u_Wo_readBrackets_91, h1_149, gt_149_5, pt_149_5, gt_149_6, pt_149_6, xT_0, xT_h1, gt_149_7, pt_149_7, ne_eq, not_false_eq_true, not_true_eq_false, true_and, and_true, true_or, or_true, eq_self, Option.toList_some, Option.toList_none, List.cons_append, List.nil_append, tc_0, tc_I, tc_L, tc_A, Nat.reduceAdd, Nat.reduceLeDiff, Nat.reduceEqDiff, Int.reduceEq, Int.reduceLT, Int.reduceLE, Int.reduceNeg, Int.reduceToNat, Int.cast_ofNat_Int, if_true, if_false, and_self, or_self, ite_self, bI_0, bI_1, bI_01, Bool.false_eq_true, reduceCtorEq, e5, hT, s_Tx_token hT hl, hz]
      exact hQ _ _ (FW_tr a1 (FW_m (by omega))) b7 a3
    · simp only [u_Wo_readBrackets_0, u_Wo_readBrackets_1, u_Wo_readBrackets_2, u_Wo_readBrackets_5, u_Wo_readBrackets_6, u_Wo_readBrackets_7, u_Wo_readBrackets_10, u_Wo_readBrackets_11, u_Wo_readBrackets_14, u_Wo_readBrackets_17, u_Wo_readBrackets_19, u_Wo_readBrackets_20, u_Wo_readBrackets_21, u_Wo_readBrackets_24, u_Wo_readBrackets_25, u_Wo_readBrackets_26, u_Wo_readBrackets_29, u_Wo_readBrackets_31, u_Wo_readBrackets_33, u_Wo_readBrackets_36, u_Wo_readBrackets_37, u_Wo_readBrackets_40, u_Wo_readBrackets_43, u_Wo_readBrackets_44, u_Wo_readBrackets_45, u_Wo_readBrackets_46, u_Wo_readBrackets_47, u_Wo_readBrackets_50, u_Wo_readBrackets_52, u_Wo_readBrackets_53, u_Wo_readBrackets_54, u_Wo_readBrackets_57, u_Wo_readBrackets_58, u_Wo_readBrackets_59, u_Wo_readBrackets_62, u_Wo_readBrackets_64, u_Wo_readBrackets_66, u_Wo_readBrackets_69, u_Wo_readBrackets_70, u_Wo_readBrackets_72, u_Wo_readBrackets_73, u_Wo_readBrackets_76, u_Wo_readBrackets_79, u_Wo_readBrackets_80, u_Wo_readBrackets_82, u_Wo_readBrackets_83, u_Wo_readBrackets_86, u_Wo_readBrackets_87, u_Wo_readBrackets_90, u_Wo_readBrackets_91, h1_149, gt_149_5, pt_149_5, gt_149_6, pt_149_6, xT_0, xT_h1, gt_149_7, pt_149_7, ne_eq, not_false_eq_true, not_true_eq_false, true_and, and_true, true_or, or_true, eq_self, Option.toList_some, Option.toList_none, List.cons_append, List.nil_append, tc_0, tc_I, tc_L, tc_A, Nat.reduceAdd, Nat.reduceLeDiff, Nat.reduceEqDiff, Int.reduceEq, Int.reduceLT, Int.reduceLE, Int.reduceNeg, Int.reduceToNat, Int.cast_ofNat_Int, if_true, if_false, and_self, or_self, ite_self, bI_0, bI_1, bI_01, Bool.false_eq_true, reduceCtorEq, e5, hT, s_Tx_token hT hl, hz, b7, a3]
      exact hQ _ _ (FW_tr a1 (FW_m (by omega))) b7 a3
  | ok z =>
    obtain ⟨v, q⟩ := z
    rw [hv] at hQ
    dsimp only at hQ
    intro f1 a1 a2 a3 a4
    have e5 : (f1 149 5).toNat = a := by rw [a1 149 5 (by omega)]; exact h5
    have b7 : (mset f1 149 6 (j + 1)) 149 7 = 0 := by rw [rd, if_neg (by omega)]; exact a3
    have b1 : FW f (mset f1 149 6 (j + 1)) := FW_tr a1 (FW_m (by omega))
    simp only [u_Wo_readBrackets_5, u_Wo_readBrackets_6, u_Wo_readBrackets_7, u_Wo_readBrackets_10, u_Wo_readBrackets_11, u_Wo_readBrackets_14, u_Wo_readBrackets_17, u_Wo_readBrackets_19, u_Wo_readBrackets_20, u_Wo_readBrackets_21, u_Wo_readBrackets_24, u_Wo_readBrackets_25, u_Wo_readBrackets_26, u_Wo_readBrackets_29, u_Wo_readBrackets_31, u_Wo_readBrackets_33, u_Wo_readBrackets_36, u_Wo_readBrackets_37, u_Wo_readBrackets_40, u_Wo_readBrackets_43, u_Wo_readBrackets_44, u_Wo_readBrackets_45, u_Wo_readBrackets_46, u_Wo_readBrackets_47, h1_149, gt_149_5, gt_149_6, pt_149_6, gt_149_7, xT_h1, ne_eq, not_false_eq_true, not_true_eq_false, true_and, and_true, true_or, or_true, eq_self, Option.toList_some, Option.toList_none, List.cons_append, List.nil_append, tc_0, tc_I, tc_L, tc_A, Nat.reduceAdd, Nat.reduceLeDiff, Nat.reduceEqDiff, Int.reduceEq, Int.reduceLT, Int.reduceLE, Int.reduceNeg, Int.reduceToNat, Int.cast_ofNat_Int, if_true, if_false, and_self, or_self, ite_self, bI_0, bI_1, bI_01, Bool.false_eq_true, reduceCtorEq, e5, hT, s_Tx_token hT hl, a2, hjc, show ¬ c = 41 by omega, wj, b7]
    refine hF e2 he2 _ E _ _ (j + 1) k _ (EnC_FW hE b1) (WS_m a4 (by omega)) (by rw [rd, if_neg (by omega)]; exact e5) (by rw [rd, if_pos (by simp)]) b7 (by omega) hs2 (by rw [h41]; decide) ?_
    show VQ _ _ _ _ _ _ _ (vE (vf E) e2)
    cases hv2 : vE (vf E) e2 with
    | error w =>
      rw [hv2] at hQ
      intro f2 u d1 d2 d3
      have fin : ∀ u', Q (some (tL u')) (WW (mset f2 149 6 (w32 (f2 149 6 + 1))) t g) := fun u' => hQ _ _ (FW_tr (FW_tr b1 d1) (FW_m (by omega))) (by rw [rd, if_neg (by omega)]; exact d2) d3
      rcases hc with hc | hc
      · by_cases hz : u ≤ v
        · simp only [u_Wo_readBrackets_50, u_Wo_readBrackets_52, u_Wo_readBrackets_53, u_Wo_readBrackets_54, u_Wo_readBrackets_57, u_Wo_readBrackets_58, u_Wo_readBrackets_59, u_Wo_readBrackets_62, u_Wo_readBrackets_64, u_Wo_readBrackets_66, u_Wo_readBrackets_69, u_Wo_readBrackets_70, u_Wo_readBrackets_72, u_Wo_readBrackets_73, u_Wo_readBrackets_76, u_Wo_readBrackets_79, u_Wo_readBrackets_80, u_Wo_readBrackets_82, u_Wo_readBrackets_83, u_Wo_readBrackets_86, u_Wo_readBrackets_87, u_Wo_readBrackets_90, u_Wo_readBrackets_91, h1_149, gt_149_6, pt_149_6, ne_eq, not_false_eq_true, not_true_eq_false, true_and, and_true, true_or, or_true, eq_self, Option.toList_some, Option.toList_none, List.cons_append, List.nil_append, tc_0, tc_I, tc_L, tc_A, Nat.reduceAdd, Nat.reduceLeDiff, Nat.reduceEqDiff, Int.reduceEq, Int.reduceLT, Int.reduceLE, Int.reduceNeg, Int.reduceToNat, Int.cast_ofNat_Int, if_true, if_false, and_self, or_self, ite_self, bI_0, bI_1, bI_01, Bool.false_eq_true, reduceCtorEq, hc, lc_ge, hz]; exact fin _
        · simp only [u_Wo_readBrackets_50, u_Wo_readBrackets_52, u_Wo_readBrackets_53, u_Wo_readBrackets_54, u_Wo_readBrackets_57, u_Wo_readBrackets_58, u_Wo_readBrackets_59, u_Wo_readBrackets_62, u_Wo_readBrackets_64, u_Wo_readBrackets_66, u_Wo_readBrackets_69, u_Wo_readBrackets_70, u_Wo_readBrackets_72, u_Wo_readBrackets_73, u_Wo_readBrackets_76, u_Wo_readBrackets_79, u_Wo_readBrackets_80, u_Wo_readBrackets_82, u_Wo_readBrackets_83, u_Wo_readBrackets_86, u_Wo_readBrackets_87, u_Wo_readBrackets_90, u_Wo_readBrackets_91, h1_149, gt_149_6, pt_149_6, ne_eq, not_false_eq_true, not_true_eq_false, true_and, and_true, true_or, or_true, eq_self, Option.toList_some, Option.toList_none, List.cons_append, List.nil_append, tc_0, tc_I, tc_L, tc_A, Nat.reduceAdd, Nat.reduceLeDiff, Nat.reduceEqDiff, Int.reduceEq, Int.reduceLT, Int.reduceLE, Int.reduceNeg, Int.reduceToNat, Int.cast_ofNat_Int, if_true, if_false, and_self, or_self, ite_self, bI_0, bI_1, bI_01, Bool.false_eq_true, reduceCtorEq, hc, lc_ge, hz]; exact fin _
      · by_cases hz : v = u
        · simp only [u_Wo_readBrackets_50, u_Wo_readBrackets_52, u_Wo_readBrackets_53, u_Wo_readBrackets_54, u_Wo_readBrackets_57, u_Wo_readBrackets_58, u_Wo_readBrackets_59, u_Wo_readBrackets_62, u_Wo_readBrackets_64, u_Wo_readBrackets_66, u_Wo_readBrackets_69, u_Wo_readBrackets_70, u_Wo_readBrackets_72, u_Wo_readBrackets_73, u_Wo_readBrackets_76, u_Wo_readBrackets_79, u_Wo_readBrackets_80, u_Wo_readBrackets_82, u_Wo_readBrackets_83, u_Wo_readBrackets_86, u_Wo_readBrackets_87, u_Wo_readBrackets_90, u_Wo_readBrackets_91, h1_149, gt_149_6, pt_149_6, ne_eq, not_false_eq_true, not_true_eq_false, true_and, and_true, true_or, or_true, eq_self, Option.toList_some, Option.toList_none, List.cons_append, List.nil_append, tc_0, tc_I, tc_L, tc_A, Nat.reduceAdd, Nat.reduceLeDiff, Nat.reduceEqDiff, Int.reduceEq, Int.reduceLT, Int.reduceLE, Int.reduceNeg, Int.reduceToNat, Int.cast_ofNat_Int, if_true, if_false, and_self, or_self, ite_self, bI_0, bI_1, bI_01, Bool.false_eq_true, reduceCtorEq, hc, lc_eq, hz]; exact fin _
        · simp only [u_Wo_readBrackets_50, u_Wo_readBrackets_52, u_Wo_readBrackets_53, u_Wo_readBrackets_54, u_Wo_readBrackets_57, u_Wo_readBrackets_58, u_Wo_readBrackets_59, u_Wo_readBrackets_62, u_Wo_readBrackets_64, u_Wo_readBrackets_66, u_Wo_readBrackets_69, u_Wo_readBrackets_70, u_Wo_readBrackets_72, u_Wo_readBrackets_73, u_Wo_readBrackets_76, u_Wo_readBrackets_79, u_Wo_readBrackets_80, u_Wo_readBrackets_82, u_Wo_readBrackets_83, u_Wo_readBrackets_86, u_Wo_readBrackets_87, u_Wo_readBrackets_90, u_Wo_readBrackets_91, h1_149, gt_149_6, pt_149_6, ne_eq, not_false_eq_true, not_true_eq_false, true_and, and_true, true_or, or_true, eq_self, Option.toList_some, Option.toList_none, List.cons_append, List.nil_append, tc_0, tc_I, tc_L, tc_A, Nat.reduceAdd, Nat.reduceLeDiff, Nat.reduceEqDiff, Int.reduceEq, Int.reduceLT, Int.reduceLE, Int.reduceNeg, Int.reduceToNat, Int.cast_ofNat_Int, if_true, if_false, and_self, or_self, ite_self, bI_0, bI_1, bI_01, Bool.false_eq_true, reduceCtorEq, hc, lc_eq, hz]; exact fin _
    | ok z =>
      obtain ⟨u, q'⟩ := z
      rw [hv2] at hQ
      dsimp only at hQ
      intro f2 d1 d2 d3 d4
      have hh : hld (mset f1 149 6 (j + 1)) = hld f := hld_FW b1
      rw [hh] at d4
      have fin : Q (some (tL (if c = 60 then bI (v < u) else bI (v = u)))) (WW (mset f2 149 6 (k + 1)) t g) := hQ _ (FW_tr (FW_tr b1 d1) (FW_m (by omega))) (by rw [rd, if_pos (by simp)]) (by rw [rd, if_neg (by omega)]; exact d3) (by rw [snN_app, snI_app]; exact WS_m d4 (by omega))
      rcases hc with hc | hc
      · rw [if_pos hc] at fin
        by_cases hz : u ≤ v
        · rw [show bI (v < u) = 0 by unfold bI; rw [if_neg (by omega)]] at fin
          simp only [u_Wo_readBrackets_50, u_Wo_readBrackets_52, u_Wo_readBrackets_53, u_Wo_readBrackets_54, u_Wo_readBrackets_57, u_Wo_readBrackets_58, u_Wo_readBrackets_59, u_Wo_readBrackets_62, u_Wo_readBrackets_64, u_Wo_readBrackets_66, u_Wo_readBrackets_69, u_Wo_readBrackets_70, u_Wo_readBrackets_72, u_Wo_readBrackets_73, u_Wo_readBrackets_76, u_Wo_readBrackets_79, u_Wo_readBrackets_80, u_Wo_readBrackets_82, u_Wo_readBrackets_83, u_Wo_readBrackets_86, u_Wo_readBrackets_87, u_Wo_readBrackets_90, u_Wo_readBrackets_91, h1_149, gt_149_6, pt_149_6, ne_eq, not_false_eq_true, not_true_eq_false, true_and, and_true, true_or, or_true, eq_self, Option.toList_some, Option.toList_none, List.cons_append, List.nil_append, tc_0, tc_I, tc_L, tc_A, Nat.reduceAdd, Nat.reduceLeDiff, Nat.reduceEqDiff, Int.reduceEq, Int.reduceLT, Int.reduceLE, Int.reduceNeg, Int.reduceToNat, Int.cast_ofNat_Int, if_true, if_false, and_self, or_self, ite_self, bI_0, bI_1, bI_01, Bool.false_eq_true, reduceCtorEq, hc, lc_ge, hz, d2, wk]; exact fin
        · rw [show bI (v < u) = 1 by unfold bI; rw [if_pos (by omega)]] at fin
          simp only [u_Wo_readBrackets_50, u_Wo_readBrackets_52, u_Wo_readBrackets_53, u_Wo_readBrackets_54, u_Wo_readBrackets_57, u_Wo_readBrackets_58, u_Wo_readBrackets_59, u_Wo_readBrackets_62, u_Wo_readBrackets_64, u_Wo_readBrackets_66, u_Wo_readBrackets_69, u_Wo_readBrackets_70, u_Wo_readBrackets_72, u_Wo_readBrackets_73, u_Wo_readBrackets_76, u_Wo_readBrackets_79, u_Wo_readBrackets_80, u_Wo_readBrackets_82, u_Wo_readBrackets_83, u_Wo_readBrackets_86, u_Wo_readBrackets_87, u_Wo_readBrackets_90, u_Wo_readBrackets_91, h1_149, gt_149_6, pt_149_6, ne_eq, not_false_eq_true, not_true_eq_false, true_and, and_true, true_or, or_true, eq_self, Option.toList_some, Option.toList_none, List.cons_append, List.nil_append, tc_0, tc_I, tc_L, tc_A, Nat.reduceAdd, Nat.reduceLeDiff, Nat.reduceEqDiff, Int.reduceEq, Int.reduceLT, Int.reduceLE, Int.reduceNeg, Int.reduceToNat, Int.cast_ofNat_Int, if_true, if_false, and_self, or_self, ite_self, bI_0, bI_1, bI_01, Bool.false_eq_true, reduceCtorEq, hc, lc_ge, hz, d2, wk]; exact fin
      · rw [if_neg (by omega)] at fin
        by_cases hz : v = u
        · rw [show bI (v = u) = 1 by unfold bI; rw [if_pos hz]] at fin
          simp only [u_Wo_readBrackets_50, u_Wo_readBrackets_52, u_Wo_readBrackets_53, u_Wo_readBrackets_54, u_Wo_readBrackets_57, u_Wo_readBrackets_58, u_Wo_readBrackets_59, u_Wo_readBrackets_62, u_Wo_readBrackets_64, u_Wo_readBrackets_66, u_Wo_readBrackets_69, u_Wo_readBrackets_70, u_Wo_readBrackets_72, u_Wo_readBrackets_73, u_Wo_readBrackets_76, u_Wo_readBrackets_79, u_Wo_readBrackets_80, u_Wo_readBrackets_82, u_Wo_readBrackets_83, u_Wo_readBrackets_86, u_Wo_readBrackets_87, u_Wo_readBrackets_90, u_Wo_readBrackets_91, h1_149, gt_149_6, pt_149_6, ne_eq, not_false_eq_true, not_true_eq_false, true_and, and_true, true_or, or_true, eq_self, Option.toList_some, Option.toList_none, List.cons_append, List.nil_append, tc_0, tc_I, tc_L, tc_A, Nat.reduceAdd, Nat.reduceLeDiff, Nat.reduceEqDiff, Int.reduceEq, Int.reduceLT, Int.reduceLE, Int.reduceNeg, Int.reduceToNat, Int.cast_ofNat_Int, if_true, if_false, and_self, or_self, ite_self, bI_0, bI_1, bI_01, Bool.false_eq_true, reduceCtorEq, hc, lc_eq, hz, d2, wk]; exact fin
        · rw [show bI (v = u) = 0 by unfold bI; rw [if_neg hz]] at fin
          simp only [u_Wo_readBrackets_50, u_Wo_readBrackets_52, u_Wo_readBrackets_53, u_Wo_readBrackets_54, u_Wo_readBrackets_57, u_Wo_readBrackets_58, u_Wo_readBrackets_59, u_Wo_readBrackets_62, u_Wo_readBrackets_64, u_Wo_readBrackets_66, u_Wo_readBrackets_69, u_Wo_readBrackets_70, u_Wo_readBrackets_72, u_Wo_readBrackets_73, u_Wo_readBrackets_76, u_Wo_readBrackets_79, u_Wo_readBrackets_80, u_Wo_readBrackets_82, u_Wo_readBrackets_83, u_Wo_readBrackets_86, u_Wo_readBrackets_87, u_Wo_readBrackets_90, u_Wo_readBrackets_91, h1_149, gt_149_6, pt_149_6, ne_eq, not_false_eq_true, not_true_eq_false, true_and, and_true, true_or, or_true, eq_self, Option.toList_some, Option.toList_none, List.cons_append, List.nil_append, tc_0, tc_I, tc_L, tc_A, Nat.reduceAdd, Nat.reduceLeDiff, Nat.reduceEqDiff, Int.reduceEq, Int.reduceLT, Int.reduceLE, Int.reduceNeg, Int.reduceToNat, Int.cast_ofNat_Int, if_true, if_false, and_self, or_self, ite_self, bI_0, bI_1, bI_01, Bool.false_eq_true, reduceCtorEq, hc, lc_eq, hz, d2, wk]; exact fin
end
