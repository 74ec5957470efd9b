/-! Doing a step, the reference: swaps -/
section
variable {L d r len c q : Nat} {F f f' t g : Mem} {T : Int → Int} {Q : Option TV → Wd → Prop} {TH : Nat} {o b j m code : Int} {pl pl2 : Pl}
/-- a place by its three numbers: the name, the row, the item -/
def plN (g : Mem) : Pl → Int × Int × Int → Prop
  | .inl k, (n, r, _) => n = k ∧ r = -1
  | .inr (r, i), (_, r', i') => r' = g 175 r.toNat ∧ i' = i
theorem plN_M {g : Mem} {pl : Pl} (h : PlM g pl) : plN g pl (g 156 51, g 156 52, g 156 53) := by
  match pl, h with
  | .inl k, h => exact h
  | .inr (r, i), h => exact h
theorem kind_M (hS : RSt f g TH) (hok : OkP f pl) {n w i : Int} (h : plN g pl (n, w, i)) : (w < 0 ∧ kdP f pl = 0) ∨ (0 ≤ w ∧ w < 15 ∧ g 176 w.toNat = kdP f pl) := by
  match pl, hok, h with
  | .inl k, hok, h => left; have := h.2; exact ⟨by omega, rfl⟩
  | .inr (r, i'), hok, h =>
    obtain ⟨a1, a2, a3, a4, a5, a6, a7, a8⟩ := OkP_R hS hok
    right
    have h1 := h.1
    exact ⟨by omega, by omega, by rw [h1]; exact a5.symm⟩
theorem p_M_swap (hR : RT g r T len) (hS : RSt f g TH) (hq : q < 40) (ho : g 168 (40 * r + q) = o) (he9 : g 169 (40 * r + q) = b) (ho0 : 0 ≤ o) (p p2 : PP c) (hp : wP p) (hp2 : wP p2) (hsp : seg T o m (kP p)) (hb : 0 ≤ b) (hsp2 : seg T b j (kP p2)) (hSt : SwC f p p2 code f') (hQ : ∀ g' TH', FZ g g' → RSt f' g' TH' → Q (some (tI code)) (WW F t g')) : VV L (d + 3 * c + 9) m_M_doChange 0 [some (tA 156), some (tI r), some (tI (40 * (r : Int) + q)), some (tI 3), none, none, none, none, none, none, none] [] (WW F t g) Q := by
  have hr := hR.r10
  obtain ⟨i1, i2, i3⟩ := ix_o hr hq ho
  have hlm0 : hlm (sn0 g) = hlm g := by funext z; exact FY_0 175 _ (by omega)
  simp only [u_M_doChange_0, u_M_doChange_1, u_M_doChange_4, u_M_doChange_5, u_M_doChange_6, u_M_doChange_7, u_M_doChange_10, u_M_doChange_11, u_M_doChange_12, h1_156, gt_156_29, h1_168, h2_168, gt_168, pt_168, ne_eq, not_false_eq_true, not_true_eq_false, true_and, and_true, true_or, or_true, eq_self, Option.toList_some, Option.toList_none, List.cons_append, List.nil_append, tc_0, tc_I, tc_L, tc_A, Nat.reduceAdd, Nat.reduceLeDiff, Nat.reduceEqDiff, Int.reduceEq, Int.reduceLT, Int.reduceLE, Int.reduceNeg, Int.reduceToNat, Int.cast_ofNat_Int, if_true, if_false, and_self, or_self, ite_self, bI_0, bI_1, bI_01, Bool.false_eq_true, reduceCtorEq, s_M_seeNothing, i1, i2, i3]
  refine p_M_findP (D := d + 3 * c + 4) (by omega) p hp (RT_s0 hR) (EnM_0 hS) WM_0 ho0 hsp ?_
  unfold SwC at hSt
  cases hv : vP (envC f brN) p with
  | error w =>
    rw [hv] at hSt
    intro g1 a1 a2 a3
    simp only [u_M_doChange_15, u_M_doChange_16, u_M_doChange_19, u_M_doChange_22, u_M_doChange_23, u_M_doChange_26, h1_156, gt_156_46, ne_eq, not_false_eq_true, not_true_eq_false, true_and, and_true, true_or, or_true, eq_self, Option.toList_some, Option.toList_none, List.cons_append, List.nil_append, tc_0, tc_I, tc_L, tc_A, Nat.reduceAdd, Nat.reduceLeDiff, Nat.reduceEqDiff, Int.reduceEq, Int.reduceLT, Int.reduceLE, Int.reduceNeg, Int.reduceToNat, Int.cast_ofNat_Int, if_true, if_false, and_self, or_self, ite_self, bI_0, bI_1, bI_01, Bool.false_eq_true, reduceCtorEq, a2, a3]
    rw [← hSt.1]
    have hy := FY_tr FY_0 (FY_P a1)
    exact hQ _ TH (FZ_Y hy) (RSt_fr hS hSt.2.2 hy)
  | ok z =>
    obtain ⟨pl, q1⟩ := z
    rw [hv] at hSt
    dsimp only at hSt
    have hok := vP_ok hS p hp hv
    have hqo := vP_qo p hp hv
    intro g1 a1 a2 a3 a4
    have hy := FY_tr FY_0 (FY_P a1)
    rw [hlm0] at a3
    have hS1 : RSt f g1 TH := RSt_fr hS FX_refl hy
    have hplM : PlM g1 pl := by
      match pl, a4 with
      | .inl k, a4 => exact a4
      | .inr (r', i'), a4 =>
        refine ⟨?_, a4.2.2⟩
        rw [a4.2.1, FY_0 175 _ (by omega), hy 175 _ (by omega)]
    have e169 : g1 169 (40 * (r : Int) + q).toNat = b := by
      rw [show (40 * (r : Int) + q).toNat = 40 * r + q by omega, hy 169 _ (by omega)]; exact he9
    have hR1 : RT g1 r T len := RT_fr2 hR (fun c k h1 h2 => hy c k (by omega))
    have hE1 : EnM g1 (envC f brN) TH := EnM_FMP (EnM_0 hS) a1
    have hpl1 := plN_M hplM
    generalize hN : g1 156 51 = N1 at hpl1
    generalize hW' : g1 156 52 = W1 at hpl1
    generalize hI' : g1 156 53 = I1 at hpl1
    simp only [u_M_doChange_15, u_M_doChange_16, u_M_doChange_19, u_M_doChange_22, u_M_doChange_23, u_M_doChange_26, u_M_doChange_27, u_M_doChange_28, u_M_doChange_29, u_M_doChange_32, u_M_doChange_33, u_M_doChange_34, u_M_doChange_35, h1_156, gt_156_46, ne_eq, not_false_eq_true, not_true_eq_false, true_and, and_true, true_or, or_true, eq_self, Option.toList_some, Option.toList_none, List.cons_append, List.nil_append, tc_0, tc_I, tc_L, tc_A, Nat.reduceAdd, Nat.reduceLeDiff, Nat.reduceEqDiff, Int.reduceEq, Int.reduceLT, Int.reduceLE, Int.reduceNeg, Int.reduceToNat, Int.cast_ofNat_Int, if_true, if_false, and_self, or_self, ite_self, bI_0, bI_1, bI_01, Bool.false_eq_true, reduceCtorEq, a2]
    simp only [u_M_doSwap_0, u_M_doSwap_1, u_M_doSwap_4, u_M_doSwap_5, u_M_doSwap_6, u_M_doSwap_9, u_M_doSwap_11, u_M_doSwap_12, u_M_doSwap_15, u_M_doSwap_17, u_M_doSwap_18, u_M_doSwap_19, u_M_doSwap_20, u_M_doSwap_23, u_M_doSwap_24, u_M_doSwap_25, h1_156, gt_156_51, gt_156_52, gt_156_53, gt_156_30, h1_169, h2_169, gt_169, pt_169, ne_eq, not_false_eq_true, not_true_eq_false, true_and, and_true, true_or, or_true, eq_self, Option.toList_some, Option.toList_none, List.cons_append, List.nil_append, tc_0, tc_I, tc_L, tc_A, Nat.reduceAdd, Nat.reduceLeDiff, Nat.reduceEqDiff, Int.reduceEq, Int.reduceLT, Int.reduceLE, Int.reduceNeg, Int.reduceToNat, Int.cast_ofNat_Int, if_true, if_false, and_self, or_self, ite_self, bI_0, bI_1, bI_01, Bool.false_eq_true, reduceCtorEq, hN, hW', hI', i1, i2, e169]
    refine p_M_findP (D := d + 3 * c + 3) (by omega) p2 hp2 hR1 hE1 a3 hb hsp2 ?_
    cases hv2 : vP (envC f brN) p2 with
    | error w =>
      rw [hv2] at hSt
      intro g2 b1 b2 b3
      simp only [u_M_doSwap_28, u_M_doSwap_29, u_M_doSwap_32, u_M_doSwap_35, u_M_doSwap_36, u_M_doSwap_39, h1_156, gt_156_46, ne_eq, not_false_eq_true, not_true_eq_false, true_and, and_true, true_or, or_true, eq_self, Option.toList_some, Option.toList_none, List.cons_append, List.nil_append, tc_0, tc_I, tc_L, tc_A, Nat.reduceAdd, Nat.reduceLeDiff, Nat.reduceEqDiff, Int.reduceEq, Int.reduceLT, Int.reduceLE, Int.reduceNeg, Int.reduceToNat, Int.cast_ofNat_Int, if_true, if_false, and_self, or_self, ite_self, bI_0, bI_1, bI_01, Bool.false_eq_true, reduceCtorEq, b2, b3, u_M_doChange_38]
      rw [← hSt.1]
      have hy2 := FY_tr hy (FY_P b1)
      exact hQ _ TH (FZ_Y hy2) (RSt_fr hS hSt.2.2 hy2)
    | ok z =>
      obtain ⟨pl2, q2⟩ := z
      rw [hv2] at hSt
      dsimp only at hSt
      have hok2 := vP_ok hS p2 hp2 hv2
      have hqo2 := QOk_app hqo (vP_qo p2 hp2 hv2)
      intro g2 b1 b2 b3 b4
      have hy2 := FY_tr hy (FY_P b1)
      have hlm1 : hlm g1 = hlm g := by funext z; exact hy 175 _ (by omega)
      rw [hlm1, ← snN_app, ← snI_app] at b3
      have hS2 : RSt f g2 TH := RSt_fr hS FX_refl hy2
      have hplM2 : PlM g2 pl2 := by
        match pl2, b4 with
        | .inl k, b4 => exact b4
        | .inr (r', i'), b4 =>
          refine ⟨?_, b4.2.2⟩
          rw [b4.2.1, hy 175 _ (by omega), hy2 175 _ (by omega)]
      have hpl1' : plN g2 pl (N1, W1, I1) := by
        match pl, hpl1 with
        | .inl k, hpl1 => exact hpl1
        | .inr (r', i'), hpl1 => exact ⟨by rw [hy2 175 _ (by omega), ← hy 175 _ (by omega)]; exact hpl1.1, hpl1.2⟩
      have hpl2 := plN_M hplM2
      generalize hN2 : g2 156 51 = N2 at hpl2
      generalize hW2 : g2 156 52 = W2 at hpl2
      generalize hI2 : g2 156 53 = I2 at hpl2
      have hk1 := kind_M hS2 hok hpl1'
      have hk2 := kind_M hS2 hok2 hpl2
      sorry
end
