/-! The walk, the reference -/
section
variable {L d c a r : Nat} {F f f' t g : Mem} {Q : Option TV → Wd → Prop} {most code : Int}
theorem ar_w5 {mv : Nat} {most : Int} (h : (mv : Int) ≤ most) (hm : most ≤ 400) (hf : ¬ (mv : Int) = most) : w32 ((mv : Int) + 1) = ((mv + 1 : Nat) : Int) ∧ ((mv + 1 : Nat) : Int) ≤ most := by
  refine ⟨?_, by omega⟩; rw [w32_id (by omega) (by omega)]; omega
theorem ar_w6 {p : Nat} (h : p < 40) : w32 ((p : Int) + 1) = ((p + 1 : Nat) : Int) := by rw [w32_id (by omega) (by omega)]; omega
theorem q_20 {c d : Nat} (h : c ≤ 11) : 3 * c + 3 ≤ d + 41 := by omega
theorem q_21 {nm : Int} (h : 97 ≤ nm ∧ nm ≤ 122) : nm - 97 = (((nm - 97).toNat : Nat) : Int) ∧ (nm - 97).toNat < 31 ∧ (nm - 97).toNat < 26 ∧ (0 : Int) ≤ (((nm - 97).toNat : Nat) : Int) ∧ ((((nm - 97).toNat : Nat) : Int)) < 26 := by omega
theorem q_22 {z : Int} (h : 0 ≤ z) : 0 ≤ z + 1 := by omega
theorem q_23 {n : Nat} (h : n < 67108864) : n < 2147483648 := by omega
theorem p_M_walkL (x : TB c 6) (hx : TCo t a true x) (hr : r < 10) (hm : 0 ≤ most ∧ most ≤ 400) : ∀ (N : Nat) (f g : Mem) (TH mv p : Nat) (o5 o6 o7 o8 o9 : Option TV), RSt f g TH → RC f → TMo g r (tok t a) true x → (mv : Int) ≤ most → WkT x (tok t a) most N f mv p code f' → (∀ g' TH', RSt f' g' TH' → RC f' → FQ f f' → FZ g g' → Q (some (tI code)) (WW F t g')) → VV L (d + 45) m_M_walk 46 [some (tA 156), some (tI r), some (tI most), some (tI mv), some (tI p), o5, o6, o7, o8, o9] [] (WW F t g) Q := by
  have n40 := hx.n40
  have c11 := hx.c11
  have r0 : (0 : Int) ≤ r := Int.natCast_nonneg r
  have r10 : (r : Int) < 10 := Int.ofNat_lt.mpr hr
  intro N
  induction N with
  | zero => intro f g TH mv p o5 o6 o7 o8 o9 _ _ _ _ h; exact h.elim
  | succ N ih =>
    intro f g TH mv p o5 o6 o7 o8 o9 hS hRC hY hmv hW hQ
    have hnn := hY.nn
    unfold WkT at hW
    by_cases hend : nB 6 x ≤ p
    · rw [if_pos hend] at hW
      have hpe : (nB 6 x : Int) ≤ p := Int.ofNat_le.mpr hend
      rw [u_M_walk_46]
      simp only [u_M_walk_48, u_M_walk_49, u_M_walk_52, u_M_walk_53, u_M_walk_54, u_M_walk_256, u_M_walk_257, h1_156, gt_156_27, h1_166, h2_166, gt_166, pt_166, ne_eq, not_false_eq_true, not_true_eq_false, true_and, and_true, true_or, or_true, eq_self, Option.toList_some, Option.toList_none, List.cons_append, List.nil_append, tc_0, tc_I, tc_L, tc_A, Nat.reduceAdd, Nat.reduceLeDiff, Nat.reduceEqDiff, Int.reduceEq, Int.reduceLT, Int.reduceLE, Int.reduceNeg, Int.reduceToNat, Int.cast_ofNat_Int, if_true, if_false, and_self, or_self, ite_self, bI_0, bI_1, bI_01, Bool.false_eq_true, reduceCtorEq, r0, r10, Int.toNat_natCast, hnn, hpe]
      have := hQ g TH (by rw [hW.2]; exact hS) (by rw [hW.2]; exact hRC) (by rw [hW.2]; exact FQ_X FX_refl) (fun _ _ _ => rfl)
      rw [hW.1] at this; exact this
    · rw [if_neg hend] at hW
      have hpn : p < nB 6 x := Nat.lt_of_not_le hend
      have hpe : ¬ (nB 6 x : Int) ≤ p := fun h => hend (Int.ofNat_le.mp h)
      have p40 : p < 40 := Nat.lt_of_lt_of_le hpn n40
      obtain ⟨e0, he0, _, _, _, hent⟩ := wk_ent x hx hpn
      obtain ⟨e, he, hW⟩ := hW
      rw [he0] at he
      obtain rfl : e0 = e := Option.some.inj he
      have hO := RLt_get _ 0 p e0 hY.ro he0
      rw [Nat.zero_add] at hO
      obtain ⟨y1, y2, y3, y4, y5, y6⟩ := ar_ov hr p40
      have wp1 := ar_w6 p40
      have st1 : ∀ dz : Int, g 167 (40 * r + p) = dz → VV L (d + 45) m_M_walk 46 [some (tA 156), some (tI r), some (tI most), some (tI mv), some (tI p), o5, o6, o7, o8, o9] [] (WW F t g) Q = VV L (d + 45) m_M_walk 75 [some (tA 156), some (tI r), some (tI most), some (tI mv), some (tI p), some (tI (40 * (r : Int) + p)), some (tI dz), o7, o8, o9] [] (WW F t g) Q := by
        intro dz hdz
        rw [u_M_walk_46]
        simp only [u_M_walk_48, u_M_walk_49, u_M_walk_52, u_M_walk_53, u_M_walk_54, u_M_walk_57, u_M_walk_59, u_M_walk_60, u_M_walk_61, u_M_walk_63, u_M_walk_64, u_M_walk_66, u_M_walk_67, u_M_walk_70, u_M_walk_72, u_M_walk_73, h1_156, gt_156_27, gt_156_28, h1_166, h2_166, gt_166, pt_166, h1_167, h2_167, gt_167, pt_167, ne_eq, not_false_eq_true, not_true_eq_false, true_and, and_true, true_or, or_true, eq_self, Option.toList_some, Option.toList_none, List.cons_append, List.nil_append, tc_0, tc_I, tc_L, tc_A, Nat.reduceAdd, Nat.reduceLeDiff, Nat.reduceEqDiff, Int.reduceEq, Int.reduceLT, Int.reduceLE, Int.reduceNeg, Int.reduceToNat, Int.cast_ofNat_Int, if_true, if_false, and_self, or_self, ite_self, bI_0, bI_1, bI_01, Bool.false_eq_true, reduceCtorEq, r0, r10, Int.toNat_natCast, hnn, hpe, y1, y2, y3, y5, y6, hdz]
      by_cases hmove : e0.1.2.1 = 0 ∨ e0.1.2.1 = 1
      · rw [if_pos hmove] at hW
        obtain ⟨dz, hdz, hd0, hd30, hd31, hd32⟩ : ∃ dz, g 167 (40 * r + p) = dz ∧ (dz = if e0.1.2.1 = 0 then 14 else e0.1.1 - 200) ∧ ¬ dz = 30 ∧ ¬ dz = 31 ∧ ¬ dz = 32 := by
          refine ⟨_, rfl, ?_⟩
          unfold RO at hO
          rcases hent with ⟨h0, h214, _⟩ | ⟨h1, g2, _⟩ | ⟨h, _⟩
          · rw [if_pos h0] at hO
            rw [hO.1, h214, if_pos h0]; decide
          · have hn0 : ¬ e0.1.2.1 = 0 := by rw [h1]; decide
            rw [if_neg hn0] at hO
            rw [hO.1, h1, if_neg (by decide)]
            rcases g2 with h | h <;> rw [h] <;> decide
          · exact absurd hmove (q_13 h)
        rw [st1 dz hdz]
        by_cases hfull : (mv : Int) = most
        · rw [if_pos hfull] at hW
          simp only [u_M_walk_75, u_M_walk_77, u_M_walk_79, u_M_walk_94, u_M_walk_96, u_M_walk_98, u_M_walk_115, u_M_walk_117, u_M_walk_119, u_M_walk_128, u_M_walk_129, u_M_walk_130, u_M_walk_133, u_M_walk_135, ne_eq, not_false_eq_true, not_true_eq_false, true_and, and_true, true_or, or_true, eq_self, Option.toList_some, Option.toList_none, List.cons_append, List.nil_append, tc_0, tc_I, tc_L, tc_A, Nat.reduceAdd, Nat.reduceLeDiff, Nat.reduceEqDiff, Int.reduceEq, Int.reduceLT, Int.reduceLE, Int.reduceNeg, Int.reduceToNat, Int.cast_ofNat_Int, if_true, if_false, and_self, or_self, ite_self, bI_0, bI_1, bI_01, Bool.false_eq_true, reduceCtorEq, hd30, hd31, hd32, hfull]
          have := hQ g TH (by rw [hW.2]; exact hS) (by rw [hW.2]; exact hRC) (by rw [hW.2]; exact FQ_X FX_refl) (fun _ _ _ => rfl)
          rw [hW.1] at this; exact this
        · rw [if_neg hfull] at hW
          obtain ⟨E, i, j, w1, w2, w3, w4, w5, w6, hW⟩ := hW
          obtain ⟨b2, b4⟩ := ar_w5 hmv hm.2 hfull
          have e169 : g 169 (40 * r + p) = i := by
            unfold RO at hO
            rw [w6]
            by_cases h0 : e0.1.2.1 = 0
            · rw [if_pos h0] at hO ⊢; exact hO.2.2
            · rw [if_neg h0] at hO ⊢; exact hO.2.1
          have q169 : sn0 g 169 (40 * r + p) = i := by rw [FY_0 169 _ (by omega)]; exact e169
          have hks : kSum (tok t a j) = false ∧ kPro (tok t a j) = false := by rcases w3 with h | h <;> rw [h] <;> decide
          have st2 : VV L (d + 45) m_M_walk 75 [some (tA 156), some (tI r), some (tI most), some (tI mv), some (tI p), some (tI (40 * (r : Int) + p)), some (tI dz), o7, o8, o9] [] (WW F t g) Q = VV L (d + 41 + 3) m_M_reckon 0 [some (tA 156), some (tI r), some (tI i)] [] (WW F t (sn0 g)) (fun r_1 w1 => VV L (d + 41 + 3 + 1) m_M_walk 155 [some (tA 156), some (tI r), some (tI most), some (tI ((mv + 1 : Nat) : Int)), some (tI p), some (tI (40 * (r : Int) + p)), some (tI dz), o7, o8, o9] (r_1.toList ++ []) w1 Q) := by
            simp only [u_M_walk_75, u_M_walk_77, u_M_walk_79, u_M_walk_94, u_M_walk_96, u_M_walk_98, u_M_walk_115, u_M_walk_117, u_M_walk_119, u_M_walk_128, u_M_walk_129, u_M_walk_130, u_M_walk_133, u_M_walk_135, u_M_walk_136, u_M_walk_139, u_M_walk_140, u_M_walk_143, u_M_walk_144, u_M_walk_145, u_M_walk_146, u_M_walk_149, u_M_walk_151, u_M_walk_152, h1_156, gt_156_30, h1_169, h2_169, gt_169, pt_169, ne_eq, not_false_eq_true, not_true_eq_false, true_and, and_true, true_or, or_true, eq_self, Option.toList_some, Option.toList_none, List.cons_append, List.nil_append, tc_0, tc_I, tc_L, tc_A, Nat.reduceAdd, Nat.reduceLeDiff, Nat.reduceEqDiff, Int.reduceEq, Int.reduceLT, Int.reduceLE, Int.reduceNeg, Int.reduceToNat, Int.cast_ofNat_Int, if_true, if_false, and_self, or_self, ite_self, bI_0, bI_1, bI_01, Bool.false_eq_true, reduceCtorEq, hd30, hd31, hd32, hfull, b2, s_M_seeNothing, y3, y5, y6, q169]
          rw [st2]
          refine p_M_reckon (D := d + 41) (q_20 c11) E w1 (RT_s0 hY.rt) (EnM_0 hS) WM_0 w4 w5 w2 hks.1 hks.2 ?_
          cases hv : vE (vF (envC f brN) c) E with
          | error w =>
            rw [hv] at hW
            intro g1 u a1 a2 a3
            have hy := FY_tr FY_0 (FY_5 a1)
            simp only [u_M_walk_155, u_M_walk_157, u_M_walk_158, u_M_walk_161, u_M_walk_164, u_M_walk_166, u_M_walk_167, u_M_walk_170, u_M_walk_171, h1_156, gt_156_46, ne_eq, not_false_eq_true, not_true_eq_false, true_and, and_true, true_or, or_true, eq_self, Option.toList_some, Option.toList_none, List.cons_append, List.nil_append, tc_0, tc_I, tc_L, tc_A, Nat.reduceAdd, Nat.reduceLeDiff, Nat.reduceEqDiff, Int.reduceEq, Int.reduceLT, Int.reduceLE, Int.reduceNeg, Int.reduceToNat, Int.cast_ofNat_Int, if_true, if_false, and_self, or_self, ite_self, bI_0, bI_1, bI_01, Bool.false_eq_true, reduceCtorEq, a2, a3]
            have := hQ g1 TH (RSt_fr hS hW.2.2 hy) (RC_X hRC hS hW.2.2) (FQ_X hW.2.2) (FZ_Y hy)
            rw [hW.1] at this; exact this
          | ok z =>
            obtain ⟨v, q⟩ := z
            rw [hv] at hW
            dsimp only at hW
            intro g1 a1 a2 a3
            have hy := FY_tr FY_0 (FY_5 a1)
            obtain ⟨f1, hW⟩ := hW
            by_cases h0 : e0.1.2.1 = 0
            · rw [if_pos h0] at hW hd0
              obtain ⟨h214, nm, hk, hT1, hst0, hfx, hW⟩ := hW
              have hnm : 97 ≤ nm ∧ nm ≤ 122 := by unfold kName at hk; simpa using hk
              obtain ⟨c1, c31, c26, c0, c26'⟩ := q_21 hnm
              have hR1 : RT g1 r (tok t a) (kB 6 x).length := RT_fr2 hY.rt (fun c k h1 h2 => hy c k (by omega))
              have hlt := T_in hR1 (show ¬ tok t a (e0.1.2.2.1 + 1) = 0 by rw [hT1]; exact q_nm hnm)
              obtain ⟨x1, x2, x3, x4, x5, x6⟩ := hR1.ix (q_22 hst0) hlt
              rw [hT1, (srt_name hk).2, c1] at x6
              have e168 : g1 168 (40 * r + p) = e0.1.2.2.1 + 1 := by
                rw [hy 168 _ (by omega)]
                unfold RO at hO
                rw [if_pos h0] at hO
                rw [hO.2.1, h214, if_neg (by decide)]
              have f35 : g1 156 35 = (TH : Int) := by rw [hy 156 35 (by omega)]; exact hS.th
              simp only [u_M_walk_155, u_M_walk_157, u_M_walk_158, u_M_walk_161, u_M_walk_172, u_M_walk_174, u_M_walk_176, u_M_walk_179, u_M_walk_180, u_M_walk_183, u_M_walk_186, u_M_walk_187, u_M_walk_188, u_M_walk_189, u_M_walk_192, u_M_walk_194, u_M_walk_195, u_M_walk_196, u_M_walk_197, u_M_walk_199, u_M_walk_200, u_M_walk_201, u_M_walk_204, u_M_walk_205, u_M_walk_207, u_M_walk_208, u_M_walk_209, u_M_walk_212, u_M_walk_213, u_M_walk_216, u_M_walk_218, u_M_walk_220, u_M_walk_221, u_M_walk_222, u_M_walk_225, u_M_walk_253, h1_156, gt_156_26, gt_156_29, gt_156_35, pt_156_35, gt_156_36, gt_156_46, h1_165, h2_165, gt_165, pt_165, h1_168, h2_168, gt_168, pt_168, h1_174, h2_174, gt_174, pt_174, ne_eq, not_false_eq_true, not_true_eq_false, true_and, and_true, true_or, or_true, eq_self, Option.toList_some, Option.toList_none, List.cons_append, List.nil_append, tc_0, tc_I, tc_L, tc_A, Nat.reduceAdd, Nat.reduceLeDiff, Nat.reduceEqDiff, Int.reduceEq, Int.reduceLT, Int.reduceLE, Int.reduceNeg, Int.reduceToNat, Int.cast_ofNat_Int, if_true, if_false, and_self, or_self, ite_self, bI_0, bI_1, bI_01, Bool.false_eq_true, reduceCtorEq, a2, hd0, y3, y5, y6, e168, x1, x2, x3, x4, x6, f35, o32_shl1 c31, o32_or (q_23 hS.tl) (p2_31 c31), c0, c26', Int.toNat_natCast, wp1]
              have hS1 : RSt f1 (mset (mset g1 156 35 ((TH ||| 2 ^ (nm - 97).toNat : Nat) : Int)) 174 (nm - 97).toNat (w32 v)) (TH ||| 2 ^ (nm - 97).toNat) := by
                refine RSt_fr (RSt_bring (v := w32 v) hS c26) hfx (fun b j hh => ?_)
                simp only [rd]
                rw [hy b j hh]
              have hfz : FZ g (mset (mset g1 156 35 ((TH ||| 2 ^ (nm - 97).toNat : Nat) : Int)) 174 (nm - 97).toNat (w32 v)) := FZ_tr (FZ_Y hy) (FZ_tr (FZ_m (by omega)) (FZ_m (by omega)))
              refine ih f1 _ _ (mv + 1) (p + 1) _ _ _ _ _ hS1 (RC_X (RC_bg hRC w32_w32) (RSt_bring (v := w32 v) hS c26) hfx) (TMo_fr hY (FG_Z hfz)) b4 hW (fun g' TH' k1 k2 k3 k4 => ?_)
              exact hQ g' TH' k1 k2 (FQ_tr (FQ_tr FQ_bg (FQ_X hfx)) k3) (FZ_tr hfz k4)
            · rw [if_neg h0] at hW hd0
              obtain ⟨hop, hfx, hW⟩ := hW
              have d14 : ¬ dz = 14 := by rw [hd0]; rcases hop with h | h <;> rw [h] <;> decide
              have hS1 : RSt f1 g1 TH := RSt_fr hS hfx hy
              have fin : ∀ o9, VV L (d + 45) m_M_walk 46 [some (tA 156), some (tI r), some (tI most), some (tI ((mv + 1 : Nat) : Int)), some (tI (((if v = 0 then (e0.1.2.2.2.2.2.1 + 1).toNat else p + 1) : Nat) : Int)), some (tI (40 * (r : Int) + p)), some (tI dz), some (tL v), none, o9] [] (WW F t g1) Q := fun o9 => ih f1 g1 TH (mv + 1) _ _ _ _ _ _ hS1 (RC_X hRC hS hfx) (TMo_fr hY (FG_Z (FZ_Y hy))) b4 hW (fun g' TH' k1 k2 k3 k4 => hQ g' TH' k1 k2 (FQ_tr (FQ_X hfx) k3) (FZ_tr (FZ_Y hy) k4))
              by_cases hz : v = 0
              · simp only [if_pos hz] at fin
                have e172 : g1 172 (40 * r + p) = e0.1.2.2.2.2.2.1 := by
                  rw [hy 172 _ (by omega)]
                  unfold RO at hO
                  rw [if_neg h0] at hO
                  exact hO.2.2.2.2.1
                rcases hent with ⟨h, _⟩ | ⟨_, _, _, _, _, _, m1, m2⟩ | ⟨h, _⟩
                · exact absurd h h0
                · obtain ⟨v1, v2, v3, _, _⟩ := ar_w3 (Int.le_of_lt (Int.lt_of_le_of_lt (Int.natCast_nonneg p) m1)) m2 n40
                  rw [v2] at fin
                  simp only [u_M_walk_155, u_M_walk_157, u_M_walk_158, u_M_walk_161, u_M_walk_172, u_M_walk_174, u_M_walk_176, u_M_walk_228, u_M_walk_230, u_M_walk_231, u_M_walk_232, u_M_walk_235, u_M_walk_237, u_M_walk_238, u_M_walk_239, u_M_walk_242, u_M_walk_243, u_M_walk_246, u_M_walk_248, u_M_walk_249, u_M_walk_250, u_M_walk_251, u_M_walk_253, h1_156, gt_156_33, gt_156_46, h1_172, h2_172, gt_172, pt_172, ne_eq, not_false_eq_true, not_true_eq_false, true_and, and_true, true_or, or_true, eq_self, Option.toList_some, Option.toList_none, List.cons_append, List.nil_append, tc_0, tc_I, tc_L, tc_A, Nat.reduceAdd, Nat.reduceLeDiff, Nat.reduceEqDiff, Int.reduceEq, Int.reduceLT, Int.reduceLE, Int.reduceNeg, Int.reduceToNat, Int.cast_ofNat_Int, if_true, if_false, and_self, or_self, ite_self, bI_0, bI_1, bI_01, Bool.false_eq_true, reduceCtorEq, a2, d14, lc_eq, hz, y3, y5, y6, e172, v1]
                  rw [hz] at fin
                  exact fin _
                · exact absurd hmove (q_13 h)
              · simp only [if_neg hz] at fin
                simp only [u_M_walk_155, u_M_walk_157, u_M_walk_158, u_M_walk_161, u_M_walk_172, u_M_walk_174, u_M_walk_176, u_M_walk_228, u_M_walk_230, u_M_walk_231, u_M_walk_232, u_M_walk_235, u_M_walk_237, u_M_walk_238, u_M_walk_239, u_M_walk_242, u_M_walk_243, u_M_walk_246, u_M_walk_248, u_M_walk_249, u_M_walk_250, u_M_walk_251, u_M_walk_253, h1_156, gt_156_46, ne_eq, not_false_eq_true, not_true_eq_false, true_and, and_true, true_or, or_true, eq_self, Option.toList_some, Option.toList_none, List.cons_append, List.nil_append, tc_0, tc_I, tc_L, tc_A, Nat.reduceAdd, Nat.reduceLeDiff, Nat.reduceEqDiff, Int.reduceEq, Int.reduceLT, Int.reduceLE, Int.reduceNeg, Int.reduceToNat, Int.cast_ofNat_Int, if_true, if_false, and_self, or_self, ite_self, bI_0, bI_1, bI_01, Bool.false_eq_true, reduceCtorEq, a2, d14, lc_eq, hz, wp1]
                exact fin _
      · rw [if_neg hmove] at hW
        obtain ⟨hro, hop, hW⟩ := hW
        have hn0 : ¬ e0.1.2.1 = 0 := fun h => hmove (Or.inl h)
        have hn1 : ¬ e0.1.2.1 = 1 := fun h => hmove (Or.inr h)
        unfold RO at hO
        rw [if_neg hn0] at hO
        obtain ⟨e7, _, _, e11, _, e13⟩ := hO
        rcases hent with ⟨h, _⟩ | ⟨h, _⟩ | ⟨_, _, _, z1, z2, _, z3, z4, _⟩
        · exact absurd h hn0
        · exact absurd h hn1
        · rcases hro with h2 | h3
          · rw [if_pos h2] at hW
            have hdz : g 167 (40 * r + p) = 31 := by
              rw [e7, h2]; rcases hop with h | h <;> rw [h] <;> decide
            obtain ⟨u1, u2, u3, _, _⟩ := ar_w3 (Int.le_trans (Int.natCast_nonneg p) (z3 h2)) z4 n40
            rw [st1 31 hdz]
            simp only [u_M_walk_75, u_M_walk_77, u_M_walk_79, u_M_walk_94, u_M_walk_96, u_M_walk_98, u_M_walk_101, u_M_walk_102, u_M_walk_105, u_M_walk_107, u_M_walk_108, u_M_walk_109, u_M_walk_110, u_M_walk_112, u_M_walk_253, h1_156, gt_156_34, h1_173, h2_173, gt_173, pt_173, ne_eq, not_false_eq_true, not_true_eq_false, true_and, and_true, true_or, or_true, eq_self, Option.toList_some, Option.toList_none, List.cons_append, List.nil_append, tc_0, tc_I, tc_L, tc_A, Nat.reduceAdd, Nat.reduceLeDiff, Nat.reduceEqDiff, Int.reduceEq, Int.reduceLT, Int.reduceLE, Int.reduceNeg, Int.reduceToNat, Int.cast_ofNat_Int, if_true, if_false, and_self, or_self, ite_self, bI_0, bI_1, bI_01, Bool.false_eq_true, reduceCtorEq, y3, y5, y6, e13, u1]
            have := ih f g TH mv _ (some (tI (40 * (r : Int) + p))) (some (tI 31)) o7 o8 o9 hS hRC hY hmv hW hQ
            rw [u2] at this
            exact this
          · have h2 : ¬ e0.1.2.1 = 2 := by rw [h3]; decide
            rw [if_neg h2] at hW
            by_cases h215 : e0.1.1 = 215
            · rw [if_pos h215] at hW
              have hdz : g 167 (40 * r + p) = 30 := by rw [e7, h3, h215]; decide
              obtain ⟨_, _, _, u4, u5⟩ := ar_w3 z1 z2 n40
              rw [st1 30 hdz]
              simp only [u_M_walk_75, u_M_walk_77, u_M_walk_79, u_M_walk_82, u_M_walk_83, u_M_walk_86, u_M_walk_88, u_M_walk_89, u_M_walk_91, u_M_walk_253, h1_156, gt_156_32, h1_171, h2_171, gt_171, pt_171, ne_eq, not_false_eq_true, not_true_eq_false, true_and, and_true, true_or, or_true, eq_self, Option.toList_some, Option.toList_none, List.cons_append, List.nil_append, tc_0, tc_I, tc_L, tc_A, Nat.reduceAdd, Nat.reduceLeDiff, Nat.reduceEqDiff, Int.reduceEq, Int.reduceLT, Int.reduceLE, Int.reduceNeg, Int.reduceToNat, Int.cast_ofNat_Int, if_true, if_false, and_self, or_self, ite_self, bI_0, bI_1, bI_01, Bool.false_eq_true, reduceCtorEq, y3, y5, y6, e11]
              have := ih f g TH mv _ (some (tI (40 * (r : Int) + p))) (some (tI 30)) o7 o8 o9 hS hRC hY hmv hW hQ
              rw [u4] at this
              exact this
            · rw [if_neg h215] at hW
              have h216 : e0.1.1 = 216 := hop.resolve_left h215
              have hdz : g 167 (40 * r + p) = 32 := by rw [e7, h3, h216]; decide
              rw [st1 32 hdz]
              simp only [u_M_walk_75, u_M_walk_77, u_M_walk_79, u_M_walk_94, u_M_walk_96, u_M_walk_98, u_M_walk_115, u_M_walk_117, u_M_walk_119, u_M_walk_122, u_M_walk_125, u_M_walk_253, ne_eq, not_false_eq_true, not_true_eq_false, true_and, and_true, true_or, or_true, eq_self, Option.toList_some, Option.toList_none, List.cons_append, List.nil_append, tc_0, tc_I, tc_L, tc_A, Nat.reduceAdd, Nat.reduceLeDiff, Nat.reduceEqDiff, Int.reduceEq, Int.reduceLT, Int.reduceLE, Int.reduceNeg, Int.reduceToNat, Int.cast_ofNat_Int, if_true, if_false, and_self, or_self, ite_self, bI_0, bI_1, bI_01, Bool.false_eq_true, reduceCtorEq, wp1]
              exact ih f g TH mv _ (some (tI (40 * (r : Int) + p))) (some (tI 32)) o7 o8 o9 hS hRC hY hmv hW hQ
theorem s_T_isForgetful {X : Nat → Tre} {r : Nat} (hX : TC X f t) (hr : r < 10) : VV L (d + 2) m_T_isForgetful 0 [some (tA 1), some (tI r)] [] (WW f t g) Q = Q (some (tI (bB (decide (t (aT f r) 15 = 1 ∧ kOrd (tok t (aT f r) 0) = true))))) (WW f t g) := by
  have hT := hX.tt r hr
  have ha : (f 3 r).toNat = aT f r := rfl
  have a0 := xT_0 hT
  rcases hX.th r hr with h | h
  · simp only [u_T_isForgetful_0, u_T_isForgetful_1, u_T_isForgetful_4, u_T_isForgetful_5, u_T_isForgetful_6, u_T_isForgetful_9, u_T_isForgetful_12, u_T_isForgetful_13, u_T_isForgetful_16, u_T_isForgetful_17, u_T_isForgetful_18, u_T_isForgetful_21, u_T_isForgetful_24, u_T_isForgetful_25, u_T_isForgetful_28, u_T_isForgetful_29, h1_1, gt_1_2, h1_3, h2_3, gt_3, pt_3, xT_h1, ne_eq, not_false_eq_true, not_true_eq_false, true_and, and_true, true_or, or_true, eq_self, Option.toList_some, Option.toList_none, List.cons_append, List.nil_append, tc_0, tc_I, tc_L, tc_A, Nat.reduceAdd, Nat.reduceLeDiff, Nat.reduceEqDiff, Int.reduceEq, Int.reduceLT, Int.reduceLE, Int.reduceNeg, Int.reduceToNat, Int.cast_ofNat_Int, if_true, if_false, and_self, or_self, ite_self, bI_0, bI_1, bI_01, Bool.false_eq_true, reduceCtorEq, show (0 : Int) ≤ r by omega, show (r : Int) < 10 by omega, Int.toNat_natCast, ha, a0, hT, s_Tx_isThere hT (Or.inl h), h, decide_false, bB_f, Int.reduceEq, false_and]
  · have hl := (hX.ok r hr h).l1
    cases hk : kOrd (tok t (aT f r) 0)
    · simp only [u_T_isForgetful_0, u_T_isForgetful_1, u_T_isForgetful_4, u_T_isForgetful_5, u_T_isForgetful_6, u_T_isForgetful_9, u_T_isForgetful_12, u_T_isForgetful_13, u_T_isForgetful_16, u_T_isForgetful_17, u_T_isForgetful_18, u_T_isForgetful_21, u_T_isForgetful_24, u_T_isForgetful_25, u_T_isForgetful_28, u_T_isForgetful_29, h1_1, gt_1_2, h1_3, h2_3, gt_3, pt_3, xT_h1, ne_eq, not_false_eq_true, not_true_eq_false, true_and, and_true, true_or, or_true, eq_self, Option.toList_some, Option.toList_none, List.cons_append, List.nil_append, tc_0, tc_I, tc_L, tc_A, Nat.reduceAdd, Nat.reduceLeDiff, Nat.reduceEqDiff, Int.reduceEq, Int.reduceLT, Int.reduceLE, Int.reduceNeg, Int.reduceToNat, Int.cast_ofNat_Int, if_true, if_false, and_self, or_self, ite_self, bI_0, bI_1, bI_01, Bool.false_eq_true, reduceCtorEq, show (0 : Int) ≤ r by omega, show (r : Int) < 10 by omega, Int.toNat_natCast, ha, a0, hT, s_Tx_isThere hT (Or.inr h), h, s_Tx_isOrdinary hT hl, hk, and_false, decide_true, decide_false, bB_f, bB_t, Bool.false_eq_true]
    · simp only [u_T_isForgetful_0, u_T_isForgetful_1, u_T_isForgetful_4, u_T_isForgetful_5, u_T_isForgetful_6, u_T_isForgetful_9, u_T_isForgetful_12, u_T_isForgetful_13, u_T_isForgetful_16, u_T_isForgetful_17, u_T_isForgetful_18, u_T_isForgetful_21, u_T_isForgetful_24, u_T_isForgetful_25, u_T_isForgetful_28, u_T_isForgetful_29, h1_1, gt_1_2, h1_3, h2_3, gt_3, pt_3, xT_h1, ne_eq, not_false_eq_true, not_true_eq_false, true_and, and_true, true_or, or_true, eq_self, Option.toList_some, Option.toList_none, List.cons_append, List.nil_append, tc_0, tc_I, tc_L, tc_A, Nat.reduceAdd, Nat.reduceLeDiff, Nat.reduceEqDiff, Int.reduceEq, Int.reduceLT, Int.reduceLE, Int.reduceNeg, Int.reduceToNat, Int.cast_ofNat_Int, if_true, if_false, and_self, or_self, ite_self, bI_0, bI_1, bI_01, Bool.false_eq_true, reduceCtorEq, show (0 : Int) ≤ r by omega, show (r : Int) < 10 by omega, Int.toNat_natCast, ha, a0, hT, s_Tx_isThere hT (Or.inr h), h, s_Tx_isOrdinary hT hl, hk, and_self, decide_true, decide_false, bB_f, bB_t]
theorem B_walk {k n : Int} : Both tI m_T_walk [some (tA 1), some (tI k), some (tI n)] m_M_walk [some (tA 156), some (tI k), some (tI n), none, none, none, none, none, none, none] := by
  refine Both_of (fun L d X TH f t g Q hR hQ => ?_)
  by_cases hk : (0 ≤ k ∧ k ≤ 9) ∧ (0 ≤ n ∧ n ≤ 400)
  · obtain ⟨hk, hn⟩ := hk
    have hk' : 0 ≤ k ∧ k < 10 := by omega
    have n1 : ¬ n < 0 := by omega
    obtain ⟨r, rfl⟩ : ∃ n : Nat, k = (n : Int) := ⟨k.toNat, by omega⟩
    have hr : r < 10 := by omega
    have hT := hR.tx.tc.tt r hr
    have a0 := xT_0 hT
    have hth := hR.tx.tm.th r hr
    have h01 := hR.tx.tc.th r hr
    have ha : (f 3 r).toNat = aT f r := rfl
    by_cases hv : t (aT f r) 15 = 1 ∧ kOrd (tok t (aT f r) 0) = true
    · obtain ⟨v1, v2⟩ := hv
      have hx := hR.tx.tc.ok r hr v1
      have hy := hR.tx.tm.ok r hr v1
      have ho : (X r).2.1 = true := by rw [← hx.od]; exact v2
      rw [ho] at hx hy
      have e1 : g 161 r = 1 := by rw [← hth]; exact v1
      have e2 : g 162 r = 1 := by rw [hy.od]; rfl
      have hst : VV L (d + 200) m_T_walk 0 [some (tA 1), some (tI r), some (tI n)] [] (WW f t g) Q = VV L (d + 129 + 70) m_Wa_walkThrough 8 [some (tA 155), some (tA (aT f r)), some (tI n), some (tI ((0 : Nat) : Int)), some (tI ((0 : Nat) : Int)), some (tI ((0 : Nat) : Int)), none, none] [] (WW f t g) (fun r_1 w1 => VV L (d + 129 + 70 + 1) m_T_walk 45 [some (tA 1), some (tI r), some (tI n)] (r_1.toList ++ []) w1 Q) := by
        simp only [u_T_walk_0, u_T_walk_1, u_T_walk_4, u_T_walk_7, u_T_walk_8, u_T_walk_11, u_T_walk_12, u_T_walk_15, u_T_walk_18, u_T_walk_19, u_T_walk_20, u_T_walk_21, u_T_walk_22, u_T_walk_25, u_T_walk_28, u_T_walk_30, u_T_walk_31, u_T_walk_32, u_T_walk_35, u_T_walk_36, u_T_walk_39, u_T_walk_40, u_T_walk_41, u_T_walk_42, u_Wa_walkThrough_0, u_Wa_walkThrough_1, u_Wa_walkThrough_2, u_Wa_walkThrough_3, u_Wa_walkThrough_5, u_Wa_walkThrough_6, h1_1, gt_1_2, gt_1_10, h1_155, h1_3, h2_3, gt_3, pt_3, xT_h1, ne_eq, not_false_eq_true, not_true_eq_false, true_and, and_true, true_or, or_true, eq_self, Option.toList_some, Option.toList_none, List.cons_append, List.nil_append, tc_0, tc_I, tc_L, tc_A, Nat.reduceAdd, Nat.reduceLeDiff, Nat.reduceEqDiff, Int.reduceEq, Int.reduceLT, Int.reduceLE, Int.reduceNeg, Int.reduceToNat, Int.cast_ofNat_Int, if_true, if_false, and_self, or_self, ite_self, bI_0, bI_1, bI_01, Bool.false_eq_true, reduceCtorEq, s_T_isRoutine, hk', n1, hn, and_self, decide_true, bB_t, s_T_isForgetful hR.tx.tc hr, v1, v2, Int.toNat_natCast, ha, a0, hT]
      rw [hst]
      refine p_Wa_L (X r).2.2 hx hT hn 50000 f 0 0 0 none none (by omega) (by omega) (Nat.zero_le _) (by omega) (fun _ _ _ => by omega) ⟨g, TH, hR.st⟩ (fun code f' hW => ?_)
      simp only [u_T_walk_45, ne_eq, not_false_eq_true, not_true_eq_false, true_and, and_true, true_or, or_true, eq_self, Option.toList_some, Option.toList_none, List.cons_append, List.nil_append, tc_0, tc_I, tc_L, tc_A, Nat.reduceAdd, Nat.reduceLeDiff, Nat.reduceEqDiff, Int.reduceEq, Int.reduceLT, Int.reduceLE, Int.reduceNeg, Int.reduceToNat, Int.cast_ofNat_Int, if_true, if_false, and_self, or_self, ite_self, bI_0, bI_1, bI_01, Bool.false_eq_true, reduceCtorEq]
      refine hQ _ _ t (fun L d Q hq => ?_)
      have hst2 : VV L (d + 200) m_M_walk 0 [some (tA 156), some (tI r), some (tI n), none, none, none, none, none, none, none] [] (WW f' t g) Q = VV L (d + 155 + 45) m_M_walk 46 [some (tA 156), some (tI r), some (tI n), some (tI ((0 : Nat) : Int)), some (tI ((0 : Nat) : Int)), none, none, none, none, none] [] (WW f' t g) Q := by
        simp only [u_M_walk_0, u_M_walk_1, u_M_walk_4, u_M_walk_7, u_M_walk_8, u_M_walk_9, u_M_walk_12, u_M_walk_15, u_M_walk_18, u_M_walk_19, u_M_walk_20, u_M_walk_21, u_M_walk_24, u_M_walk_25, u_M_walk_26, u_M_walk_29, u_M_walk_30, u_M_walk_33, u_M_walk_34, u_M_walk_35, u_M_walk_38, u_M_walk_40, u_M_walk_41, u_M_walk_42, u_M_walk_43, u_M_walk_44, h1_156, gt_156_22, gt_156_23, h1_161, h2_161, gt_161, pt_161, h1_162, h2_162, gt_162, pt_162, ne_eq, not_false_eq_true, not_true_eq_false, true_and, and_true, true_or, or_true, eq_self, Option.toList_some, Option.toList_none, List.cons_append, List.nil_append, tc_0, tc_I, tc_L, tc_A, Nat.reduceAdd, Nat.reduceLeDiff, Nat.reduceEqDiff, Int.reduceEq, Int.reduceLT, Int.reduceLE, Int.reduceNeg, Int.reduceToNat, Int.cast_ofNat_Int, if_true, if_false, and_self, or_self, ite_self, bI_0, bI_1, bI_01, Bool.false_eq_true, reduceCtorEq, s_M_isRoutine, s_M_in, hk, hn, hk', and_self, decide_true, bB_t, Int.toNat_natCast, e1, e2]
      rw [hst2]
      refine p_M_walkL (X r).2.2 hx hr hn 50000 f g TH 0 0 _ _ _ _ _ hR.st hR.rc hy (by omega) hW (fun g' TH' k1 k2 k3 k4 => ?_)
      exact hq g' ⟨X, TH', Rel_st hR (fun b j h1 h2 h3 => k3 b j h1 h2 h3) k4 k1 k2⟩ (fun j => k4 900 j (by omega))
    · have hst : VV L (d + 200) m_T_walk 0 [some (tA 1), some (tI r), some (tI n)] [] (WW f t g) Q = Q (some (tI (-2))) (WW f t g) := by
        simp only [u_T_walk_0, u_T_walk_1, u_T_walk_4, u_T_walk_7, u_T_walk_8, u_T_walk_11, u_T_walk_12, u_T_walk_15, u_T_walk_18, u_T_walk_19, u_T_walk_20, u_T_walk_21, u_T_walk_22, u_T_walk_25, u_T_walk_28, u_T_walk_30, h1_1, ne_eq, not_false_eq_true, not_true_eq_false, true_and, and_true, true_or, or_true, eq_self, Option.toList_some, Option.toList_none, List.cons_append, List.nil_append, tc_0, tc_I, tc_L, tc_A, Nat.reduceAdd, Nat.reduceLeDiff, Nat.reduceEqDiff, Int.reduceEq, Int.reduceLT, Int.reduceLE, Int.reduceNeg, Int.reduceToNat, Int.cast_ofNat_Int, if_true, if_false, and_self, or_self, ite_self, bI_0, bI_1, bI_01, Bool.false_eq_true, reduceCtorEq, s_T_isRoutine, hk', n1, hn, and_self, decide_true, bB_t, s_T_isForgetful hR.tx.tc hr, hv, decide_false, bB_f]
      rw [hst]
      refine hQ _ f t (RefP_0 hR (fun L d Q => ?_))
      rcases h01 with h | h
      · have e1 : g 161 r = 0 := by rw [← hth]; exact h
        simp only [u_M_walk_0, u_M_walk_1, u_M_walk_4, u_M_walk_7, u_M_walk_8, u_M_walk_9, u_M_walk_12, u_M_walk_15, u_M_walk_18, u_M_walk_19, u_M_walk_20, u_M_walk_21, u_M_walk_24, u_M_walk_25, u_M_walk_26, u_M_walk_29, u_M_walk_30, u_M_walk_33, u_M_walk_34, u_M_walk_35, u_M_walk_38, u_M_walk_40, h1_156, gt_156_22, h1_161, h2_161, gt_161, pt_161, ne_eq, not_false_eq_true, not_true_eq_false, true_and, and_true, true_or, or_true, eq_self, Option.toList_some, Option.toList_none, List.cons_append, List.nil_append, tc_0, tc_I, tc_L, tc_A, Nat.reduceAdd, Nat.reduceLeDiff, Nat.reduceEqDiff, Int.reduceEq, Int.reduceLT, Int.reduceLE, Int.reduceNeg, Int.reduceToNat, Int.cast_ofNat_Int, if_true, if_false, and_self, or_self, ite_self, bI_0, bI_1, bI_01, Bool.false_eq_true, reduceCtorEq, s_M_isRoutine, s_M_in, hk, hn, hk', and_self, decide_true, bB_t, Int.toNat_natCast, e1]
      · have e1 : g 161 r = 1 := by rw [← hth]; exact h
        have e2 : g 162 r = 0 := by
          rw [(hR.tx.tm.ok r hr h).od, ← (hR.tx.tc.ok r hr h).od]
          cases hk : kOrd (tok t (aT f r) 0)
          · rfl
          · exact absurd ⟨h, hk⟩ hv
        simp only [u_M_walk_0, u_M_walk_1, u_M_walk_4, u_M_walk_7, u_M_walk_8, u_M_walk_9, u_M_walk_12, u_M_walk_15, u_M_walk_18, u_M_walk_19, u_M_walk_20, u_M_walk_21, u_M_walk_24, u_M_walk_25, u_M_walk_26, u_M_walk_29, u_M_walk_30, u_M_walk_33, u_M_walk_34, u_M_walk_35, u_M_walk_38, u_M_walk_40, h1_156, gt_156_22, gt_156_23, h1_161, h2_161, gt_161, pt_161, h1_162, h2_162, gt_162, pt_162, ne_eq, not_false_eq_true, not_true_eq_false, true_and, and_true, true_or, or_true, eq_self, Option.toList_some, Option.toList_none, List.cons_append, List.nil_append, tc_0, tc_I, tc_L, tc_A, Nat.reduceAdd, Nat.reduceLeDiff, Nat.reduceEqDiff, Int.reduceEq, Int.reduceLT, Int.reduceLE, Int.reduceNeg, Int.reduceToNat, Int.cast_ofNat_Int, if_true, if_false, and_self, or_self, ite_self, bI_0, bI_1, bI_01, Bool.false_eq_true, reduceCtorEq, s_M_isRoutine, s_M_in, hk, hn, hk', and_self, decide_true, bB_t, Int.toNat_natCast, e1, e2]
  · have hst : VV L (d + 200) m_T_walk 0 [some (tA 1), some (tI k), some (tI n)] [] (WW f t g) Q = Q (some (tI (-1))) (WW f t g) := by
      by_cases h1 : 0 ≤ k ∧ k < 10
      · by_cases h2 : n < 0
        · simp only [u_T_walk_0, u_T_walk_1, u_T_walk_4, u_T_walk_7, u_T_walk_8, u_T_walk_11, u_T_walk_12, u_T_walk_15, u_T_walk_18, u_T_walk_19, ne_eq, not_false_eq_true, not_true_eq_false, true_and, and_true, true_or, or_true, eq_self, Option.toList_some, Option.toList_none, List.cons_append, List.nil_append, tc_0, tc_I, tc_L, tc_A, Nat.reduceAdd, Nat.reduceLeDiff, Nat.reduceEqDiff, Int.reduceEq, Int.reduceLT, Int.reduceLE, Int.reduceNeg, Int.reduceToNat, Int.cast_ofNat_Int, if_true, if_false, and_self, or_self, ite_self, bI_0, bI_1, bI_01, Bool.false_eq_true, reduceCtorEq, s_T_isRoutine, h1, and_self, decide_true, bB_t, h2]
        · simp only [u_T_walk_0, u_T_walk_1, u_T_walk_4, u_T_walk_7, u_T_walk_8, u_T_walk_11, u_T_walk_12, u_T_walk_15, u_T_walk_18, u_T_walk_19, ne_eq, not_false_eq_true, not_true_eq_false, true_and, and_true, true_or, or_true, eq_self, Option.toList_some, Option.toList_none, List.cons_append, List.nil_append, tc_0, tc_I, tc_L, tc_A, Nat.reduceAdd, Nat.reduceLeDiff, Nat.reduceEqDiff, Int.reduceEq, Int.reduceLT, Int.reduceLE, Int.reduceNeg, Int.reduceToNat, Int.cast_ofNat_Int, if_true, if_false, and_self, or_self, ite_self, bI_0, bI_1, bI_01, Bool.false_eq_true, reduceCtorEq, s_T_isRoutine, h1, and_self, decide_true, bB_t, h2, show ¬ n ≤ 400 by omega]
      · simp only [u_T_walk_0, u_T_walk_1, u_T_walk_4, u_T_walk_7, u_T_walk_8, u_T_walk_11, u_T_walk_12, u_T_walk_15, u_T_walk_18, u_T_walk_19, ne_eq, not_false_eq_true, not_true_eq_false, true_and, and_true, true_or, or_true, eq_self, Option.toList_some, Option.toList_none, List.cons_append, List.nil_append, tc_0, tc_I, tc_L, tc_A, Nat.reduceAdd, Nat.reduceLeDiff, Nat.reduceEqDiff, Int.reduceEq, Int.reduceLT, Int.reduceLE, Int.reduceNeg, Int.reduceToNat, Int.cast_ofNat_Int, if_true, if_false, and_self, or_self, ite_self, bI_0, bI_1, bI_01, Bool.false_eq_true, reduceCtorEq, s_T_isRoutine, h1, decide_false, bB_f]
    rw [hst]
    refine hQ _ f t (RefP_0 hR (fun L d Q => ?_))
    by_cases h1 : 0 ≤ k ∧ k ≤ 9
    · have h2 : ¬ (0 ≤ n ∧ n ≤ 400) := by omega
      simp only [u_M_walk_0, u_M_walk_1, u_M_walk_4, u_M_walk_7, u_M_walk_8, u_M_walk_9, u_M_walk_12, u_M_walk_15, u_M_walk_18, u_M_walk_19, ne_eq, not_false_eq_true, not_true_eq_false, true_and, and_true, true_or, or_true, eq_self, Option.toList_some, Option.toList_none, List.cons_append, List.nil_append, tc_0, tc_I, tc_L, tc_A, Nat.reduceAdd, Nat.reduceLeDiff, Nat.reduceEqDiff, Int.reduceEq, Int.reduceLT, Int.reduceLE, Int.reduceNeg, Int.reduceToNat, Int.cast_ofNat_Int, if_true, if_false, and_self, or_self, ite_self, bI_0, bI_1, bI_01, Bool.false_eq_true, reduceCtorEq, s_M_isRoutine, s_M_in, h1, h2, and_self, decide_true, decide_false, bB_t, bB_f]
    · simp only [u_M_walk_0, u_M_walk_1, u_M_walk_4, u_M_walk_7, u_M_walk_8, u_M_walk_9, u_M_walk_12, u_M_walk_15, u_M_walk_18, u_M_walk_19, ne_eq, not_false_eq_true, not_true_eq_false, true_and, and_true, true_or, or_true, eq_self, Option.toList_some, Option.toList_none, List.cons_append, List.nil_append, tc_0, tc_I, tc_L, tc_A, Nat.reduceAdd, Nat.reduceLeDiff, Nat.reduceEqDiff, Int.reduceEq, Int.reduceLT, Int.reduceLE, Int.reduceNeg, Int.reduceToNat, Int.cast_ofNat_Int, if_true, if_false, and_self, or_self, ite_self, bI_0, bI_1, bI_01, Bool.false_eq_true, reduceCtorEq, s_M_isRoutine, h1, decide_false, bB_f]
end
