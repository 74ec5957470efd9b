/-! The run: many GOES of both -/
def GoL (X : Nat → Tre) (t : Mem) (rn : Int) : Nat → Mem → Nat → Mem → Prop
  | 0, f, n, f' => n = 0 ∧ f' = f
  | k + 1, f, n, f' => ∃ code f1, GoC (X (f 151 6).toNat).2.2 f t (fwO f rn) code f1 ∧ if code = 0 then ∃ m, n = m + 1 ∧ GoL X t rn k (stC f1 0 rn) m f' else n = 0 ∧ f' = stC f1 code rn
theorem VV_ex {L d : Nat} {m : Mth} {pc : Nat} {ls : Lo} {st : List TV} {w : Wd} {P : Prop} (h : VV L d m pc ls st w (fun _ _ => P)) : P := by
  obtain ⟨_, _, _, _, h⟩ := h; exact h
section
variable {L d : Nat} {X : Nat → Tre} {F f f' t g : Mem} {Q : Option TV → Wd → Prop} {TH : Nat} {code rn : Int}
theorem RR_go (hR : RR X f t g TH) (hrn : rn = 0 ∨ rn = 1) (hG : GoC (X (f 151 6).toNat).2.2 f t (fwO f rn) code f') : ∃ g' TH', RR X (stC f' code rn) t g' TH' :=
  VV_ex (p_M_goes (L := 0) (d := 0) (F := f) hR hrn hG (fun g' TH' h _ _ => ⟨g', TH', h⟩))
theorem p_Ru_goOftenL (hrn : rn = 0 ∨ rn = 1) (N : Nat) (hN : N ≤ 1000) : ∀ (k n : Nat) (f : Mem), n + k = N → (∃ gg TH, RR X f t gg TH) → (∀ m f', GoL X t rn k f m f' → (∃ gg TH, RR X f' t gg TH) → Q (some (tI ((n + m : Nat) : Int))) (WW f' t g)) → VV L (d + 68) m_Ru_goOften 7 [some (tA 151), some (tI N), some (tI rn), some (tI n)] [] (WW f t g) Q := by
  intro k
  induction k with
  | zero =>
    intro n f hn hR hQ
    have hnN : (N : Int) ≤ n := by omega
    rw [u_Ru_goOften_7]
    simp only [u_Ru_goOften_8, u_Ru_goOften_9, u_Ru_goOften_74, u_Ru_goOften_75, ne_eq, not_false_eq_true, not_true_eq_false, true_and, and_true, true_or, or_true, eq_self, Option.toList_some, Option.toList_none, List.cons_append, List.nil_append, tc_0, tc_I, tc_L, tc_A, Nat.reduceAdd, Nat.reduceLeDiff, Nat.reduceEqDiff, Int.reduceEq, Int.reduceLT, Int.reduceLE, Int.reduceNeg, Int.reduceToNat, Int.cast_ofNat_Int, if_true, if_false, and_self, or_self, ite_self, bI_0, bI_1, bI_01, Bool.false_eq_true, reduceCtorEq, hnN]
    have := hQ 0 f ⟨rfl, rfl⟩ hR
    rw [show n + 0 = N by omega] at this
    exact this
  | succ k ih =>
    intro n f hn hR hQ
    obtain ⟨gg, TH, hR⟩ := hR
    have hnN : ¬ (N : Int) ≤ n := by omega
    have hfw : fwO f rn = 0 ∨ fwO f rn = 1 := by unfold fwO; split <;> omega
    have hst : VV L (d + 68) m_Ru_goOften 7 [some (tA 151), some (tI N), some (tI rn), some (tI n)] [] (WW f t g) Q = VV L (d + 67) m_Ru_goOnce 0 [some (tA 151), some (tI (fwO f rn)), none, none, none] [] (WW f t g) (fun r_1 w1 => VV L (d + 67 + 1) m_Ru_goOften 38 [some (tA 151), some (tI N), some (tI rn), some (tI n)] (r_1.toList ++ [tA 151]) w1 Q) := by
      rw [u_Ru_goOften_7]
      unfold fwO
      rcases hR.rn.wy with h | h <;> rcases hrn with rfl | rfl <;> rw [h] <;> simp only [u_Ru_goOften_8, u_Ru_goOften_9, u_Ru_goOften_12, u_Ru_goOften_13, u_Ru_goOften_14, u_Ru_goOften_15, u_Ru_goOften_18, u_Ru_goOften_21, u_Ru_goOften_22, u_Ru_goOften_25, u_Ru_goOften_26, u_Ru_goOften_27, u_Ru_goOften_30, u_Ru_goOften_31, u_Ru_goOften_34, u_Ru_goOften_35, h1_151, gt_151_8, ne_eq, not_false_eq_true, not_true_eq_false, true_and, and_true, true_or, or_true, eq_self, Option.toList_some, Option.toList_none, List.cons_append, List.nil_append, tc_0, tc_I, tc_L, tc_A, Nat.reduceAdd, Nat.reduceLeDiff, Nat.reduceEqDiff, Int.reduceEq, Int.reduceLT, Int.reduceLE, Int.reduceNeg, Int.reduceToNat, Int.cast_ofNat_Int, if_true, if_false, and_self, or_self, ite_self, bI_0, bI_1, bI_01, Bool.false_eq_true, reduceCtorEq, hnN, h, Int.reduceEq, Int.reduceSub, if_true, if_false]
    rw [hst]
    obtain ⟨r, h6, hv, _, _⟩ := hR.rn.cur
    have hcr : (f 151 6).toNat = r := by rw [h6]; exact Int.toNat_natCast r
    refine p_Ru_goOnce (X := X) _ (X (f 151 6).toNat).2.2 hR.tc (by rw [hcr]; exact hR.tc.ok r hv.1 hv.2.1) hR.rn hR.st hfw (fun code f1 hG => ?_)
    have hR' := RR_go hR hrn hG
    by_cases hc0 : code = 0
    · subst hc0
      have e10 : (mset f1 151 10 0) 151 10 = 0 := by rw [rd, if_pos (by simp)]
      have e9 : (mset f1 151 10 0) 151 9 = f1 151 9 := by rw [rd, if_neg (by omega)]
      have wn : w32 ((n : Int) + 1) = ((n + 1 : Nat) : Int) := by rw [w32_id (by omega) (by omega)]; omega
      have hstC : stC f1 0 rn = mset (mset f1 151 10 0) 151 9 (w32 (f1 151 9 + (if rn = 1 then -1 else 1))) := by unfold stC; rw [if_pos rfl]
      have hst2 : VV L (d + 67 + 1) m_Ru_goOften 38 [some (tA 151), some (tI N), some (tI rn), some (tI n)] ((some (tI 0)).toList ++ [tA 151]) (WW f1 t g) Q = VV L (d + 67 + 1) m_Ru_goOften 7 [some (tA 151), some (tI N), some (tI rn), some (tI ((n + 1 : Nat) : Int))] [] (WW (stC f1 0 rn) t g) Q := by
        rw [hstC]
        rcases hrn with rfl | rfl <;> simp only [u_Ru_goOften_38, u_Ru_goOften_41, u_Ru_goOften_42, u_Ru_goOften_45, u_Ru_goOften_48, u_Ru_goOften_49, u_Ru_goOften_50, u_Ru_goOften_51, u_Ru_goOften_52, u_Ru_goOften_55, u_Ru_goOften_56, u_Ru_goOften_59, u_Ru_goOften_60, u_Ru_goOften_63, u_Ru_goOften_64, u_Ru_goOften_65, u_Ru_goOften_68, u_Ru_goOften_71, h1_151, pt_151_10, gt_151_10, gt_151_9, pt_151_9, ne_eq, not_false_eq_true, not_true_eq_false, true_and, and_true, true_or, or_true, eq_self, Option.toList_some, Option.toList_none, List.cons_append, List.nil_append, tc_0, tc_I, tc_L, tc_A, Nat.reduceAdd, Nat.reduceLeDiff, Nat.reduceEqDiff, Int.reduceEq, Int.reduceLT, Int.reduceLE, Int.reduceNeg, Int.reduceToNat, Int.cast_ofNat_Int, if_true, if_false, and_self, or_self, ite_self, bI_0, bI_1, bI_01, Bool.false_eq_true, reduceCtorEq, e10, e9, wn, Int.reduceEq, if_true, if_false]
      rw [hst2]
      refine ih (n + 1) _ (by omega) hR' (fun m f' hL hR2 => ?_)
      have := hQ (m + 1) f' ⟨0, f1, hG, by rw [if_pos rfl]; exact ⟨m, rfl, hL⟩⟩ hR2
      rw [show n + (m + 1) = n + 1 + m by omega] at this
      exact this
    · have e10 : (mset f1 151 10 code) 151 10 = code := by rw [rd, if_pos (by simp)]
      have hstC : stC f1 code rn = mset f1 151 10 code := by unfold stC; rw [if_neg hc0]
      simp only [u_Ru_goOften_38, u_Ru_goOften_41, u_Ru_goOften_42, u_Ru_goOften_45, u_Ru_goOften_48, u_Ru_goOften_49, h1_151, pt_151_10, gt_151_10, ne_eq, not_false_eq_true, not_true_eq_false, true_and, and_true, true_or, or_true, eq_self, Option.toList_some, Option.toList_none, List.cons_append, List.nil_append, tc_0, tc_I, tc_L, tc_A, Nat.reduceAdd, Nat.reduceLeDiff, Nat.reduceEqDiff, Int.reduceEq, Int.reduceLT, Int.reduceLE, Int.reduceNeg, Int.reduceToNat, Int.cast_ofNat_Int, if_true, if_false, and_self, or_self, ite_self, bI_0, bI_1, bI_01, Bool.false_eq_true, reduceCtorEq, e10, hc0]
      have := hQ 0 (stC f1 code rn) ⟨code, f1, hG, by rw [if_neg hc0]; exact ⟨rfl, rfl⟩⟩ hR'
      rw [hstC] at this
      exact this
theorem RR_10 {z : Int} (h : RR X f t g TH) : RR X (mset f 151 10 z) t g TH := by
  have ha : ∀ r, aT (mset f 151 10 z) r = aT f r := fun r => by unfold aT; rw [rd, if_neg (by omega)]
  obtain ⟨r, h6, hv, q1, q2⟩ := h.rn.cur
  refine ⟨TC_fr h.tc ha, TM_fr h.tm FG_refl ha, RnC_pl h.rn h6 (fun b j hh => by rw [rd, if_neg (by omega)]) (by rw [rd, if_neg (by omega)]; exact ⟨q1, q2⟩), RnM_pl h.rm (fun b j hh => by rw [rd, if_neg (by omega)]) (fun _ _ _ => rfl) (by rw [rd, if_neg (by omega)]; exact h.rm.r7), RSt_fr2 h.st (fun b j _ _ => by rw [rd, if_neg (by omega)]) (fun _ _ _ => rfl), RC_fr h.rc (hC_15 h.st) (fun b j _ _ => by rw [rd, if_neg (by omega)]), ?_⟩
  rw [rd, if_neg (by omega)]; exact h.w9
theorem p_Ru_goOften {N : Nat} (hrn : rn = 0 ∨ rn = 1) (hN : N ≤ 1000) (hR : RR X f t g TH) {gg : Mem} (hQ : ∀ m f', GoL X t rn N (mset f 151 10 0) m f' → Q (some (tI ((m : Nat) : Int))) (WW f' t gg)) : VV L (d + 68) m_Ru_goOften 0 [some (tA 151), some (tI N), some (tI rn), none] [] (WW f t gg) Q := by
  simp only [u_Ru_goOften_0, u_Ru_goOften_1, u_Ru_goOften_2, u_Ru_goOften_5, u_Ru_goOften_6, h1_151, pt_151_10, ne_eq, not_false_eq_true, not_true_eq_false, true_and, and_true, true_or, or_true, eq_self, Option.toList_some, Option.toList_none, List.cons_append, List.nil_append, tc_0, tc_I, tc_L, tc_A, Nat.reduceAdd, Nat.reduceLeDiff, Nat.reduceEqDiff, Int.reduceEq, Int.reduceLT, Int.reduceLE, Int.reduceNeg, Int.reduceToNat, Int.cast_ofNat_Int, if_true, if_false, and_self, or_self, ite_self, bI_0, bI_1, bI_01, Bool.false_eq_true, reduceCtorEq]
  refine p_Ru_goOftenL (X := X) hrn N hN N 0 _ (by omega) ⟨g, TH, RR_10 hR⟩ (fun m f' h _ => ?_)
  have := hQ m f' h
  rw [Nat.zero_add]
  exact this
/-- many -/
theorem RR_M62 {z : Int} (h : RR X f t g TH) : RR X f t (mset g 156 62 z) TH := by
  have ha : ∀ r, aT f r = aT f r := fun r => rfl
  exact ⟨h.tc, TM_fr h.tm (FG_m (by omega)) ha, h.rn, RnM_pl h.rm (fun _ _ _ => rfl) (fun b j hh => by rw [rd, if_neg (by omega)]) (by rw [rd, if_neg (by omega)]; exact h.rm.r7), RSt_fr2 h.st (fun _ _ _ _ => rfl) (fun b j hh => by rw [rd, if_neg (by omega)]), h.rc, h.w9⟩
theorem p_M_manyL {nn : Int} (hrn : rn = (if nn < 0 then 1 else 0)) (N : Nat) (hN : N ≤ 1000) : ∀ (k n m : Nat) (f g : Mem) (TH : Nat), n + k = N → RR X f t g TH → g 156 62 = f 151 10 → GoL X t rn k f m f' → (∀ g' TH', RR X f' t g' TH' → g' 156 62 = f' 151 10 → FG g g' → Q (some (tI ((n + m : Nat) : Int))) (WW F t g')) → VV L (d + 46) m_M_many 19 [some (tA 156), some (tI nn), some (tI N), some (tI n)] [] (WW F t g) Q := by
  have hrn' : rn = 0 ∨ rn = 1 := by rw [hrn]; split <;> omega
  intro k
  induction k with
  | zero =>
    intro n m f g TH hn hR h62 hL hQ
    have hnN : (N : Int) ≤ n := by omega
    rw [u_M_many_19]
    simp only [u_M_many_20, u_M_many_21, u_M_many_46, u_M_many_47, ne_eq, not_false_eq_true, not_true_eq_false, true_and, and_true, true_or, or_true, eq_self, Option.toList_some, Option.toList_none, List.cons_append, List.nil_append, tc_0, tc_I, tc_L, tc_A, Nat.reduceAdd, Nat.reduceLeDiff, Nat.reduceEqDiff, Int.reduceEq, Int.reduceLT, Int.reduceLE, Int.reduceNeg, Int.reduceToNat, Int.cast_ofNat_Int, if_true, if_false, and_self, or_self, ite_self, bI_0, bI_1, bI_01, Bool.false_eq_true, reduceCtorEq, hnN]
    obtain ⟨rfl, rfl⟩ := hL
    exact hQ g TH hR h62 FG_refl
  | succ k ih =>
    intro n m f g TH hn hR h62 hL hQ
    obtain ⟨code, f1, hG, hL⟩ := hL
    have hnN : ¬ (N : Int) ≤ n := by omega
    have hst : VV L (d + 46) m_M_many 19 [some (tA 156), some (tI nn), some (tI N), some (tI n)] [] (WW F t g) Q = VV L (d + 45) m_M_goes 0 [some (tA 156), some (tI rn), none] [] (WW F t g) (fun r_1 w1 => VV L (d + 45 + 1) m_M_many 37 [some (tA 156), some (tI nn), some (tI N), some (tI n)] (r_1.toList ++ []) w1 Q) := by
      rw [u_M_many_19, hrn]
      by_cases hneg : nn < 0
      · simp only [u_M_many_20, u_M_many_21, u_M_many_24, u_M_many_25, u_M_many_26, u_M_many_29, u_M_many_30, u_M_many_33, u_M_many_34, h1_156, ne_eq, not_false_eq_true, not_true_eq_false, true_and, and_true, true_or, or_true, eq_self, Option.toList_some, Option.toList_none, List.cons_append, List.nil_append, tc_0, tc_I, tc_L, tc_A, Nat.reduceAdd, Nat.reduceLeDiff, Nat.reduceEqDiff, Int.reduceEq, Int.reduceLT, Int.reduceLE, Int.reduceNeg, Int.reduceToNat, Int.cast_ofNat_Int, if_true, if_false, and_self, or_self, ite_self, bI_0, bI_1, bI_01, Bool.false_eq_true, reduceCtorEq, hnN, hneg, show ¬ 0 ≤ nn by omega, if_true]
      · simp only [u_M_many_20, u_M_many_21, u_M_many_24, u_M_many_25, u_M_many_26, u_M_many_29, u_M_many_30, u_M_many_33, u_M_many_34, h1_156, ne_eq, not_false_eq_true, not_true_eq_false, true_and, and_true, true_or, or_true, eq_self, Option.toList_some, Option.toList_none, List.cons_append, List.nil_append, tc_0, tc_I, tc_L, tc_A, Nat.reduceAdd, Nat.reduceLeDiff, Nat.reduceEqDiff, Int.reduceEq, Int.reduceLT, Int.reduceLE, Int.reduceNeg, Int.reduceToNat, Int.cast_ofNat_Int, if_true, if_false, and_self, or_self, ite_self, bI_0, bI_1, bI_01, Bool.false_eq_true, reduceCtorEq, hnN, hneg, show 0 ≤ nn by omega, if_false]
    rw [hst]
    refine p_M_goes hR hrn' hG (fun g' TH' h1 h2 h3 => ?_)
    have h62' : g' 156 62 = stC f1 code rn 151 10 := by rw [stC_10]; exact h2
    by_cases hc0 : code = 0
    · subst hc0
      rw [if_pos rfl] at hL
      obtain ⟨m', rfl, hL⟩ := hL
      have wn : w32 ((n : Int) + 1) = ((n + 1 : Nat) : Int) := by rw [w32_id (by omega) (by omega)]; omega
      simp only [u_M_many_37, u_M_many_40, u_M_many_43, ne_eq, not_false_eq_true, not_true_eq_false, true_and, and_true, true_or, or_true, eq_self, Option.toList_some, Option.toList_none, List.cons_append, List.nil_append, tc_0, tc_I, tc_L, tc_A, Nat.reduceAdd, Nat.reduceLeDiff, Nat.reduceEqDiff, Int.reduceEq, Int.reduceLT, Int.reduceLE, Int.reduceNeg, Int.reduceToNat, Int.cast_ofNat_Int, if_true, if_false, and_self, or_self, ite_self, bI_0, bI_1, bI_01, Bool.false_eq_true, reduceCtorEq, wn, if_true]
      refine ih (n + 1) m' _ g' TH' (by omega) h1 h62' hL (fun g2 TH2 a1 a2 a3 => ?_)
      have := hQ g2 TH2 a1 a2 (FG_tr h3 a3)
      rw [show n + (m' + 1) = n + 1 + m' by omega] at this
      exact this
    · rw [if_neg hc0] at hL
      obtain ⟨rfl, rfl⟩ := hL
      simp only [u_M_many_37, u_M_many_40, u_M_many_43, u_M_many_46, u_M_many_47, ne_eq, not_false_eq_true, not_true_eq_false, true_and, and_true, true_or, or_true, eq_self, Option.toList_some, Option.toList_none, List.cons_append, List.nil_append, tc_0, tc_I, tc_L, tc_A, Nat.reduceAdd, Nat.reduceLeDiff, Nat.reduceEqDiff, Int.reduceEq, Int.reduceLT, Int.reduceLE, Int.reduceNeg, Int.reduceToNat, Int.cast_ofNat_Int, if_true, if_false, and_self, or_self, ite_self, bI_0, bI_1, bI_01, Bool.false_eq_true, reduceCtorEq, hc0, if_false]
      exact hQ g' TH' h1 h62' h3
theorem p_M_many {nn : Int} {N m : Nat} (hrn : rn = (if nn < 0 then 1 else 0)) (hN : N ≤ 1000) (hnn : (N : Int) = (if nn < 0 then -nn else nn)) (hR : RR X f t g TH) (hL : GoL X t rn N (mset f 151 10 0) m f') (hQ : ∀ g' TH', RR X f' t g' TH' → g' 156 62 = f' 151 10 → FG g g' → Q (some (tI ((m : Nat) : Int))) (WW F t g')) : VV L (d + 46) m_M_many 0 [some (tA 156), some (tI nn), none, none] [] (WW F t g) Q := by
  have hst : VV L (d + 46) m_M_many 0 [some (tA 156), some (tI nn), none, none] [] (WW F t g) Q = VV L (d + 46) m_M_many 19 [some (tA 156), some (tI nn), some (tI N), some (tI ((0 : Nat) : Int))] [] (WW F t (mset g 156 62 0)) Q := by
    by_cases hneg : nn < 0
    · rw [if_pos hneg] at hnn
      have : w32 (0 - nn) = (N : Int) := by rw [w32_id (by omega) (by omega)]; omega
      simp only [u_M_many_0, u_M_many_1, u_M_many_4, u_M_many_5, u_M_many_6, u_M_many_7, u_M_many_10, u_M_many_11, u_M_many_12, u_M_many_13, u_M_many_14, u_M_many_15, u_M_many_16, h1_156, pt_156_62, ne_eq, not_false_eq_true, not_true_eq_false, true_and, and_true, true_or, or_true, eq_self, Option.toList_some, Option.toList_none, List.cons_append, List.nil_append, tc_0, tc_I, tc_L, tc_A, Nat.reduceAdd, Nat.reduceLeDiff, Nat.reduceEqDiff, Int.reduceEq, Int.reduceLT, Int.reduceLE, Int.reduceNeg, Int.reduceToNat, Int.cast_ofNat_Int, if_true, if_false, and_self, or_self, ite_self, bI_0, bI_1, bI_01, Bool.false_eq_true, reduceCtorEq, show ¬ 0 ≤ nn by omega, this]
    · rw [if_neg hneg] at hnn
      simp only [u_M_many_0, u_M_many_1, u_M_many_4, u_M_many_5, u_M_many_6, u_M_many_7, u_M_many_10, u_M_many_11, u_M_many_12, u_M_many_13, u_M_many_14, u_M_many_15, u_M_many_16, h1_156, pt_156_62, ne_eq, not_false_eq_true, not_true_eq_false, true_and, and_true, true_or, or_true, eq_self, Option.toList_some, Option.toList_none, List.cons_append, List.nil_append, tc_0, tc_I, tc_L, tc_A, Nat.reduceAdd, Nat.reduceLeDiff, Nat.reduceEqDiff, Int.reduceEq, Int.reduceLT, Int.reduceLE, Int.reduceNeg, Int.reduceToNat, Int.cast_ofNat_Int, if_true, if_false, and_self, or_self, ite_self, bI_0, bI_1, bI_01, Bool.false_eq_true, reduceCtorEq, show 0 ≤ nn by omega, hnn]
  rw [hst]
  refine p_M_manyL (X := X) hrn N hN N 0 m _ _ TH (by omega) (RR_M62 (RR_10 hR)) ?_ hL (fun g' TH' h1 h2 h3 => ?_)
  · rw [rd, if_pos (by simp), rd, if_pos (by simp)]
  · rw [Nat.zero_add]; exact hQ g' TH' h1 h2 (FG_tr (FG_m (by omega)) h3)
end
