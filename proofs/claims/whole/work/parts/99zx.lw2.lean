/-! The law: its loop -/
section
variable {L d : Nat} {Q : Option TV → Wd → Prop}
theorem ar_lw2 {i L : Nat} (hL : L ≤ 3072) (hi : ¬ (L : Int) - 6 < (i : Int)) : i + 6 ≤ L ∧ (0 : Int) ≤ i ∧ (i : Int) < L ∧ w32 ((i : Int) + 6) = ((i + 6 : Nat) : Int) := by
  refine ⟨by omega, by omega, by omega, ?_⟩; rw [w32_id (by omega) (by omega)]; omega
theorem l_law (hMi : ∀ a b : Int, Both tI m_T_mirror [some (tA 1), some (tI a), some (tI b)] m_M_mirror [some (tA 156), some (tI a), some (tI b)]) (hTu : ∀ a b : Int, Both tI m_T_turn [some (tA 1), some (tI a), some (tI b)] m_M_turn [some (tA 156), some (tI a), some (tI b), none]) (hL : L ≤ 3072) (hQ : ∀ w, Q (some (tI 1)) w) : ∀ (m i : Nat) (f t g : Mem), L < i + m → (∀ j, j < L → R32 (g 900 j)) → Rel f t g → VV L (d + 200 + 1) m_Law_law 18 [some (tA 900), some (tA 1), some (tA 156), some (tI i)] [] (WW f t g) Q := by
  have w6 : w32 ((L : Int) - 6) = (L : Int) - 6 := w32_id (by omega) (by omega)
  intro m
  induction m with
  | zero =>
    intro i f t g hm _ _
    have h1 : (L : Int) - 6 < (i : Int) := by omega
    rw [u_Law_law_18]
    simp only [u_Law_law_19, u_Law_law_20, u_Law_law_21, u_Law_law_23, u_Law_law_24, u_Law_law_1314, u_Law_law_1315, s9k, s9n, ne_eq, not_false_eq_true, not_true_eq_false, true_and, and_true, true_or, or_true, eq_self, Option.toList_some, Option.toList_none, List.cons_append, List.nil_append, tc_0, tc_I, tc_L, tc_A, Nat.reduceAdd, Nat.reduceLeDiff, Nat.reduceEqDiff, Int.reduceEq, Int.reduceLT, Int.reduceLE, Int.reduceNeg, Int.reduceToNat, Int.cast_ofNat_Int, if_true, if_false, and_self, or_self, ite_self, bI_0, bI_1, bI_01, Bool.false_eq_true, reduceCtorEq, w6, h1]
    exact hQ _
  | succ m ih =>
    intro i f t g hm hsc hR
    by_cases h1 : (L : Int) - 6 < (i : Int)
    · rw [u_Law_law_18]
      simp only [u_Law_law_19, u_Law_law_20, u_Law_law_21, u_Law_law_23, u_Law_law_24, u_Law_law_1314, u_Law_law_1315, s9k, s9n, ne_eq, not_false_eq_true, not_true_eq_false, true_and, and_true, true_or, or_true, eq_self, Option.toList_some, Option.toList_none, List.cons_append, List.nil_append, tc_0, tc_I, tc_L, tc_A, Nat.reduceAdd, Nat.reduceLeDiff, Nat.reduceEqDiff, Int.reduceEq, Int.reduceLT, Int.reduceLE, Int.reduceNeg, Int.reduceToNat, Int.cast_ofNat_Int, if_true, if_false, and_self, or_self, ite_self, bI_0, bI_1, bI_01, Bool.false_eq_true, reduceCtorEq, w6, h1]
      exact hQ _
    · obtain ⟨hi, i0, iL, wi⟩ := ar_lw2 hL h1
      have hN : ∀ f' t' g', Rel f' t' g' → (∀ j, g' 900 j = g 900 j) → VV L (d + 200 + 1) m_Law_law 1308 [some (tA 900), some (tA 1), some (tA 156), some (tI i)] [] (WW f' t' g') Q := by
        intro f' t' g' hR' h9
        simp only [u_Law_law_1308, u_Law_law_1311, ne_eq, not_false_eq_true, not_true_eq_false, true_and, and_true, true_or, or_true, eq_self, Option.toList_some, Option.toList_none, List.cons_append, List.nil_append, tc_0, tc_I, tc_L, tc_A, Nat.reduceAdd, Nat.reduceLeDiff, Nat.reduceEqDiff, Int.reduceEq, Int.reduceLT, Int.reduceLE, Int.reduceNeg, Int.reduceToNat, Int.cast_ofNat_Int, if_true, if_false, and_self, or_self, ite_self, bI_0, bI_1, bI_01, Bool.false_eq_true, reduceCtorEq, wi]
        exact ih (i + 6) f' t' g' (by omega) (fun j hj => by rw [h9]; exact hsc j hj) hR'
      have st : VV L (d + 200 + 1) m_Law_law 18 [some (tA 900), some (tA 1), some (tA 156), some (tI i)] [] (WW f t g) Q = VV L (d + 200 + 1) m_Law_law 33 [some (tA 900), some (tA 1), some (tA 156), some (tI i)] [tI (o32 (fun x y => x &&& y) (g 900 i) 63)] (WW f t g) Q := by
        rw [u_Law_law_18]
        simp only [u_Law_law_19, u_Law_law_20, u_Law_law_21, u_Law_law_23, u_Law_law_24, u_Law_law_27, u_Law_law_28, u_Law_law_29, u_Law_law_30, u_Law_law_32, s9k, s9n, s9g, ne_eq, not_false_eq_true, not_true_eq_false, true_and, and_true, true_or, or_true, eq_self, Option.toList_some, Option.toList_none, List.cons_append, List.nil_append, tc_0, tc_I, tc_L, tc_A, Nat.reduceAdd, Nat.reduceLeDiff, Nat.reduceEqDiff, Int.reduceEq, Int.reduceLT, Int.reduceLE, Int.reduceNeg, Int.reduceToNat, Int.cast_ofNat_Int, if_true, if_false, and_self, or_self, ite_self, bI_0, bI_1, bI_01, Bool.false_eq_true, reduceCtorEq, w6, h1, i0, iL, Int.toNat_natCast, or_true]
      rw [st]
      generalize o32 (fun x y => x &&& y) (g 900 i) 63 = x
      rw [u_Law_law_33]
      by_cases h100 : x = 0
      · rw [if_pos h100]; exact lw_type hi hL hsc hR hN
      rw [if_neg h100]
      by_cases h101 : x = 1
      · rw [if_pos h101]; exact lw_read hi hL hsc hR hN
      rw [if_neg h101]
      by_cases h102 : x = 2
      · rw [if_pos h102]; exact lw_fault hi hL hsc hR hN
      rw [if_neg h102]
      by_cases h103 : x = 3
      · rw [if_pos h103]; exact lw_drop hi hL hsc hR hN
      rw [if_neg h103]
      by_cases h104 : x = 4
      · rw [if_pos h104]; exact lw_told hi hL hsc hR hN
      rw [if_neg h104]
      by_cases h105 : x = 5
      · rw [if_pos h105]; exact lw_print hi hL hsc hR hN
      rw [if_neg h105]
      by_cases h106 : x = 6
      · rw [if_pos h106]; exact lw_out hi hL hsc hR hN
      rw [if_neg h106]
      by_cases h107 : x = 7
      · rw [if_pos h107]; exact lw_take hi hL hsc hR hN
      rw [if_neg h107]
      by_cases h108 : x = 8
      · rw [if_pos h108]; exact lw_same hi hL hsc hR hN
      rw [if_neg h108]
      by_cases h109 : x = 9
      · rw [if_pos h109]; exact lw_mirror hMi hi hL hsc hR hN
      rw [if_neg h109]
      by_cases h110 : x = 10
      · rw [if_pos h110]; exact lw_turn hTu hi hL hsc hR hN
      rw [if_neg h110]
      by_cases h111 : x = 11
      · rw [if_pos h111]; exact lw_walk hi hL hsc hR hN
      rw [if_neg h111]
      by_cases h112 : x = 12
      · rw [if_pos h112]; exact lw_wipe hi hL hsc hR hN
      rw [if_neg h112]
      by_cases h113 : x = 13
      · rw [if_pos h113]; exact lw_give hi hL hsc hR hN
      rw [if_neg h113]
      by_cases h114 : x = 14
      · rw [if_pos h114]; exact lw_has hi hL hsc hR hN
      rw [if_neg h114]
      by_cases h115 : x = 15
      · rw [if_pos h115]; exact lw_value hi hL hsc hR hN
      rw [if_neg h115]
      by_cases h116 : x = 16
      · rw [if_pos h116]; exact lw_row hi hL hsc hR hN
      rw [if_neg h116]
      by_cases h117 : x = 17
      · rw [if_pos h117]; exact lw_item hi hL hsc hR hN
      rw [if_neg h117]
      by_cases h118 : x = 18
      · rw [if_pos h118]; exact lw_height hi hL hsc hR hN
      rw [if_neg h118]
      by_cases h119 : x = 19
      · rw [if_pos h119]; exact lw_piled hi hL hsc hR hN
      rw [if_neg h119]
      by_cases h120 : x = 20
      · rw [if_pos h120]; exact lw_begin hi hL hsc hR hN
      rw [if_neg h120]
      by_cases h121 : x = 21
      · rw [if_pos h121]; exact lw_go hi hL hsc hR hN
      rw [if_neg h121]
      by_cases h122 : x = 22
      · rw [if_pos h122]; exact lw_run hi hL hsc hR hN
      rw [if_neg h122]
      by_cases h123 : x = 23
      · rw [if_pos h123]; exact lw_goTo hi hL hsc hR hN
      rw [if_neg h123]
      by_cases h124 : x = 24
      · rw [if_pos h124]; exact lw_at hi hL hsc hR hN
      rw [if_neg h124]
      by_cases h125 : x = 25
      · rw [if_pos h125]; exact lw_frame hi hL hsc hR hN
      rw [if_neg h125]
      by_cases h126 : x = 26
      · rw [if_pos h126]; exact lw_digest hi hL hsc hR hN
      rw [if_neg h126]
      by_cases h127 : x = 27
      · rw [if_pos h127]; exact lw_lay hi hL hsc hR hN
      rw [if_neg h127]
      by_cases h128 : x = 28
      · rw [if_pos h128]; exact lw_lift hi hL hsc hR hN
      rw [if_neg h128]
      by_cases h129 : x = 29
      · rw [if_pos h129]; exact lw_put hi hL hsc hR hN
      rw [if_neg h129]
      by_cases h130 : x = 30
      · rw [if_pos h130]; exact lw_set hi hL hsc hR hN
      rw [if_neg h130]
      by_cases h131 : x = 31
      · rw [if_pos h131]; exact lw_get hi hL hsc hR hN
      rw [if_neg h131]
      by_cases h132 : x = 32
      · rw [if_pos h132]; exact lw_failed hi hL hsc hR hN
      rw [if_neg h132]
      by_cases h133 : x = 33
      · rw [if_pos h133]; exact lw_copy hi hL hsc hR hN
      rw [if_neg h133]
      by_cases h134 : x = 34
      · rw [if_pos h134]; exact lw_alike hi hL hsc hR hN
      rw [if_neg h134]
      exact hN f t g hR (fun _ => rfl)
end
