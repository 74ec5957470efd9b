/-! The reference's reader: steps with parts -/
section
variable {L d c : Nat} {f t g g' gs g0 : Mem} {Q : Option TV → Wd → Prop} {y : Int → Int} {n k k' br z w i o_ op : Int} {len N R : Nat} {σ : Sg}
theorem p_if {B : Type} {pt : Int → Sg → PS B} (hL : Lexd y n len) (hn6 : n ≤ 600) (hc : c = 8) (hF : FS gs g) (hM : MR y n len k 0 0 0 g) (hl : LKs y len k g) (hC : CT (k + 1) σ br g) (hσ : okSg σ) (hpt : okPt pt) (hP : PSpM L (d + 59) y n len f t br pt) (hz : z = sk y (eN y k.toNat)) (hk : Tk y len k = 208) (hQ : RS y n len gs f t br Q k (fin (Tk y len) k (pIf c (Tk y len) pt 209 210 k σ))) : VV L (d + 60) m_M_readStep 105 [some (tA 156), some (tI z), some (tI o_), none, none, none, none, none] [] (WW f t g) Q := by
  have hn1 : nIns (Tk y len k) = 3 := by rw [hk]; rfl
  refine p_key hL hn6 hM hl (by omega) (fun g1 h1 => ?_)
  unfold pIf at hQ
  simp only [u_M_readStep_181, u_M_readStep_182, u_M_readStep_183, u_M_readStep_186, u_M_readStep_187, u_M_readStep_189, u_M_readStep_256, u_M_readStep_257, u_M_readStep_258, u_M_readStep_287, u_M_readStep_288, u_M_readStep_289, u_M_readStep_346, u_M_readStep_347, u_M_readStep_349, u_M_readStep_361, u_M_readStep_362, u_M_readStep_364, u_M_readStep_367, u_M_readStep_368, ne_eq, not_false_eq_true, not_true_eq_false, true_and, and_true, true_or, or_true, eq_self, Option.toList_some, Option.toList_none, List.cons_append, List.nil_append, tc_0, tc_I, tc_L, tc_A, Nat.reduceAdd, Nat.reduceLeDiff, Nat.reduceEqDiff, Int.reduceEq, Int.reduceLT, Int.reduceLE, Int.reduceNeg, Int.reduceToNat, Int.cast_ofNat_Int, if_true, if_false, and_self, or_self, ite_self, bI_0, bI_1, bI_01, Bool.false_eq_true, reduceCtorEq, h1_156, hk, Int.reduceSub]
  refine p_E8 (d := d + 9) hL hn6 hc h1 (by rw [show k + 1 - 1 = k by omega, hk]; decide) ?_
  cases hp : pX c (Tk y len) (k + 1) with
  | error e =>
    obtain ⟨w, i, q⟩ := e
    rw [hp] at hQ
    intro g5 a b e
    simp only [u_M_readStep_371, u_M_readStep_426, u_M_readStep_427, u_M_readStep_429, u_M_readStep_430, u_M_readStep_432, ne_eq, not_false_eq_true, not_true_eq_false, true_and, and_true, true_or, or_true, eq_self, Option.toList_some, Option.toList_none, List.cons_append, List.nil_append, tc_0, tc_I, tc_L, tc_A, Nat.reduceAdd, Nat.reduceLeDiff, Nat.reduceEqDiff, Int.reduceEq, Int.reduceLT, Int.reduceLE, Int.reduceNeg, Int.reduceToNat, Int.cast_ofNat_Int, if_true, if_false, and_self, or_self, ite_self, bI_0, bI_1, bI_01, Bool.false_eq_true, reduceCtorEq]
    exact p_583e hQ (FS_FE hF a) b e
  | ok q =>
    obtain ⟨e1, j⟩ := q
    rw [hp] at hQ
    dsimp only at hQ
    intro g5 N5 R5 h5 _ _ hlt5
    simp only [u_M_readStep_371, u_M_readStep_374, u_M_readStep_375, ne_eq, not_false_eq_true, not_true_eq_false, true_and, and_true, true_or, or_true, eq_self, Option.toList_some, Option.toList_none, List.cons_append, List.nil_append, tc_0, tc_I, tc_L, tc_A, Nat.reduceAdd, Nat.reduceLeDiff, Nat.reduceEqDiff, Int.reduceEq, Int.reduceLT, Int.reduceLE, Int.reduceNeg, Int.reduceToNat, Int.cast_ofNat_Int, if_true, if_false, and_self, or_self, ite_self, bI_0, bI_1, bI_01, Bool.false_eq_true, reduceCtorEq, h1_156]
    have hS5 : SM y n len gs j σ br g5 := ⟨FS_FE hF h5.1, ⟨_, _, _, h5.2⟩, CT_FC hC (FC_of h5.1) (by omega)⟩
    unfold pTwo at hQ
    refine hP gs g5 j σ _ hσ hS5 ?_
    cases hp2 : pt j σ with
    | error e =>
      obtain ⟨⟨w, i, q⟩, σ'⟩ := e
      rw [hp2] at hQ
      intro g6 a b e
      simp only [u_M_readStep_378, u_M_readStep_426, u_M_readStep_427, u_M_readStep_429, u_M_readStep_430, u_M_readStep_432, ne_eq, not_false_eq_true, not_true_eq_false, true_and, and_true, true_or, or_true, eq_self, Option.toList_some, Option.toList_none, List.cons_append, List.nil_append, tc_0, tc_I, tc_L, tc_A, Nat.reduceAdd, Nat.reduceLeDiff, Nat.reduceEqDiff, Int.reduceEq, Int.reduceLT, Int.reduceLE, Int.reduceNeg, Int.reduceToNat, Int.cast_ofNat_Int, if_true, if_false, and_self, or_self, ite_self, bI_0, bI_1, bI_01, Bool.false_eq_true, reduceCtorEq]
      exact p_583e hQ a b e
    | ok q =>
      obtain ⟨x, j2, σ2⟩ := q
      rw [hp2] at hQ
      dsimp only at hQ
      intro g6 hS6 hlt6
      have hσ2 := hpt _ _ _ _ _ hσ hp2
      obtain ⟨op6, N6, R6, hM6⟩ := hS6.2.1
      simp only [u_M_readStep_378, u_M_readStep_381, u_M_readStep_382, u_M_readStep_383, u_M_readStep_385, ne_eq, not_false_eq_true, not_true_eq_false, true_and, and_true, true_or, or_true, eq_self, Option.toList_some, Option.toList_none, List.cons_append, List.nil_append, tc_0, tc_I, tc_L, tc_A, Nat.reduceAdd, Nat.reduceLeDiff, Nat.reduceEqDiff, Int.reduceEq, Int.reduceLT, Int.reduceLE, Int.reduceNeg, Int.reduceToNat, Int.cast_ofNat_Int, if_true, if_false, and_self, or_self, ite_self, bI_0, bI_1, bI_01, Bool.false_eq_true, reduceCtorEq, h1_156]
      refine p_wantsK (d := d + 54) hL hn6 (ME_mk hM6) (by omega) (by omega) (fun e g7 h7 => ?_) (fun e g7 a b e' => ?_)
      · replace e : Tk y len j2 = 209 := by omega
        rw [if_pos e] at hQ
        simp only [u_M_readStep_388, u_M_readStep_391, u_M_readStep_392, ne_eq, not_false_eq_true, not_true_eq_false, true_and, and_true, true_or, or_true, eq_self, Option.toList_some, Option.toList_none, List.cons_append, List.nil_append, tc_0, tc_I, tc_L, tc_A, Nat.reduceAdd, Nat.reduceLeDiff, Nat.reduceEqDiff, Int.reduceEq, Int.reduceLT, Int.reduceLE, Int.reduceNeg, Int.reduceToNat, Int.cast_ofNat_Int, if_true, if_false, and_self, or_self, ite_self, bI_0, bI_1, bI_01, Bool.false_eq_true, reduceCtorEq, h1_156]
        refine hP gs g7 (j2 + 1) σ2 _ hσ2 (SM_FE hS6 h7.1 h7.2 (by omega)) ?_
        cases hp3 : pt (j2 + 1) σ2 with
        | error e =>
          obtain ⟨⟨w, i, q⟩, σ'⟩ := e
          rw [hp3] at hQ
          intro g8 a b e
          simp only [u_M_readStep_395, u_M_readStep_426, u_M_readStep_427, u_M_readStep_429, u_M_readStep_430, u_M_readStep_432, ne_eq, not_false_eq_true, not_true_eq_false, true_and, and_true, true_or, or_true, eq_self, Option.toList_some, Option.toList_none, List.cons_append, List.nil_append, tc_0, tc_I, tc_L, tc_A, Nat.reduceAdd, Nat.reduceLeDiff, Nat.reduceEqDiff, Int.reduceEq, Int.reduceLT, Int.reduceLE, Int.reduceNeg, Int.reduceToNat, Int.cast_ofNat_Int, if_true, if_false, and_self, or_self, ite_self, bI_0, bI_1, bI_01, Bool.false_eq_true, reduceCtorEq]
          exact p_583e hQ a b e
        | ok q =>
          obtain ⟨x2, j3, σ3⟩ := q
          rw [hp3] at hQ
          dsimp only at hQ
          intro g8 hS8 hlt8
          have hσ3 := hpt _ _ _ _ _ hσ2 hp3
          obtain ⟨op8, N8, R8, hM8⟩ := hS8.2.1
          simp only [u_M_readStep_395, u_M_readStep_398, u_M_readStep_399, u_M_readStep_400, u_M_readStep_402, ne_eq, not_false_eq_true, not_true_eq_false, true_and, and_true, true_or, or_true, eq_self, Option.toList_some, Option.toList_none, List.cons_append, List.nil_append, tc_0, tc_I, tc_L, tc_A, Nat.reduceAdd, Nat.reduceLeDiff, Nat.reduceEqDiff, Int.reduceEq, Int.reduceLT, Int.reduceLE, Int.reduceNeg, Int.reduceToNat, Int.cast_ofNat_Int, if_true, if_false, and_self, or_self, ite_self, bI_0, bI_1, bI_01, Bool.false_eq_true, reduceCtorEq, h1_156]
          refine p_wantsK (d := d + 54) hL hn6 (ME_mk hM8) (by omega) (by omega) (fun e g9 h9 => ?_) (fun e g9 a b e' => ?_)
          · replace e : Tk y len j3 = 210 := by omega
            rw [if_pos e] at hQ
            simp only [u_M_readStep_405, u_M_readStep_408, u_M_readStep_409, u_M_readStep_412, u_M_readStep_415, u_M_readStep_416, ne_eq, not_false_eq_true, not_true_eq_false, true_and, and_true, true_or, or_true, eq_self, Option.toList_some, Option.toList_none, List.cons_append, List.nil_append, tc_0, tc_I, tc_L, tc_A, Nat.reduceAdd, Nat.reduceLeDiff, Nat.reduceEqDiff, Int.reduceEq, Int.reduceLT, Int.reduceLE, Int.reduceNeg, Int.reduceToNat, Int.cast_ofNat_Int, if_true, if_false, and_self, or_self, ite_self, bI_0, bI_1, bI_01, Bool.false_eq_true, reduceCtorEq, h1_156, u_M_again_0, u_M_again_1, u_M_again_2, u_M_again_5, u_M_again_6, h1_156, gt_156_16, pt_156_16]
            have h10 := ME_op (v := 0) h9
            refine p_E8 (d := d + 9) hL hn6 hc h10 (by rw [show j3 + 1 - 1 = j3 by omega, e]; decide) ?_
            have hS9 := SM_FE hS8 h9.1 h9.2 (show j3 ≤ j3 + 1 by omega)
            cases hp4 : pX c (Tk y len) (j3 + 1) with
            | error e =>
              obtain ⟨w, i, q⟩ := e
              rw [hp4] at hQ
              intro g11 a b e
              simp only [u_M_readStep_419, u_M_readStep_422, u_M_readStep_423, u_M_readStep_426, u_M_readStep_427, u_M_readStep_429, u_M_readStep_430, u_M_readStep_432, ne_eq, not_false_eq_true, not_true_eq_false, true_and, and_true, true_or, or_true, eq_self, Option.toList_some, Option.toList_none, List.cons_append, List.nil_append, tc_0, tc_I, tc_L, tc_A, Nat.reduceAdd, Nat.reduceLeDiff, Nat.reduceEqDiff, Int.reduceEq, Int.reduceLT, Int.reduceLE, Int.reduceNeg, Int.reduceToNat, Int.cast_ofNat_Int, if_true, if_false, and_self, or_self, ite_self, bI_0, bI_1, bI_01, Bool.false_eq_true, reduceCtorEq]
              exact p_583e hQ (FS_FE hS8.1 a) b e
            | ok q =>
              obtain ⟨e2, j4⟩ := q
              rw [hp4] at hQ
              intro g11 N11 R11 h11 _ _ hlt11
              simp only [u_M_readStep_419, u_M_readStep_422, u_M_readStep_423, u_M_readStep_426, u_M_readStep_427, u_M_readStep_429, u_M_readStep_430, u_M_readStep_432, ne_eq, not_false_eq_true, not_true_eq_false, true_and, and_true, true_or, or_true, eq_self, Option.toList_some, Option.toList_none, List.cons_append, List.nil_append, tc_0, tc_I, tc_L, tc_A, Nat.reduceAdd, Nat.reduceLeDiff, Nat.reduceEqDiff, Int.reduceEq, Int.reduceLT, Int.reduceLE, Int.reduceNeg, Int.reduceToNat, Int.cast_ofNat_Int, if_true, if_false, and_self, or_self, ite_self, bI_0, bI_1, bI_01, Bool.false_eq_true, reduceCtorEq]
              refine p_end (d := d + 54) (op := 0) (N := N11) (R := R11) hL hn6 (FS_FE hS8.1 h11.1) h11.2 (CT_FC hS8.2.2 (FC_of h11.1) (by omega)) hσ3 hz (Or.inl rfl) (Or.inl rfl) hn1.symm (by omega) (fun h59 => ?_) hQ
              unfold inIt
              have hkn : kName (Tk y len k) = false := by rw [hk]; rfl
              rw [if_neg (by omega), hkn]; simp
          · replace e : ¬ Tk y len j3 = 210 := by omega
            rw [if_neg e] at hQ
            simp only [u_M_readStep_405, u_M_readStep_426, u_M_readStep_427, u_M_readStep_429, u_M_readStep_430, u_M_readStep_432, ne_eq, not_false_eq_true, not_true_eq_false, true_and, and_true, true_or, or_true, eq_self, Option.toList_some, Option.toList_none, List.cons_append, List.nil_append, tc_0, tc_I, tc_L, tc_A, Nat.reduceAdd, Nat.reduceLeDiff, Nat.reduceEqDiff, Int.reduceEq, Int.reduceLT, Int.reduceLE, Int.reduceNeg, Int.reduceToNat, Int.cast_ofNat_Int, if_true, if_false, and_self, or_self, ite_self, bI_0, bI_1, bI_01, Bool.false_eq_true, reduceCtorEq]
            exact p_583e hQ (FS_FE hS8.1 a) b e'
      · replace e : ¬ Tk y len j2 = 209 := by omega
        rw [if_neg e] at hQ
        simp only [u_M_readStep_388, u_M_readStep_426, u_M_readStep_427, u_M_readStep_429, u_M_readStep_430, u_M_readStep_432, ne_eq, not_false_eq_true, not_true_eq_false, true_and, and_true, true_or, or_true, eq_self, Option.toList_some, Option.toList_none, List.cons_append, List.nil_append, tc_0, tc_I, tc_L, tc_A, Nat.reduceAdd, Nat.reduceLeDiff, Nat.reduceEqDiff, Int.reduceEq, Int.reduceLT, Int.reduceLE, Int.reduceNeg, Int.reduceToNat, Int.cast_ofNat_Int, if_true, if_false, and_self, or_self, ite_self, bI_0, bI_1, bI_01, Bool.false_eq_true, reduceCtorEq]
        exact p_583e hQ (FS_FE hS6.1 a) b e'
theorem p_from {B : Type} {pt : Int → Sg → PS B} (hL : Lexd y n len) (hn6 : n ≤ 600) (hc : c = 8) (hF : FS gs g) (hM : MR y n len k 0 0 0 g) (hl : LKs y len k g) (hC : CT (k + 1) σ br g) (hσ : okSg σ) (hpt : okPt pt) (hP : PSpM L (d + 59) y n len f t br pt) (hz : z = sk y (eN y k.toNat)) (hk : Tk y len k = 211) (hQ : RS y n len gs f t br Q k (fin (Tk y len) k (pIf c (Tk y len) pt 212 213 k σ))) : VV L (d + 60) m_M_readStep 105 [some (tA 156), some (tI z), some (tI o_), none, none, none, none, none] [] (WW f t g) Q := by
  have hn1 : nIns (Tk y len k) = 3 := by rw [hk]; rfl
  refine p_key hL hn6 hM hl (by omega) (fun g1 h1 => ?_)
  unfold pIf at hQ
  simp only [u_M_readStep_181, u_M_readStep_182, u_M_readStep_183, u_M_readStep_186, u_M_readStep_187, u_M_readStep_189, u_M_readStep_256, u_M_readStep_257, u_M_readStep_258, u_M_readStep_287, u_M_readStep_288, u_M_readStep_289, u_M_readStep_346, u_M_readStep_347, u_M_readStep_349, u_M_readStep_361, u_M_readStep_362, u_M_readStep_364, u_M_readStep_435, u_M_readStep_436, u_M_readStep_438, u_M_readStep_441, u_M_readStep_442, ne_eq, not_false_eq_true, not_true_eq_false, true_and, and_true, true_or, or_true, eq_self, Option.toList_some, Option.toList_none, List.cons_append, List.nil_append, tc_0, tc_I, tc_L, tc_A, Nat.reduceAdd, Nat.reduceLeDiff, Nat.reduceEqDiff, Int.reduceEq, Int.reduceLT, Int.reduceLE, Int.reduceNeg, Int.reduceToNat, Int.cast_ofNat_Int, if_true, if_false, and_self, or_self, ite_self, bI_0, bI_1, bI_01, Bool.false_eq_true, reduceCtorEq, h1_156, hk, Int.reduceSub]
  refine p_E8 (d := d + 9) hL hn6 hc h1 (by rw [show k + 1 - 1 = k by omega, hk]; decide) ?_
  cases hp : pX c (Tk y len) (k + 1) with
  | error e =>
    obtain ⟨w, i, q⟩ := e
    rw [hp] at hQ
    intro g5 a b e
    simp only [u_M_readStep_445, u_M_readStep_500, u_M_readStep_501, u_M_readStep_503, u_M_readStep_504, u_M_readStep_506, ne_eq, not_false_eq_true, not_true_eq_false, true_and, and_true, true_or, or_true, eq_self, Option.toList_some, Option.toList_none, List.cons_append, List.nil_append, tc_0, tc_I, tc_L, tc_A, Nat.reduceAdd, Nat.reduceLeDiff, Nat.reduceEqDiff, Int.reduceEq, Int.reduceLT, Int.reduceLE, Int.reduceNeg, Int.reduceToNat, Int.cast_ofNat_Int, if_true, if_false, and_self, or_self, ite_self, bI_0, bI_1, bI_01, Bool.false_eq_true, reduceCtorEq]
    exact p_583e hQ (FS_FE hF a) b e
  | ok q =>
    obtain ⟨e1, j⟩ := q
    rw [hp] at hQ
    dsimp only at hQ
    intro g5 N5 R5 h5 _ _ hlt5
    simp only [u_M_readStep_445, u_M_readStep_448, u_M_readStep_449, ne_eq, not_false_eq_true, not_true_eq_false, true_and, and_true, true_or, or_true, eq_self, Option.toList_some, Option.toList_none, List.cons_append, List.nil_append, tc_0, tc_I, tc_L, tc_A, Nat.reduceAdd, Nat.reduceLeDiff, Nat.reduceEqDiff, Int.reduceEq, Int.reduceLT, Int.reduceLE, Int.reduceNeg, Int.reduceToNat, Int.cast_ofNat_Int, if_true, if_false, and_self, or_self, ite_self, bI_0, bI_1, bI_01, Bool.false_eq_true, reduceCtorEq, h1_156]
    have hS5 : SM y n len gs j σ br g5 := ⟨FS_FE hF h5.1, ⟨_, _, _, h5.2⟩, CT_FC hC (FC_of h5.1) (by omega)⟩
    unfold pTwo at hQ
    refine hP gs g5 j σ _ hσ hS5 ?_
    cases hp2 : pt j σ with
    | error e =>
      obtain ⟨⟨w, i, q⟩, σ'⟩ := e
      rw [hp2] at hQ
      intro g6 a b e
      simp only [u_M_readStep_452, u_M_readStep_500, u_M_readStep_501, u_M_readStep_503, u_M_readStep_504, u_M_readStep_506, ne_eq, not_false_eq_true, not_true_eq_false, true_and, and_true, true_or, or_true, eq_self, Option.toList_some, Option.toList_none, List.cons_append, List.nil_append, tc_0, tc_I, tc_L, tc_A, Nat.reduceAdd, Nat.reduceLeDiff, Nat.reduceEqDiff, Int.reduceEq, Int.reduceLT, Int.reduceLE, Int.reduceNeg, Int.reduceToNat, Int.cast_ofNat_Int, if_true, if_false, and_self, or_self, ite_self, bI_0, bI_1, bI_01, Bool.false_eq_true, reduceCtorEq]
      exact p_583e hQ a b e
    | ok q =>
      obtain ⟨x, j2, σ2⟩ := q
      rw [hp2] at hQ
      dsimp only at hQ
      intro g6 hS6 hlt6
      have hσ2 := hpt _ _ _ _ _ hσ hp2
      obtain ⟨op6, N6, R6, hM6⟩ := hS6.2.1
      simp only [u_M_readStep_452, u_M_readStep_455, u_M_readStep_456, u_M_readStep_457, u_M_readStep_459, ne_eq, not_false_eq_true, not_true_eq_false, true_and, and_true, true_or, or_true, eq_self, Option.toList_some, Option.toList_none, List.cons_append, List.nil_append, tc_0, tc_I, tc_L, tc_A, Nat.reduceAdd, Nat.reduceLeDiff, Nat.reduceEqDiff, Int.reduceEq, Int.reduceLT, Int.reduceLE, Int.reduceNeg, Int.reduceToNat, Int.cast_ofNat_Int, if_true, if_false, and_self, or_self, ite_self, bI_0, bI_1, bI_01, Bool.false_eq_true, reduceCtorEq, h1_156]
      refine p_wantsK (d := d + 54) hL hn6 (ME_mk hM6) (by omega) (by omega) (fun e g7 h7 => ?_) (fun e g7 a b e' => ?_)
      · replace e : Tk y len j2 = 212 := by omega
        rw [if_pos e] at hQ
        simp only [u_M_readStep_462, u_M_readStep_465, u_M_readStep_466, ne_eq, not_false_eq_true, not_true_eq_false, true_and, and_true, true_or, or_true, eq_self, Option.toList_some, Option.toList_none, List.cons_append, List.nil_append, tc_0, tc_I, tc_L, tc_A, Nat.reduceAdd, Nat.reduceLeDiff, Nat.reduceEqDiff, Int.reduceEq, Int.reduceLT, Int.reduceLE, Int.reduceNeg, Int.reduceToNat, Int.cast_ofNat_Int, if_true, if_false, and_self, or_self, ite_self, bI_0, bI_1, bI_01, Bool.false_eq_true, reduceCtorEq, h1_156]
        refine hP gs g7 (j2 + 1) σ2 _ hσ2 (SM_FE hS6 h7.1 h7.2 (by omega)) ?_
        cases hp3 : pt (j2 + 1) σ2 with
        | error e =>
          obtain ⟨⟨w, i, q⟩, σ'⟩ := e
          rw [hp3] at hQ
          intro g8 a b e
          simp only [u_M_readStep_469, u_M_readStep_500, u_M_readStep_501, u_M_readStep_503, u_M_readStep_504, u_M_readStep_506, ne_eq, not_false_eq_true, not_true_eq_false, true_and, and_true, true_or, or_true, eq_self, Option.toList_some, Option.toList_none, List.cons_append, List.nil_append, tc_0, tc_I, tc_L, tc_A, Nat.reduceAdd, Nat.reduceLeDiff, Nat.reduceEqDiff, Int.reduceEq, Int.reduceLT, Int.reduceLE, Int.reduceNeg, Int.reduceToNat, Int.cast_ofNat_Int, if_true, if_false, and_self, or_self, ite_self, bI_0, bI_1, bI_01, Bool.false_eq_true, reduceCtorEq]
          exact p_583e hQ a b e
        | ok q =>
          obtain ⟨x2, j3, σ3⟩ := q
          rw [hp3] at hQ
          dsimp only at hQ
          intro g8 hS8 hlt8
          have hσ3 := hpt _ _ _ _ _ hσ2 hp3
          obtain ⟨op8, N8, R8, hM8⟩ := hS8.2.1
          simp only [u_M_readStep_469, u_M_readStep_472, u_M_readStep_473, u_M_readStep_474, u_M_readStep_476, ne_eq, not_false_eq_true, not_true_eq_false, true_and, and_true, true_or, or_true, eq_self, Option.toList_some, Option.toList_none, List.cons_append, List.nil_append, tc_0, tc_I, tc_L, tc_A, Nat.reduceAdd, Nat.reduceLeDiff, Nat.reduceEqDiff, Int.reduceEq, Int.reduceLT, Int.reduceLE, Int.reduceNeg, Int.reduceToNat, Int.cast_ofNat_Int, if_true, if_false, and_self, or_self, ite_self, bI_0, bI_1, bI_01, Bool.false_eq_true, reduceCtorEq, h1_156]
          refine p_wantsK (d := d + 54) hL hn6 (ME_mk hM8) (by omega) (by omega) (fun e g9 h9 => ?_) (fun e g9 a b e' => ?_)
          · replace e : Tk y len j3 = 213 := by omega
            rw [if_pos e] at hQ
            simp only [u_M_readStep_479, u_M_readStep_482, u_M_readStep_483, u_M_readStep_486, u_M_readStep_489, u_M_readStep_490, ne_eq, not_false_eq_true, not_true_eq_false, true_and, and_true, true_or, or_true, eq_self, Option.toList_some, Option.toList_none, List.cons_append, List.nil_append, tc_0, tc_I, tc_L, tc_A, Nat.reduceAdd, Nat.reduceLeDiff, Nat.reduceEqDiff, Int.reduceEq, Int.reduceLT, Int.reduceLE, Int.reduceNeg, Int.reduceToNat, Int.cast_ofNat_Int, if_true, if_false, and_self, or_self, ite_self, bI_0, bI_1, bI_01, Bool.false_eq_true, reduceCtorEq, h1_156, u_M_again_0, u_M_again_1, u_M_again_2, u_M_again_5, u_M_again_6, h1_156, gt_156_16, pt_156_16]
            have h10 := ME_op (v := 0) h9
            refine p_E8 (d := d + 9) hL hn6 hc h10 (by rw [show j3 + 1 - 1 = j3 by omega, e]; decide) ?_
            have hS9 := SM_FE hS8 h9.1 h9.2 (show j3 ≤ j3 + 1 by omega)
            cases hp4 : pX c (Tk y len) (j3 + 1) with
            | error e =>
              obtain ⟨w, i, q⟩ := e
              rw [hp4] at hQ
              intro g11 a b e
              simp only [u_M_readStep_493, u_M_readStep_496, u_M_readStep_497, u_M_readStep_500, u_M_readStep_501, u_M_readStep_503, u_M_readStep_504, u_M_readStep_506, ne_eq, not_false_eq_true, not_true_eq_false, true_and, and_true, true_or, or_true, eq_self, Option.toList_some, Option.toList_none, List.cons_append, List.nil_append, tc_0, tc_I, tc_L, tc_A, Nat.reduceAdd, Nat.reduceLeDiff, Nat.reduceEqDiff, Int.reduceEq, Int.reduceLT, Int.reduceLE, Int.reduceNeg, Int.reduceToNat, Int.cast_ofNat_Int, if_true, if_false, and_self, or_self, ite_self, bI_0, bI_1, bI_01, Bool.false_eq_true, reduceCtorEq]
              exact p_583e hQ (FS_FE hS8.1 a) b e
            | ok q =>
              obtain ⟨e2, j4⟩ := q
              rw [hp4] at hQ
              intro g11 N11 R11 h11 _ _ hlt11
              simp only [u_M_readStep_493, u_M_readStep_496, u_M_readStep_497, u_M_readStep_500, u_M_readStep_501, u_M_readStep_503, u_M_readStep_504, u_M_readStep_506, ne_eq, not_false_eq_true, not_true_eq_false, true_and, and_true, true_or, or_true, eq_self, Option.toList_some, Option.toList_none, List.cons_append, List.nil_append, tc_0, tc_I, tc_L, tc_A, Nat.reduceAdd, Nat.reduceLeDiff, Nat.reduceEqDiff, Int.reduceEq, Int.reduceLT, Int.reduceLE, Int.reduceNeg, Int.reduceToNat, Int.cast_ofNat_Int, if_true, if_false, and_self, or_self, ite_self, bI_0, bI_1, bI_01, Bool.false_eq_true, reduceCtorEq]
              refine p_end (d := d + 54) (op := 0) (N := N11) (R := R11) hL hn6 (FS_FE hS8.1 h11.1) h11.2 (CT_FC hS8.2.2 (FC_of h11.1) (by omega)) hσ3 hz (Or.inl rfl) (Or.inl rfl) hn1.symm (by omega) (fun h59 => ?_) hQ
              unfold inIt
              have hkn : kName (Tk y len k) = false := by rw [hk]; rfl
              rw [if_neg (by omega), hkn]; simp
          · replace e : ¬ Tk y len j3 = 213 := by omega
            rw [if_neg e] at hQ
            simp only [u_M_readStep_479, u_M_readStep_500, u_M_readStep_501, u_M_readStep_503, u_M_readStep_504, u_M_readStep_506, ne_eq, not_false_eq_true, not_true_eq_false, true_and, and_true, true_or, or_true, eq_self, Option.toList_some, Option.toList_none, List.cons_append, List.nil_append, tc_0, tc_I, tc_L, tc_A, Nat.reduceAdd, Nat.reduceLeDiff, Nat.reduceEqDiff, Int.reduceEq, Int.reduceLT, Int.reduceLE, Int.reduceNeg, Int.reduceToNat, Int.cast_ofNat_Int, if_true, if_false, and_self, or_self, ite_self, bI_0, bI_1, bI_01, Bool.false_eq_true, reduceCtorEq]
            exact p_583e hQ (FS_FE hS8.1 a) b e'
      · replace e : ¬ Tk y len j2 = 212 := by omega
        rw [if_neg e] at hQ
        simp only [u_M_readStep_462, u_M_readStep_500, u_M_readStep_501, u_M_readStep_503, u_M_readStep_504, u_M_readStep_506, ne_eq, not_false_eq_true, not_true_eq_false, true_and, and_true, true_or, or_true, eq_self, Option.toList_some, Option.toList_none, List.cons_append, List.nil_append, tc_0, tc_I, tc_L, tc_A, Nat.reduceAdd, Nat.reduceLeDiff, Nat.reduceEqDiff, Int.reduceEq, Int.reduceLT, Int.reduceLE, Int.reduceNeg, Int.reduceToNat, Int.cast_ofNat_Int, if_true, if_false, and_self, or_self, ite_self, bI_0, bI_1, bI_01, Bool.false_eq_true, reduceCtorEq]
        exact p_583e hQ (FS_FE hS6.1 a) b e'
theorem p_when {B : Type} {pt : Int → Sg → PS B} (hL : Lexd y n len) (hn6 : n ≤ 600) (hc : c = 8) (hF : FS gs g) (hM : MR y n len k 0 0 0 g) (hl : LKs y len k g) (hC : CT (k + 1) σ br g) (hσ : okSg σ) (hpt : okPt pt) (hP : PSpM L (d + 59) y n len f t br pt) (hz : z = sk y (eN y k.toNat)) (hk : Tk y len k = 216) (hQ : RS y n len gs f t br Q k (fin (Tk y len) k (pWhen c (Tk y len) pt k σ))) : VV L (d + 60) m_M_readStep 105 [some (tA 156), some (tI z), some (tI o_), none, none, none, none, none] [] (WW f t g) Q := by
  have hn1 : nIns (Tk y len k) = 3 := by rw [hk]; rfl
  refine p_key hL hn6 hM hl (by omega) (fun g1 h1 => ?_)
  unfold pWhen at hQ
  simp only [u_M_readStep_181, u_M_readStep_182, u_M_readStep_183, u_M_readStep_186, u_M_readStep_187, u_M_readStep_189, u_M_readStep_256, u_M_readStep_257, u_M_readStep_258, u_M_readStep_287, u_M_readStep_288, u_M_readStep_289, u_M_readStep_346, u_M_readStep_347, u_M_readStep_349, u_M_readStep_361, u_M_readStep_362, u_M_readStep_364, u_M_readStep_435, u_M_readStep_436, u_M_readStep_438, u_M_readStep_509, u_M_readStep_510, u_M_readStep_512, u_M_readStep_542, u_M_readStep_543, ne_eq, not_false_eq_true, not_true_eq_false, true_and, and_true, true_or, or_true, eq_self, Option.toList_some, Option.toList_none, List.cons_append, List.nil_append, tc_0, tc_I, tc_L, tc_A, Nat.reduceAdd, Nat.reduceLeDiff, Nat.reduceEqDiff, Int.reduceEq, Int.reduceLT, Int.reduceLE, Int.reduceNeg, Int.reduceToNat, Int.cast_ofNat_Int, if_true, if_false, and_self, or_self, ite_self, bI_0, bI_1, bI_01, Bool.false_eq_true, reduceCtorEq, h1_156, hk, Int.reduceSub]
  refine p_E8 (d := d + 9) hL hn6 hc h1 (by rw [show k + 1 - 1 = k by omega, hk]; decide) ?_
  cases hp : pX c (Tk y len) (k + 1) with
  | error e =>
    obtain ⟨w, i, q⟩ := e
    rw [hp] at hQ
    intro g5 a b e
    simp only [u_M_readStep_546, u_M_readStep_577, u_M_readStep_578, u_M_readStep_580, u_M_readStep_581, ne_eq, not_false_eq_true, not_true_eq_false, true_and, and_true, true_or, or_true, eq_self, Option.toList_some, Option.toList_none, List.cons_append, List.nil_append, tc_0, tc_I, tc_L, tc_A, Nat.reduceAdd, Nat.reduceLeDiff, Nat.reduceEqDiff, Int.reduceEq, Int.reduceLT, Int.reduceLE, Int.reduceNeg, Int.reduceToNat, Int.cast_ofNat_Int, if_true, if_false, and_self, or_self, ite_self, bI_0, bI_1, bI_01, Bool.false_eq_true, reduceCtorEq]
    exact p_583e hQ (FS_FE hF a) b e
  | ok q =>
    obtain ⟨e1, j⟩ := q
    rw [hp] at hQ
    dsimp only at hQ
    intro g5 N5 R5 h5 _ _ hlt5
    simp only [u_M_readStep_546, u_M_readStep_549, u_M_readStep_550, ne_eq, not_false_eq_true, not_true_eq_false, true_and, and_true, true_or, or_true, eq_self, Option.toList_some, Option.toList_none, List.cons_append, List.nil_append, tc_0, tc_I, tc_L, tc_A, Nat.reduceAdd, Nat.reduceLeDiff, Nat.reduceEqDiff, Int.reduceEq, Int.reduceLT, Int.reduceLE, Int.reduceNeg, Int.reduceToNat, Int.cast_ofNat_Int, if_true, if_false, and_self, or_self, ite_self, bI_0, bI_1, bI_01, Bool.false_eq_true, reduceCtorEq, h1_156]
    have hS5 : SM y n len gs j σ br g5 := ⟨FS_FE hF h5.1, ⟨_, _, _, h5.2⟩, CT_FC hC (FC_of h5.1) (by omega)⟩
    unfold pTwo at hQ
    refine hP gs g5 j σ _ hσ hS5 ?_
    cases hp2 : pt j σ with
    | error e =>
      obtain ⟨⟨w, i, q⟩, σ'⟩ := e
      rw [hp2] at hQ
      intro g6 a b e
      simp only [u_M_readStep_553, u_M_readStep_577, u_M_readStep_578, u_M_readStep_580, u_M_readStep_581, ne_eq, not_false_eq_true, not_true_eq_false, true_and, and_true, true_or, or_true, eq_self, Option.toList_some, Option.toList_none, List.cons_append, List.nil_append, tc_0, tc_I, tc_L, tc_A, Nat.reduceAdd, Nat.reduceLeDiff, Nat.reduceEqDiff, Int.reduceEq, Int.reduceLT, Int.reduceLE, Int.reduceNeg, Int.reduceToNat, Int.cast_ofNat_Int, if_true, if_false, and_self, or_self, ite_self, bI_0, bI_1, bI_01, Bool.false_eq_true, reduceCtorEq]
      exact p_583e hQ a b e
    | ok q =>
      obtain ⟨x, j2, σ2⟩ := q
      rw [hp2] at hQ
      dsimp only at hQ
      intro g6 hS6 hlt6
      have hσ2 := hpt _ _ _ _ _ hσ hp2
      obtain ⟨op6, N6, R6, hM6⟩ := hS6.2.1
      simp only [u_M_readStep_553, u_M_readStep_556, u_M_readStep_557, u_M_readStep_558, u_M_readStep_560, ne_eq, not_false_eq_true, not_true_eq_false, true_and, and_true, true_or, or_true, eq_self, Option.toList_some, Option.toList_none, List.cons_append, List.nil_append, tc_0, tc_I, tc_L, tc_A, Nat.reduceAdd, Nat.reduceLeDiff, Nat.reduceEqDiff, Int.reduceEq, Int.reduceLT, Int.reduceLE, Int.reduceNeg, Int.reduceToNat, Int.cast_ofNat_Int, if_true, if_false, and_self, or_self, ite_self, bI_0, bI_1, bI_01, Bool.false_eq_true, reduceCtorEq, h1_156]
      refine p_wantsK (d := d + 54) hL hn6 (ME_mk hM6) (by omega) (by omega) (fun e g7 h7 => ?_) (fun e g7 a b e' => ?_)
      · replace e : Tk y len j2 = 209 := by omega
        rw [if_pos e] at hQ
        simp only [u_M_readStep_563, u_M_readStep_566, u_M_readStep_567, ne_eq, not_false_eq_true, not_true_eq_false, true_and, and_true, true_or, or_true, eq_self, Option.toList_some, Option.toList_none, List.cons_append, List.nil_append, tc_0, tc_I, tc_L, tc_A, Nat.reduceAdd, Nat.reduceLeDiff, Nat.reduceEqDiff, Int.reduceEq, Int.reduceLT, Int.reduceLE, Int.reduceNeg, Int.reduceToNat, Int.cast_ofNat_Int, if_true, if_false, and_self, or_self, ite_self, bI_0, bI_1, bI_01, Bool.false_eq_true, reduceCtorEq, h1_156]
        refine hP gs g7 (j2 + 1) σ2 _ hσ2 (SM_FE hS6 h7.1 h7.2 (by omega)) ?_
        cases hp3 : pt (j2 + 1) σ2 with
        | error e =>
          obtain ⟨⟨w, i, q⟩, σ'⟩ := e
          rw [hp3] at hQ
          intro g8 a b e
          simp only [u_M_readStep_570, u_M_readStep_573, u_M_readStep_574, u_M_readStep_577, u_M_readStep_578, u_M_readStep_580, u_M_readStep_581, ne_eq, not_false_eq_true, not_true_eq_false, true_and, and_true, true_or, or_true, eq_self, Option.toList_some, Option.toList_none, List.cons_append, List.nil_append, tc_0, tc_I, tc_L, tc_A, Nat.reduceAdd, Nat.reduceLeDiff, Nat.reduceEqDiff, Int.reduceEq, Int.reduceLT, Int.reduceLE, Int.reduceNeg, Int.reduceToNat, Int.cast_ofNat_Int, if_true, if_false, and_self, or_self, ite_self, bI_0, bI_1, bI_01, Bool.false_eq_true, reduceCtorEq]
          exact p_583e hQ a b e
        | ok q =>
          obtain ⟨x2, j3, σ3⟩ := q
          rw [hp3] at hQ
          dsimp only at hQ
          intro g8 hS8 hlt8
          have hσ3 := hpt _ _ _ _ _ hσ2 hp3
          obtain ⟨op8, N8, R8, hM8⟩ := hS8.2.1
          simp only [u_M_readStep_570, u_M_readStep_573, u_M_readStep_574, u_M_readStep_577, u_M_readStep_578, u_M_readStep_580, u_M_readStep_581, ne_eq, not_false_eq_true, not_true_eq_false, true_and, and_true, true_or, or_true, eq_self, Option.toList_some, Option.toList_none, List.cons_append, List.nil_append, tc_0, tc_I, tc_L, tc_A, Nat.reduceAdd, Nat.reduceLeDiff, Nat.reduceEqDiff, Int.reduceEq, Int.reduceLT, Int.reduceLE, Int.reduceNeg, Int.reduceToNat, Int.cast_ofNat_Int, if_true, if_false, and_self, or_self, ite_self, bI_0, bI_1, bI_01, Bool.false_eq_true, reduceCtorEq, h1_156]
          refine p_end (d := d + 54) hL hn6 hS8.1 hM8 hS8.2.2 hσ3 hz (Or.inl rfl) (Or.inl rfl) hn1.symm (by omega) (fun h59 => ?_) hQ
          unfold inIt
          have hkn : kName (Tk y len k) = false := by rw [hk]; rfl
          rw [if_neg (by omega), hkn]; simp
      · replace e : ¬ Tk y len j2 = 209 := by omega
        rw [if_neg e] at hQ
        simp only [u_M_readStep_563, u_M_readStep_577, u_M_readStep_578, u_M_readStep_580, u_M_readStep_581, ne_eq, not_false_eq_true, not_true_eq_false, true_and, and_true, true_or, or_true, eq_self, Option.toList_some, Option.toList_none, List.cons_append, List.nil_append, tc_0, tc_I, tc_L, tc_A, Nat.reduceAdd, Nat.reduceLeDiff, Nat.reduceEqDiff, Int.reduceEq, Int.reduceLT, Int.reduceLE, Int.reduceNeg, Int.reduceToNat, Int.cast_ofNat_Int, if_true, if_false, and_self, or_self, ite_self, bI_0, bI_1, bI_01, Bool.false_eq_true, reduceCtorEq]
        exact p_583e hQ (FS_FE hS6.1 a) b e'
theorem p_while {B : Type} {pt : Int → Sg → PS B} (hL : Lexd y n len) (hn6 : n ≤ 600) (hc : c = 8) (hF : FS gs g) (hM : MR y n len k 0 0 0 g) (hl : LKs y len k g) (hC : CT (k + 1) σ br g) (hσ : okSg σ) (hpt : okPt pt) (hP : PSpM L (d + 59) y n len f t br pt) (hz : z = sk y (eN y k.toNat)) (hk : Tk y len k = 215) (hQ : RS y n len gs f t br Q k (fin (Tk y len) k (pWhile c (Tk y len) pt k σ))) : VV L (d + 60) m_M_readStep 105 [some (tA 156), some (tI z), some (tI o_), none, none, none, none, none] [] (WW f t g) Q := by
  have hn1 : nIns (Tk y len k) = 2 := by rw [hk]; rfl
  refine p_key hL hn6 hM hl (by omega) (fun g1 h1 => ?_)
  unfold pWhile at hQ
  simp only [u_M_readStep_181, u_M_readStep_182, u_M_readStep_183, u_M_readStep_186, u_M_readStep_187, u_M_readStep_189, u_M_readStep_256, u_M_readStep_257, u_M_readStep_258, u_M_readStep_287, u_M_readStep_288, u_M_readStep_289, u_M_readStep_346, u_M_readStep_347, u_M_readStep_349, u_M_readStep_361, u_M_readStep_362, u_M_readStep_364, u_M_readStep_435, u_M_readStep_436, u_M_readStep_438, u_M_readStep_509, u_M_readStep_510, u_M_readStep_512, u_M_readStep_515, u_M_readStep_516, ne_eq, not_false_eq_true, not_true_eq_false, true_and, and_true, true_or, or_true, eq_self, Option.toList_some, Option.toList_none, List.cons_append, List.nil_append, tc_0, tc_I, tc_L, tc_A, Nat.reduceAdd, Nat.reduceLeDiff, Nat.reduceEqDiff, Int.reduceEq, Int.reduceLT, Int.reduceLE, Int.reduceNeg, Int.reduceToNat, Int.cast_ofNat_Int, if_true, if_false, and_self, or_self, ite_self, bI_0, bI_1, bI_01, Bool.false_eq_true, reduceCtorEq, h1_156, hk, Int.reduceSub]
  refine p_E8 (d := d + 9) hL hn6 hc h1 (by rw [show k + 1 - 1 = k by omega, hk]; decide) ?_
  cases hp : pX c (Tk y len) (k + 1) with
  | error e =>
    obtain ⟨w, i, q⟩ := e
    rw [hp] at hQ
    intro g5 a b e
    simp only [u_M_readStep_519, u_M_readStep_533, u_M_readStep_534, u_M_readStep_536, u_M_readStep_537, u_M_readStep_539, ne_eq, not_false_eq_true, not_true_eq_false, true_and, and_true, true_or, or_true, eq_self, Option.toList_some, Option.toList_none, List.cons_append, List.nil_append, tc_0, tc_I, tc_L, tc_A, Nat.reduceAdd, Nat.reduceLeDiff, Nat.reduceEqDiff, Int.reduceEq, Int.reduceLT, Int.reduceLE, Int.reduceNeg, Int.reduceToNat, Int.cast_ofNat_Int, if_true, if_false, and_self, or_self, ite_self, bI_0, bI_1, bI_01, Bool.false_eq_true, reduceCtorEq]
    exact p_583e hQ (FS_FE hF a) b e
  | ok q =>
    obtain ⟨e1, j⟩ := q
    rw [hp] at hQ
    dsimp only at hQ
    intro g5 N5 R5 h5 _ _ hlt5
    simp only [u_M_readStep_519, u_M_readStep_522, u_M_readStep_523, ne_eq, not_false_eq_true, not_true_eq_false, true_and, and_true, true_or, or_true, eq_self, Option.toList_some, Option.toList_none, List.cons_append, List.nil_append, tc_0, tc_I, tc_L, tc_A, Nat.reduceAdd, Nat.reduceLeDiff, Nat.reduceEqDiff, Int.reduceEq, Int.reduceLT, Int.reduceLE, Int.reduceNeg, Int.reduceToNat, Int.cast_ofNat_Int, if_true, if_false, and_self, or_self, ite_self, bI_0, bI_1, bI_01, Bool.false_eq_true, reduceCtorEq, h1_156]
    have hS5 : SM y n len gs j σ br g5 := ⟨FS_FE hF h5.1, ⟨_, _, _, h5.2⟩, CT_FC hC (FC_of h5.1) (by omega)⟩
    refine hP gs g5 j σ _ hσ hS5 ?_
    cases hp2 : pt j σ with
    | error e =>
      obtain ⟨⟨w, i, q⟩, σ'⟩ := e
      rw [hp2] at hQ
      intro g6 a b e
      simp only [u_M_readStep_526, u_M_readStep_529, u_M_readStep_530, u_M_readStep_533, u_M_readStep_534, u_M_readStep_536, u_M_readStep_537, u_M_readStep_539, ne_eq, not_false_eq_true, not_true_eq_false, true_and, and_true, true_or, or_true, eq_self, Option.toList_some, Option.toList_none, List.cons_append, List.nil_append, tc_0, tc_I, tc_L, tc_A, Nat.reduceAdd, Nat.reduceLeDiff, Nat.reduceEqDiff, Int.reduceEq, Int.reduceLT, Int.reduceLE, Int.reduceNeg, Int.reduceToNat, Int.cast_ofNat_Int, if_true, if_false, and_self, or_self, ite_self, bI_0, bI_1, bI_01, Bool.false_eq_true, reduceCtorEq]
      exact p_583e hQ a b e
    | ok q =>
      obtain ⟨x, j2, σ2⟩ := q
      rw [hp2] at hQ
      dsimp only at hQ
      intro g6 hS6 hlt6
      have hσ2 := hpt _ _ _ _ _ hσ hp2
      obtain ⟨op6, N6, R6, hM6⟩ := hS6.2.1
      simp only [u_M_readStep_526, u_M_readStep_529, u_M_readStep_530, u_M_readStep_533, u_M_readStep_534, u_M_readStep_536, u_M_readStep_537, u_M_readStep_539, ne_eq, not_false_eq_true, not_true_eq_false, true_and, and_true, true_or, or_true, eq_self, Option.toList_some, Option.toList_none, List.cons_append, List.nil_append, tc_0, tc_I, tc_L, tc_A, Nat.reduceAdd, Nat.reduceLeDiff, Nat.reduceEqDiff, Int.reduceEq, Int.reduceLT, Int.reduceLE, Int.reduceNeg, Int.reduceToNat, Int.cast_ofNat_Int, if_true, if_false, and_self, or_self, ite_self, bI_0, bI_1, bI_01, Bool.false_eq_true, reduceCtorEq, h1_156]
      refine p_end (d := d + 54) hL hn6 hS6.1 hM6 hS6.2.2 hσ2 hz (Or.inl rfl) (Or.inl rfl) hn1.symm (by omega) (fun h59 => ?_) hQ
      unfold inIt
      have hkn : kName (Tk y len k) = false := by rw [hk]; rfl
      rw [if_neg (by omega), hkn]; simp
end
