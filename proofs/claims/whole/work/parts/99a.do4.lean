/-! Rows: one that nobody holds -/
theorem pigeon : ∀ (k : Nat) (F : Nat → Int), ¬ (∀ m : Nat, m ≤ k → ∃ h, h < k ∧ F h = m) := by
  intro k
  induction k with
  | zero => intro F h; obtain ⟨x, hx, _⟩ := h 0 (Nat.le_refl _); omega
  | succ k ih =>
    intro F h
    refine ih (fun x => if F x = ((k + 1 : Nat) : Int) then F k else F x) (fun m hm => ?_)
    obtain ⟨x, hx, e⟩ := h m (by omega)
    by_cases hk : x = k
    · subst hk
      obtain ⟨y, hy, e2⟩ := h (x + 1) (Nat.le_refl _)
      have : ¬ y = x := by intro ee; subst ee; omega
      exact ⟨y, by omega, by rw [if_pos e2]; exact e⟩
    · exact ⟨x, by omega, by rw [if_neg (by omega)]; exact e⟩
section
variable {L d : Nat} {f t g : Mem} {Q : Option TV → Wd → Prop} {n : Int}
theorem p_Sf_isHeld (h1 : ∀ h : Nat, h < 14 → hC f h = n → Q (some (tI 1)) (WW f t g)) (h0 : (∀ h : Nat, h < 14 → ¬ hC f h = n) → Q (some (tI 0)) (WW f t g)) : VV L d m_Sf_isHeld 0 [some (tA 28), some (tI n), none] [] (WW f t g) Q := by
  have lp : ∀ (m k : Nat), k + m = 8 → (∀ h : Nat, h < 6 + k → ¬ hC f h = n) → VV L d m_Sf_isHeld 28 [some (tA 28), some (tI n), some (tI k)] [] (WW f t g) Q := by
    intro m
    induction m with
    | zero =>
      intro k hk hh
      have : k = 8 := by omega
      subst this
      rw [u_Sf_isHeld_28]
      simp only [u_Sf_isHeld_29, u_Sf_isHeld_31, u_Sf_isHeld_34, u_Sf_isHeld_35, u_Sf_isHeld_38, u_Sf_isHeld_39, u_Sf_isHeld_40, u_Sf_isHeld_41, u_Sf_isHeld_44, u_Sf_isHeld_45, u_Sf_isHeld_46, u_Sf_isHeld_49, u_Sf_isHeld_52, u_Sf_isHeld_53, ne_eq, not_false_eq_true, not_true_eq_false, true_and, and_true, true_or, or_true, eq_self, Option.toList_some, Option.toList_none, List.cons_append, List.nil_append, tc_0, tc_I, tc_L, tc_A, Nat.reduceAdd, Nat.reduceLeDiff, Nat.reduceEqDiff, Int.reduceEq, Int.reduceLT, Int.reduceLE, Int.reduceNeg, Int.reduceToNat, Int.cast_ofNat_Int, if_true, if_false, and_self, or_self, ite_self, bI_0, bI_1, bI_01, Bool.false_eq_true, reduceCtorEq, show (8 : Int) ≤ ((8 : Nat) : Int) by omega]
      exact h0 hh
    | succ m ih =>
      intro k hk hh
      have wk : w32 ((k : Int) + 1) = ((k + 1 : Nat) : Int) := by rw [w32_id (by omega) (by omega)]; omega
      rw [u_Sf_isHeld_28]
      by_cases e : f 30 k = n
      · simp only [u_Sf_isHeld_29, u_Sf_isHeld_31, u_Sf_isHeld_34, u_Sf_isHeld_35, u_Sf_isHeld_38, u_Sf_isHeld_39, u_Sf_isHeld_40, u_Sf_isHeld_41, u_Sf_isHeld_44, u_Sf_isHeld_45, u_Sf_isHeld_46, u_Sf_isHeld_49, u_Sf_isHeld_52, u_Sf_isHeld_53, h1_28, gt_28_1, h1_30, h2_30, gt_30, pt_30, ne_eq, not_false_eq_true, not_true_eq_false, true_and, and_true, true_or, or_true, eq_self, Option.toList_some, Option.toList_none, List.cons_append, List.nil_append, tc_0, tc_I, tc_L, tc_A, Nat.reduceAdd, Nat.reduceLeDiff, Nat.reduceEqDiff, Int.reduceEq, Int.reduceLT, Int.reduceLE, Int.reduceNeg, Int.reduceToNat, Int.cast_ofNat_Int, if_true, if_false, and_self, or_self, ite_self, bI_0, bI_1, bI_01, Bool.false_eq_true, reduceCtorEq, show ¬ (8 : Int) ≤ k by omega, show 0 ≤ (k : Int) by omega, show (k : Int) < 8 by omega, Int.toNat_natCast, e]
        exact h1 (6 + k) (by omega) (by rw [hC_p]; exact e)
      · simp only [u_Sf_isHeld_29, u_Sf_isHeld_31, u_Sf_isHeld_34, u_Sf_isHeld_35, u_Sf_isHeld_38, u_Sf_isHeld_39, u_Sf_isHeld_40, u_Sf_isHeld_41, u_Sf_isHeld_44, u_Sf_isHeld_45, u_Sf_isHeld_46, u_Sf_isHeld_49, u_Sf_isHeld_52, u_Sf_isHeld_53, h1_28, gt_28_1, h1_30, h2_30, gt_30, pt_30, ne_eq, not_false_eq_true, not_true_eq_false, true_and, and_true, true_or, or_true, eq_self, Option.toList_some, Option.toList_none, List.cons_append, List.nil_append, tc_0, tc_I, tc_L, tc_A, Nat.reduceAdd, Nat.reduceLeDiff, Nat.reduceEqDiff, Int.reduceEq, Int.reduceLT, Int.reduceLE, Int.reduceNeg, Int.reduceToNat, Int.cast_ofNat_Int, if_true, if_false, and_self, or_self, ite_self, bI_0, bI_1, bI_01, Bool.false_eq_true, reduceCtorEq, show ¬ (8 : Int) ≤ k by omega, show 0 ≤ (k : Int) by omega, show (k : Int) < 8 by omega, Int.toNat_natCast, e, wk]
        refine ih (k + 1) (by omega) (fun h hh2 => ?_)
        by_cases e2 : h = 6 + k
        · subst e2; rw [hC_p]; exact e
        · exact hh h (by omega)
  have lr : ∀ (m k : Nat), k + m = 6 → (∀ h : Nat, h < k → ¬ hC f h = n) → VV L d m_Sf_isHeld 2 [some (tA 28), some (tI n), some (tI k)] [] (WW f t g) Q := by
    intro m
    induction m with
    | zero =>
      intro k hk hh
      have : k = 6 := by omega
      subst this
      rw [u_Sf_isHeld_2]
      simp only [u_Sf_isHeld_3, u_Sf_isHeld_5, u_Sf_isHeld_8, u_Sf_isHeld_9, u_Sf_isHeld_12, u_Sf_isHeld_13, u_Sf_isHeld_14, u_Sf_isHeld_15, u_Sf_isHeld_18, u_Sf_isHeld_19, u_Sf_isHeld_20, u_Sf_isHeld_23, u_Sf_isHeld_26, u_Sf_isHeld_27, ne_eq, not_false_eq_true, not_true_eq_false, true_and, and_true, true_or, or_true, eq_self, Option.toList_some, Option.toList_none, List.cons_append, List.nil_append, tc_0, tc_I, tc_L, tc_A, Nat.reduceAdd, Nat.reduceLeDiff, Nat.reduceEqDiff, Int.reduceEq, Int.reduceLT, Int.reduceLE, Int.reduceNeg, Int.reduceToNat, Int.cast_ofNat_Int, if_true, if_false, and_self, or_self, ite_self, bI_0, bI_1, bI_01, Bool.false_eq_true, reduceCtorEq, show (6 : Int) ≤ ((6 : Nat) : Int) by omega]
      exact lp 8 0 (by omega) (fun h h2 => hh h (by omega))
    | succ m ih =>
      intro k hk hh
      have wk : w32 ((k : Int) + 1) = ((k + 1 : Nat) : Int) := by rw [w32_id (by omega) (by omega)]; omega
      rw [u_Sf_isHeld_2]
      by_cases e : f 29 k = n
      · simp only [u_Sf_isHeld_3, u_Sf_isHeld_5, u_Sf_isHeld_8, u_Sf_isHeld_9, u_Sf_isHeld_12, u_Sf_isHeld_13, u_Sf_isHeld_14, u_Sf_isHeld_15, u_Sf_isHeld_18, u_Sf_isHeld_19, u_Sf_isHeld_20, u_Sf_isHeld_23, u_Sf_isHeld_26, u_Sf_isHeld_27, h1_28, gt_28_0, h1_29, h2_29, gt_29, pt_29, ne_eq, not_false_eq_true, not_true_eq_false, true_and, and_true, true_or, or_true, eq_self, Option.toList_some, Option.toList_none, List.cons_append, List.nil_append, tc_0, tc_I, tc_L, tc_A, Nat.reduceAdd, Nat.reduceLeDiff, Nat.reduceEqDiff, Int.reduceEq, Int.reduceLT, Int.reduceLE, Int.reduceNeg, Int.reduceToNat, Int.cast_ofNat_Int, if_true, if_false, and_self, or_self, ite_self, bI_0, bI_1, bI_01, Bool.false_eq_true, reduceCtorEq, show ¬ (6 : Int) ≤ k by omega, show 0 ≤ (k : Int) by omega, show (k : Int) < 6 by omega, Int.toNat_natCast, e]
        exact h1 k (by omega) (by rw [hC_r (by omega)]; exact e)
      · simp only [u_Sf_isHeld_3, u_Sf_isHeld_5, u_Sf_isHeld_8, u_Sf_isHeld_9, u_Sf_isHeld_12, u_Sf_isHeld_13, u_Sf_isHeld_14, u_Sf_isHeld_15, u_Sf_isHeld_18, u_Sf_isHeld_19, u_Sf_isHeld_20, u_Sf_isHeld_23, u_Sf_isHeld_26, u_Sf_isHeld_27, h1_28, gt_28_0, h1_29, h2_29, gt_29, pt_29, ne_eq, not_false_eq_true, not_true_eq_false, true_and, and_true, true_or, or_true, eq_self, Option.toList_some, Option.toList_none, List.cons_append, List.nil_append, tc_0, tc_I, tc_L, tc_A, Nat.reduceAdd, Nat.reduceLeDiff, Nat.reduceEqDiff, Int.reduceEq, Int.reduceLT, Int.reduceLE, Int.reduceNeg, Int.reduceToNat, Int.cast_ofNat_Int, if_true, if_false, and_self, or_self, ite_self, bI_0, bI_1, bI_01, Bool.false_eq_true, reduceCtorEq, show ¬ (6 : Int) ≤ k by omega, show 0 ≤ (k : Int) by omega, show (k : Int) < 6 by omega, Int.toNat_natCast, e, wk]
        refine ih (k + 1) (by omega) (fun h hh2 => ?_)
        by_cases e2 : h = k
        · subst e2; rw [hC_r (by omega)]; exact e
        · exact hh h (by omega)
  simp only [u_Sf_isHeld_0, u_Sf_isHeld_1, ne_eq, not_false_eq_true, not_true_eq_false, true_and, and_true, true_or, or_true, eq_self, Option.toList_some, Option.toList_none, List.cons_append, List.nil_append, tc_0, tc_I, tc_L, tc_A, Nat.reduceAdd, Nat.reduceLeDiff, Nat.reduceEqDiff, Int.reduceEq, Int.reduceLT, Int.reduceLE, Int.reduceNeg, Int.reduceToNat, Int.cast_ofNat_Int, if_true, if_false, and_self, or_self, ite_self, bI_0, bI_1, bI_01, Bool.false_eq_true, reduceCtorEq]
  exact lr 6 0 (by omega) (fun h hh => by omega)
theorem y33_J {m : Nat} (hm : m < 15) {v : Int} : ∀ (q k : Nat), k + q = 12 → VV L d m_JArr_fillJ 6 [some (tA (34 + m)), some (tL v), none, some (tI k), some (tI 12)] [] (WW (zfl f (34 + m) k v) t g) Q = Q none (WW (zfl f (34 + m) 12 v) t g) := by
  intro q
  induction q with
  | zero =>
    intro k hk
    have : k = 12 := by omega
    subst this
    rw [u_JArr_fillJ_6]
    simp only [u_JArr_fillJ_7, u_JArr_fillJ_9, u_JArr_fillJ_12, u_JArr_fillJ_13, u_JArr_fillJ_14, u_JArr_fillJ_15, u_JArr_fillJ_16, u_JArr_fillJ_19, u_JArr_fillJ_22, ne_eq, not_false_eq_true, not_true_eq_false, true_and, and_true, true_or, or_true, eq_self, Option.toList_some, Option.toList_none, List.cons_append, List.nil_append, tc_0, tc_I, tc_L, tc_A, Nat.reduceAdd, Nat.reduceLeDiff, Nat.reduceEqDiff, Int.reduceEq, Int.reduceLT, Int.reduceLE, Int.reduceNeg, Int.reduceToNat, Int.cast_ofNat_Int, if_true, if_false, and_self, or_self, ite_self, bI_0, bI_1, bI_01, Bool.false_eq_true, reduceCtorEq, show (12 : Int) ≤ ((12 : Nat) : Int) by omega]
  | succ q ih =>
    intro k hk
    have wk : w32 ((k : Int) + 1) = ((k + 1 : Nat) : Int) := by rw [w32_id (by omega) (by omega)]; omega
    rw [u_JArr_fillJ_6]
    simp only [u_JArr_fillJ_7, u_JArr_fillJ_9, u_JArr_fillJ_12, u_JArr_fillJ_13, u_JArr_fillJ_14, u_JArr_fillJ_15, u_JArr_fillJ_16, u_JArr_fillJ_19, u_JArr_fillJ_22, y33_h hm, y33_z hm, y33_w hm, ne_eq, not_false_eq_true, not_true_eq_false, true_and, and_true, true_or, or_true, eq_self, Option.toList_some, Option.toList_none, List.cons_append, List.nil_append, tc_0, tc_I, tc_L, tc_A, Nat.reduceAdd, Nat.reduceLeDiff, Nat.reduceEqDiff, Int.reduceEq, Int.reduceLT, Int.reduceLE, Int.reduceNeg, Int.reduceToNat, Int.cast_ofNat_Int, if_true, if_false, and_self, or_self, ite_self, bI_0, bI_1, bI_01, Bool.false_eq_true, reduceCtorEq, show ¬ (12 : Int) ≤ k by omega, show 0 ≤ (k : Int) by omega, show (k : Int) < 12 by omega, Int.toNat_natCast, wk, zfl_s]
    have h34 : ¬ 34 + m = 0 := by omega
    simp only [h34, ne_eq, not_false_eq_true, not_true_eq_false, true_and, and_true, true_or, or_true, eq_self, Option.toList_some, Option.toList_none, List.cons_append, List.nil_append, tc_0, tc_I, tc_L, tc_A, Nat.reduceAdd, Nat.reduceLeDiff, Nat.reduceEqDiff, Int.reduceEq, Int.reduceLT, Int.reduceLE, Int.reduceNeg, Int.reduceToNat, Int.cast_ofNat_Int, if_true, if_false, and_self, or_self, ite_self, bI_0, bI_1, bI_01, Bool.false_eq_true, reduceCtorEq]
    exact ih (k + 1) (by omega)
def mkC (f : Mem) (n : Nat) (kd ct : Int) : Mem := zfl (mset (mset f 31 n kd) 32 n ct) (34 + n) 12 0
theorem p_Sf_make {kd ct : Int} (hQ : ∀ n : Nat, n < 15 → (∀ h : Nat, h < 14 → ¬ hC f h = n) → Q (some (tI n)) (WW (mkC f n kd ct) t g)) : VV L (d + 1) m_Sf_make 0 [some (tA 28), some (tI kd), some (tI ct), none] [] (WW f t g) Q := by
  have h22 : ∀ n : Nat, n < 15 → (∀ h : Nat, h < 14 → ¬ hC f h = n) → VV L (d + 1) m_Sf_make 22 [some (tA 28), some (tI kd), some (tI ct), some (tI n)] [] (WW f t g) Q := by
    intro n hn hh
    have hfill : ∀ (f : Mem) (Q : Option TV → Wd → Prop), VV L d m_JArr_fillJ 0 [some (tA (34 + n)), some (tL 0), none, none, none] [] (WW f t g) Q = Q none (WW (zfl f (34 + n) 12 0) t g) := by
      intro f Q
      have h := y33_J (L := L) (d := d) (f := f) (t := t) (g := g) (Q := Q) hn (v := 0) 12 0 (by omega)
      rw [zfl_0] at h
      have h34 : ¬ 34 + n = 0 := by omega
      simp only [u_JArr_fillJ_0, u_JArr_fillJ_1, u_JArr_fillJ_2, u_JArr_fillJ_3, u_JArr_fillJ_4, y33_h hn, y33_z hn, ne_eq, not_false_eq_true, not_true_eq_false, true_and, and_true, true_or, or_true, eq_self, Option.toList_some, Option.toList_none, List.cons_append, List.nil_append, tc_0, tc_I, tc_L, tc_A, Nat.reduceAdd, Nat.reduceLeDiff, Nat.reduceEqDiff, Int.reduceEq, Int.reduceLT, Int.reduceLE, Int.reduceNeg, Int.reduceToNat, Int.cast_ofNat_Int, if_true, if_false, and_self, or_self, ite_self, bI_0, bI_1, bI_01, Bool.false_eq_true, reduceCtorEq, h34]
      exact h
    simp only [u_Sf_make_22, u_Sf_make_23, u_Sf_make_26, u_Sf_make_27, u_Sf_make_28, u_Sf_make_29, u_Sf_make_30, u_Sf_make_33, u_Sf_make_34, u_Sf_make_35, u_Sf_make_36, u_Sf_make_37, u_Sf_make_40, u_Sf_make_41, u_Sf_make_42, u_Sf_make_43, u_Sf_make_46, u_Sf_make_47, h1_28, gt_28_2, gt_28_3, gt_28_4, h1_31, h2_31, gt_31, pt_31, h1_32, h2_32, gt_32, pt_32, h1_33, h2_33, y33_g, y33_h, y33_z, y33_r, y33_w, ne_eq, not_false_eq_true, not_true_eq_false, true_and, and_true, true_or, or_true, eq_self, Option.toList_some, Option.toList_none, List.cons_append, List.nil_append, tc_0, tc_I, tc_L, tc_A, Nat.reduceAdd, Nat.reduceLeDiff, Nat.reduceEqDiff, Int.reduceEq, Int.reduceLT, Int.reduceLE, Int.reduceNeg, Int.reduceToNat, Int.cast_ofNat_Int, if_true, if_false, and_self, or_self, ite_self, bI_0, bI_1, bI_01, Bool.false_eq_true, reduceCtorEq, show 0 ≤ (n : Int) by omega, show (n : Int) < 15 by omega, Int.toNat_natCast, y33_g hn, hfill]
    exact hQ n hn hh
  have lp : ∀ (m k : Nat), k + m = 14 → (∀ q : Nat, q < k → ∃ h : Nat, h < 14 ∧ hC f h = q) → VV L (d + 1) m_Sf_make 2 [some (tA 28), some (tI kd), some (tI ct), some (tI k)] [] (WW f t g) Q := by
    intro m
    induction m with
    | zero =>
      intro k hk hh
      have : k = 14 := by omega
      subst this
      rw [u_Sf_make_2]
      simp only [u_Sf_make_3, u_Sf_make_5, ne_eq, not_false_eq_true, not_true_eq_false, true_and, and_true, true_or, or_true, eq_self, Option.toList_some, Option.toList_none, List.cons_append, List.nil_append, tc_0, tc_I, tc_L, tc_A, Nat.reduceAdd, Nat.reduceLeDiff, Nat.reduceEqDiff, Int.reduceEq, Int.reduceLT, Int.reduceLE, Int.reduceNeg, Int.reduceToNat, Int.cast_ofNat_Int, if_true, if_false, and_self, or_self, ite_self, bI_0, bI_1, bI_01, Bool.false_eq_true, reduceCtorEq, show (14 : Int) ≤ ((14 : Nat) : Int) by omega]
      refine h22 14 (by omega) (fun h h2 e => ?_)
      refine pigeon 14 (hC f) (fun q hq => ?_)
      by_cases e2 : q = 14
      · exact ⟨h, h2, by rw [e2]; exact e⟩
      · exact hh q (by omega)
    | succ m ih =>
      intro k hk hh
      have wk : w32 ((k : Int) + 1) = ((k + 1 : Nat) : Int) := by rw [w32_id (by omega) (by omega)]; omega
      rw [u_Sf_make_2]
      simp only [u_Sf_make_3, u_Sf_make_5, u_Sf_make_8, u_Sf_make_9, u_Sf_make_10, h1_28, ne_eq, not_false_eq_true, not_true_eq_false, true_and, and_true, true_or, or_true, eq_self, Option.toList_some, Option.toList_none, List.cons_append, List.nil_append, tc_0, tc_I, tc_L, tc_A, Nat.reduceAdd, Nat.reduceLeDiff, Nat.reduceEqDiff, Int.reduceEq, Int.reduceLT, Int.reduceLE, Int.reduceNeg, Int.reduceToNat, Int.cast_ofNat_Int, if_true, if_false, and_self, or_self, ite_self, bI_0, bI_1, bI_01, Bool.false_eq_true, reduceCtorEq, show ¬ (14 : Int) ≤ k by omega]
      refine p_Sf_isHeld (fun h h2 e => ?_) (fun hno => ?_)
      · simp only [u_Sf_make_13, u_Sf_make_16, u_Sf_make_19, ne_eq, not_false_eq_true, not_true_eq_false, true_and, and_true, true_or, or_true, eq_self, Option.toList_some, Option.toList_none, List.cons_append, List.nil_append, tc_0, tc_I, tc_L, tc_A, Nat.reduceAdd, Nat.reduceLeDiff, Nat.reduceEqDiff, Int.reduceEq, Int.reduceLT, Int.reduceLE, Int.reduceNeg, Int.reduceToNat, Int.cast_ofNat_Int, if_true, if_false, and_self, or_self, ite_self, bI_0, bI_1, bI_01, Bool.false_eq_true, reduceCtorEq, wk]
        refine ih (k + 1) (by omega) (fun q hq => ?_)
        by_cases e2 : q = k
        · exact ⟨h, h2, by rw [e2]; exact e⟩
        · exact hh q (by omega)
      · simp only [u_Sf_make_13, u_Sf_make_16, u_Sf_make_19, ne_eq, not_false_eq_true, not_true_eq_false, true_and, and_true, true_or, or_true, eq_self, Option.toList_some, Option.toList_none, List.cons_append, List.nil_append, tc_0, tc_I, tc_L, tc_A, Nat.reduceAdd, Nat.reduceLeDiff, Nat.reduceEqDiff, Int.reduceEq, Int.reduceLT, Int.reduceLE, Int.reduceNeg, Int.reduceToNat, Int.cast_ofNat_Int, if_true, if_false, and_self, or_self, ite_self, bI_0, bI_1, bI_01, Bool.false_eq_true, reduceCtorEq]
        exact h22 k (by omega) hno
  simp only [u_Sf_make_0, u_Sf_make_1, ne_eq, not_false_eq_true, not_true_eq_false, true_and, and_true, true_or, or_true, eq_self, Option.toList_some, Option.toList_none, List.cons_append, List.nil_append, tc_0, tc_I, tc_L, tc_A, Nat.reduceAdd, Nat.reduceLeDiff, Nat.reduceEqDiff, Int.reduceEq, Int.reduceLT, Int.reduceLE, Int.reduceNeg, Int.reduceToNat, Int.cast_ofNat_Int, if_true, if_false, and_self, or_self, ite_self, bI_0, bI_1, bI_01, Bool.false_eq_true, reduceCtorEq]
  exact lp 14 0 (by omega) (fun q hq => by omega)
end
