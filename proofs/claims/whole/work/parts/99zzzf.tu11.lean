/-! turn, the reference: standsIn, sumsOf -/
section
variable {L d r len : Nat} {f t g : Mem} {T : Int → Int} {Q : Option TV → Wd → Prop} {j fr n : Int}
theorem s_M_isNm {q : Int} (h : RT g r T len) (h0 : 0 ≤ q) (hq : q < len) (hok : okT (T q)) (hn : kName n = true) : VV L d m_M_isToken 0 [some (tA 156), some (tI r), some (tI q), some (tI 1), some (tI (n - 97))] [] (WW f t g) Q = Q (some (tI (bB (decide (T q = n))))) (WW f t g) := by
  rw [s_M_isToken h h0]
  have e : (q < len ∧ eS T q = 1 ∧ whc (T q) = n - 97) ↔ T q = n := by
    constructor
    · rintro ⟨_, h2, h3⟩
      have hk := (eS_nm hok).mp h2
      rw [(srt_name hk).2] at h3; omega
    · intro hh
      have hk : kName (T q) = true := by rw [hh]; exact hn
      exact ⟨hq, (eS_nm hok).mpr hk, by rw [(srt_name hk).2, hh]⟩
  rw [decide_eq_decide.mpr e]
theorem l_M_standsIn (h : RT g r T len) (hn : kName n = true) (hj : j ≤ len) : ∀ (k : List Int) (i : Int) (b : Bool), 0 ≤ i → seg T i j k → (∀ v ∈ k, okT v) → VV L (d + 1) m_M_standsIn 6 [some (tA 156), some (tI r), some (tI fr), some (tI j), some (tI (n - 97)), some (tI (bB b)), some (tI i)] [] (WW f t g) Q = Q (some (tI (bB (b || decide (n ∈ k))))) (WW f t g) := by
  have hl1 := h.l1
  intro k
  induction k with
  | nil =>
    intro i b h0 hs _
    have e := seg_len hs
    simp only [List.length_nil] at e
    have hij : j ≤ i := by omega
    rw [u_M_standsIn_6]
    have eb : (b || decide (n ∈ ([] : List Int))) = b := by simp
    rw [eb]
    cases b <;> simp only [u_M_standsIn_8, u_M_standsIn_9, u_M_standsIn_43, u_M_standsIn_45, ne_eq, not_false_eq_true, not_true_eq_false, true_and, and_true, true_or, or_true, eq_self, Option.toList_some, Option.toList_none, List.cons_append, List.nil_append, tc_0, tc_I, tc_L, tc_A, Nat.reduceAdd, Nat.reduceLeDiff, Nat.reduceEqDiff, Int.reduceEq, Int.reduceLT, Int.reduceLE, Int.reduceNeg, Int.reduceToNat, Int.cast_ofNat_Int, if_true, if_false, and_self, or_self, ite_self, bI_0, bI_1, bI_01, Bool.false_eq_true, reduceCtorEq, hij, bB_t, bB_f]
  | cons v k ih =>
    intro i b h0 hs hk
    have e := seg_len hs
    obtain ⟨hv, hs'⟩ := seg_hd hs
    rw [List.length_cons] at e
    have hij : ¬ j ≤ i := by omega
    have wi : w32 (i + 1) = i + 1 := w32_id (by omega) (by omega)
    have hok : okT (T i) := by rw [hv]; exact hk v List.mem_cons_self
    have hrec := fun b' => ih (i + 1) b' (by omega) hs' (fun w hw => hk w (List.mem_cons_of_mem _ hw))
    rw [u_M_standsIn_6]
    cases b with
    | true =>
      have hr := hrec true
      rw [Bool.true_or, bB_t] at hr
      rw [Bool.true_or, bB_t, ← hr]
      simp only [u_M_standsIn_8, u_M_standsIn_9, u_M_standsIn_12, u_M_standsIn_14, u_M_standsIn_17, u_M_standsIn_18, u_M_standsIn_19, u_M_standsIn_21, u_M_standsIn_22, u_M_standsIn_24, u_M_standsIn_27, u_M_standsIn_30, u_M_standsIn_31, u_M_standsIn_34, u_M_standsIn_35, u_M_standsIn_37, u_M_standsIn_40, ne_eq, not_false_eq_true, not_true_eq_false, true_and, and_true, true_or, or_true, eq_self, Option.toList_some, Option.toList_none, List.cons_append, List.nil_append, tc_0, tc_I, tc_L, tc_A, Nat.reduceAdd, Nat.reduceLeDiff, Nat.reduceEqDiff, Int.reduceEq, Int.reduceLT, Int.reduceLE, Int.reduceNeg, Int.reduceToNat, Int.cast_ofNat_Int, if_true, if_false, and_self, or_self, ite_self, bI_0, bI_1, bI_01, Bool.false_eq_true, reduceCtorEq, hij, bB_t, wi]
    | false =>
      rw [Bool.false_or, bB_f]
      by_cases hc : v = n
      · have hr := hrec true
        rw [Bool.true_or, bB_t] at hr
        rw [decide_eq_true (show n ∈ v :: k by rw [hc]; exact List.mem_cons_self), bB_t, ← hr]
        simp only [u_M_standsIn_8, u_M_standsIn_9, u_M_standsIn_12, u_M_standsIn_14, u_M_standsIn_17, u_M_standsIn_18, u_M_standsIn_19, u_M_standsIn_21, u_M_standsIn_22, u_M_standsIn_24, u_M_standsIn_27, u_M_standsIn_30, u_M_standsIn_31, u_M_standsIn_34, u_M_standsIn_35, u_M_standsIn_37, u_M_standsIn_40, h1_156, ne_eq, not_false_eq_true, not_true_eq_false, true_and, and_true, true_or, or_true, eq_self, Option.toList_some, Option.toList_none, List.cons_append, List.nil_append, tc_0, tc_I, tc_L, tc_A, Nat.reduceAdd, Nat.reduceLeDiff, Nat.reduceEqDiff, Int.reduceEq, Int.reduceLT, Int.reduceLE, Int.reduceNeg, Int.reduceToNat, Int.cast_ofNat_Int, if_true, if_false, and_self, or_self, ite_self, bI_0, bI_1, bI_01, Bool.false_eq_true, reduceCtorEq, hij, s_M_isNm h h0 (show i < len by omega) hok hn, hv, hc, decide_true, bB_t, wi]
      · have hr := hrec false
        rw [Bool.false_or, bB_f] at hr
        have em : decide (n ∈ v :: k) = decide (n ∈ k) := by
          rw [decide_eq_decide]
          constructor
          · intro hh
            rcases List.mem_cons.mp hh with hh | hh
            · exact absurd hh.symm hc
            · exact hh
          · intro hh; exact List.mem_cons_of_mem _ hh
        rw [em, ← hr]
        simp only [u_M_standsIn_8, u_M_standsIn_9, u_M_standsIn_12, u_M_standsIn_14, u_M_standsIn_17, u_M_standsIn_18, u_M_standsIn_19, u_M_standsIn_21, u_M_standsIn_22, u_M_standsIn_24, u_M_standsIn_27, u_M_standsIn_30, u_M_standsIn_31, u_M_standsIn_34, u_M_standsIn_35, u_M_standsIn_37, u_M_standsIn_40, h1_156, ne_eq, not_false_eq_true, not_true_eq_false, true_and, and_true, true_or, or_true, eq_self, Option.toList_some, Option.toList_none, List.cons_append, List.nil_append, tc_0, tc_I, tc_L, tc_A, Nat.reduceAdd, Nat.reduceLeDiff, Nat.reduceEqDiff, Int.reduceEq, Int.reduceLT, Int.reduceLE, Int.reduceNeg, Int.reduceToNat, Int.cast_ofNat_Int, if_true, if_false, and_self, or_self, ite_self, bI_0, bI_1, bI_01, Bool.false_eq_true, reduceCtorEq, hij, s_M_isNm h h0 (show i < len by omega) hok hn, hv, hc, decide_false, bB_f, wi]
theorem s_M_standsIn {i : Int} {k : List Int} (h : RT g r T len) (hn : kName n = true) (hj : j ≤ len) (h0 : 0 ≤ i) (hs : seg T i j k) (hk : ∀ v ∈ k, okT v) : VV L (d + 1) m_M_standsIn 0 [some (tA 156), some (tI r), some (tI i), some (tI j), some (tI (n - 97)), none, none] [] (WW f t g) Q = Q (some (tI (bB (decide (n ∈ k))))) (WW f t g) := by
  have hl := l_M_standsIn (L := L) (d := d) (f := f) (t := t) (Q := Q) (fr := i) h hn hj k i false h0 hs hk
  rw [Bool.false_or, bB_f] at hl
  rw [← hl]
  simp only [u_M_standsIn_0, u_M_standsIn_1, u_M_standsIn_3, u_M_standsIn_4, ne_eq, not_false_eq_true, not_true_eq_false, true_and, and_true, true_or, or_true, eq_self, Option.toList_some, Option.toList_none, List.cons_append, List.nil_append, tc_0, tc_I, tc_L, tc_A, Nat.reduceAdd, Nat.reduceLeDiff, Nat.reduceEqDiff, Int.reduceEq, Int.reduceLT, Int.reduceLE, Int.reduceNeg, Int.reduceToNat, Int.cast_ofNat_Int, if_true, if_false, and_self, or_self, ite_self, bI_0, bI_1, bI_01, Bool.false_eq_true, reduceCtorEq]
theorem q_51 {m : Nat} (h : m ≤ 2000) : w32 ((m : Int) + 1) = ((m + 1 : Nat) : Int) ∧ w32 ((m : Int) + 0) = (m : Int) := by
  refine ⟨?_, ?_⟩ <;> rw [w32_id (by omega) (by omega)] <;> omega
theorem l_M_sums (h : RT g r T len) (hj : j ≤ len) : ∀ (k : List Int) (i dp : Int) (m : Nat) (u v : Option TV), 0 ≤ i → seg T i j k → -2000 ≤ dp - k.length → dp + k.length ≤ 2000 → m + k.length ≤ 2000 → VV L (d + 1) m_M_sumsOf 9 [some (tA 156), some (tI r), some (tI fr), some (tI j), some (tI dp), some (tI m), some (tI i), u, v] [] (WW f t g) Q = Q (some (tI ((m + cntS (T (i - 1)) dp k : Nat) : Int))) (WW f t g) := by
  have hl1 := h.l1
  intro k
  induction k with
  | nil =>
    intro i dp m u v h0 hs _ _ _
    have e := seg_len hs
    simp only [List.length_nil] at e
    have hij : j ≤ i := by omega
    rw [u_M_sumsOf_9]
    simp only [u_M_sumsOf_11, u_M_sumsOf_12, u_M_sumsOf_162, u_M_sumsOf_164, ne_eq, not_false_eq_true, not_true_eq_false, true_and, and_true, true_or, or_true, eq_self, Option.toList_some, Option.toList_none, List.cons_append, List.nil_append, tc_0, tc_I, tc_L, tc_A, Nat.reduceAdd, Nat.reduceLeDiff, Nat.reduceEqDiff, Int.reduceEq, Int.reduceLT, Int.reduceLE, Int.reduceNeg, Int.reduceToNat, Int.cast_ofNat_Int, if_true, if_false, and_self, or_self, ite_self, bI_0, bI_1, bI_01, Bool.false_eq_true, reduceCtorEq, hij, cntS, Nat.add_zero]
  | cons x k ih =>
    intro i dp m u v h0 hs hd1 hd2 hm
    have e := seg_len hs
    obtain ⟨hv, hs'⟩ := seg_hd hs
    rw [List.length_cons] at e hd1 hd2 hm
    have hij : ¬ j ≤ i := by omega
    have wi : w32 (i + 1) = i + 1 := w32_id (by omega) (by omega)
    have ob := opb_b x
    obtain ⟨x1, x2, x3, x4, x5, x6⟩ := h.ix h0 (show i < len by omega)
    have es : eS T i = eSl (T (i - 1)) x := by unfold eS eSl; rw [hv]
    rw [es] at x5
    rw [hv] at x6
    have t40 := fun D Q => s_M_isSign (L := L) (d := D) (f := f) (t := t) (Q := Q) (w := 40) h h0 (by decide) (by omega) (by omega)
    have t41 := fun D Q => s_M_isSign (L := L) (d := D) (f := f) (t := t) (Q := Q) (w := 41) h h0 (by decide) (by omega) (by omega)
    rw [hv] at t40 t41
    have wo : w32 (dp + opb x) = dp + opb x := w32_id (by omega) (by omega)
    have hopen : ∀ (c8 : Int) , VV L (d + 1) m_M_sumsOf 15 [some (tA 156), some (tI r), some (tI fr), some (tI j), some (tI dp), some (tI m), some (tI i), u, v] [] (WW f t g) Q = VV L (d + 1) m_M_sumsOf 85 [some (tA 156), some (tI r), some (tI fr), some (tI j), some (tI dp), some (tI m), some (tI i), some (tI (if x = 40 ∨ x = 91 then 1 else 0)), some (tI (if x = 41 ∨ x = 93 then 1 else 0))] [] (WW f t g) Q := by
      intro c8
      by_cases a1 : x = 40
      · subst a1
        simp only [u_M_sumsOf_15, u_M_sumsOf_16, u_M_sumsOf_17, u_M_sumsOf_19, u_M_sumsOf_21, u_M_sumsOf_23, u_M_sumsOf_26, u_M_sumsOf_29, u_M_sumsOf_30, u_M_sumsOf_31, u_M_sumsOf_33, u_M_sumsOf_35, u_M_sumsOf_37, u_M_sumsOf_40, u_M_sumsOf_43, u_M_sumsOf_44, u_M_sumsOf_47, u_M_sumsOf_48, u_M_sumsOf_50, u_M_sumsOf_51, u_M_sumsOf_52, u_M_sumsOf_54, u_M_sumsOf_56, u_M_sumsOf_58, u_M_sumsOf_61, u_M_sumsOf_64, u_M_sumsOf_65, u_M_sumsOf_66, u_M_sumsOf_68, u_M_sumsOf_70, u_M_sumsOf_72, u_M_sumsOf_75, u_M_sumsOf_78, u_M_sumsOf_79, u_M_sumsOf_82, u_M_sumsOf_83, h1_156, ne_eq, not_false_eq_true, not_true_eq_false, true_and, and_true, true_or, or_true, eq_self, Option.toList_some, Option.toList_none, List.cons_append, List.nil_append, tc_0, tc_I, tc_L, tc_A, Nat.reduceAdd, Nat.reduceLeDiff, Nat.reduceEqDiff, Int.reduceEq, Int.reduceLT, Int.reduceLE, Int.reduceNeg, Int.reduceToNat, Int.cast_ofNat_Int, if_true, if_false, and_self, or_self, ite_self, bI_0, bI_1, bI_01, Bool.false_eq_true, reduceCtorEq, t40, t41, s_M_is91 h h0, s_M_is93 h h0, hv, Int.reduceEq, decide_true, decide_false, bB_t, bB_f, true_or, or_self, if_true, if_false]
      · by_cases a2 : x = 91
        · subst a2
          simp only [u_M_sumsOf_15, u_M_sumsOf_16, u_M_sumsOf_17, u_M_sumsOf_19, u_M_sumsOf_21, u_M_sumsOf_23, u_M_sumsOf_26, u_M_sumsOf_29, u_M_sumsOf_30, u_M_sumsOf_31, u_M_sumsOf_33, u_M_sumsOf_35, u_M_sumsOf_37, u_M_sumsOf_40, u_M_sumsOf_43, u_M_sumsOf_44, u_M_sumsOf_47, u_M_sumsOf_48, u_M_sumsOf_50, u_M_sumsOf_51, u_M_sumsOf_52, u_M_sumsOf_54, u_M_sumsOf_56, u_M_sumsOf_58, u_M_sumsOf_61, u_M_sumsOf_64, u_M_sumsOf_65, u_M_sumsOf_66, u_M_sumsOf_68, u_M_sumsOf_70, u_M_sumsOf_72, u_M_sumsOf_75, u_M_sumsOf_78, u_M_sumsOf_79, u_M_sumsOf_82, u_M_sumsOf_83, h1_156, ne_eq, not_false_eq_true, not_true_eq_false, true_and, and_true, true_or, or_true, eq_self, Option.toList_some, Option.toList_none, List.cons_append, List.nil_append, tc_0, tc_I, tc_L, tc_A, Nat.reduceAdd, Nat.reduceLeDiff, Nat.reduceEqDiff, Int.reduceEq, Int.reduceLT, Int.reduceLE, Int.reduceNeg, Int.reduceToNat, Int.cast_ofNat_Int, if_true, if_false, and_self, or_self, ite_self, bI_0, bI_1, bI_01, Bool.false_eq_true, reduceCtorEq, t40, t41, s_M_is91 h h0, s_M_is93 h h0, hv, Int.reduceEq, decide_true, decide_false, bB_t, bB_f, or_true, or_self, if_true, if_false]
        · by_cases a3 : x = 41
          · subst a3
            simp only [u_M_sumsOf_15, u_M_sumsOf_16, u_M_sumsOf_17, u_M_sumsOf_19, u_M_sumsOf_21, u_M_sumsOf_23, u_M_sumsOf_26, u_M_sumsOf_29, u_M_sumsOf_30, u_M_sumsOf_31, u_M_sumsOf_33, u_M_sumsOf_35, u_M_sumsOf_37, u_M_sumsOf_40, u_M_sumsOf_43, u_M_sumsOf_44, u_M_sumsOf_47, u_M_sumsOf_48, u_M_sumsOf_50, u_M_sumsOf_51, u_M_sumsOf_52, u_M_sumsOf_54, u_M_sumsOf_56, u_M_sumsOf_58, u_M_sumsOf_61, u_M_sumsOf_64, u_M_sumsOf_65, u_M_sumsOf_66, u_M_sumsOf_68, u_M_sumsOf_70, u_M_sumsOf_72, u_M_sumsOf_75, u_M_sumsOf_78, u_M_sumsOf_79, u_M_sumsOf_82, u_M_sumsOf_83, h1_156, ne_eq, not_false_eq_true, not_true_eq_false, true_and, and_true, true_or, or_true, eq_self, Option.toList_some, Option.toList_none, List.cons_append, List.nil_append, tc_0, tc_I, tc_L, tc_A, Nat.reduceAdd, Nat.reduceLeDiff, Nat.reduceEqDiff, Int.reduceEq, Int.reduceLT, Int.reduceLE, Int.reduceNeg, Int.reduceToNat, Int.cast_ofNat_Int, if_true, if_false, and_self, or_self, ite_self, bI_0, bI_1, bI_01, Bool.false_eq_true, reduceCtorEq, t40, t41, s_M_is91 h h0, s_M_is93 h h0, hv, Int.reduceEq, decide_true, decide_false, bB_t, bB_f, true_or, or_self, if_true, if_false]
          · by_cases a4 : x = 93
            · subst a4
              simp only [u_M_sumsOf_15, u_M_sumsOf_16, u_M_sumsOf_17, u_M_sumsOf_19, u_M_sumsOf_21, u_M_sumsOf_23, u_M_sumsOf_26, u_M_sumsOf_29, u_M_sumsOf_30, u_M_sumsOf_31, u_M_sumsOf_33, u_M_sumsOf_35, u_M_sumsOf_37, u_M_sumsOf_40, u_M_sumsOf_43, u_M_sumsOf_44, u_M_sumsOf_47, u_M_sumsOf_48, u_M_sumsOf_50, u_M_sumsOf_51, u_M_sumsOf_52, u_M_sumsOf_54, u_M_sumsOf_56, u_M_sumsOf_58, u_M_sumsOf_61, u_M_sumsOf_64, u_M_sumsOf_65, u_M_sumsOf_66, u_M_sumsOf_68, u_M_sumsOf_70, u_M_sumsOf_72, u_M_sumsOf_75, u_M_sumsOf_78, u_M_sumsOf_79, u_M_sumsOf_82, u_M_sumsOf_83, h1_156, ne_eq, not_false_eq_true, not_true_eq_false, true_and, and_true, true_or, or_true, eq_self, Option.toList_some, Option.toList_none, List.cons_append, List.nil_append, tc_0, tc_I, tc_L, tc_A, Nat.reduceAdd, Nat.reduceLeDiff, Nat.reduceEqDiff, Int.reduceEq, Int.reduceLT, Int.reduceLE, Int.reduceNeg, Int.reduceToNat, Int.cast_ofNat_Int, if_true, if_false, and_self, or_self, ite_self, bI_0, bI_1, bI_01, Bool.false_eq_true, reduceCtorEq, t40, t41, s_M_is91 h h0, s_M_is93 h h0, hv, Int.reduceEq, decide_true, decide_false, bB_t, bB_f, or_true, or_self, if_true, if_false]
            · simp only [u_M_sumsOf_15, u_M_sumsOf_16, u_M_sumsOf_17, u_M_sumsOf_19, u_M_sumsOf_21, u_M_sumsOf_23, u_M_sumsOf_26, u_M_sumsOf_29, u_M_sumsOf_30, u_M_sumsOf_31, u_M_sumsOf_33, u_M_sumsOf_35, u_M_sumsOf_37, u_M_sumsOf_40, u_M_sumsOf_43, u_M_sumsOf_44, u_M_sumsOf_47, u_M_sumsOf_48, u_M_sumsOf_50, u_M_sumsOf_51, u_M_sumsOf_52, u_M_sumsOf_54, u_M_sumsOf_56, u_M_sumsOf_58, u_M_sumsOf_61, u_M_sumsOf_64, u_M_sumsOf_65, u_M_sumsOf_66, u_M_sumsOf_68, u_M_sumsOf_70, u_M_sumsOf_72, u_M_sumsOf_75, u_M_sumsOf_78, u_M_sumsOf_79, u_M_sumsOf_82, u_M_sumsOf_83, h1_156, ne_eq, not_false_eq_true, not_true_eq_false, true_and, and_true, true_or, or_true, eq_self, Option.toList_some, Option.toList_none, List.cons_append, List.nil_append, tc_0, tc_I, tc_L, tc_A, Nat.reduceAdd, Nat.reduceLeDiff, Nat.reduceEqDiff, Int.reduceEq, Int.reduceLT, Int.reduceLE, Int.reduceNeg, Int.reduceToNat, Int.cast_ofNat_Int, if_true, if_false, and_self, or_self, ite_self, bI_0, bI_1, bI_01, Bool.false_eq_true, reduceCtorEq, t40, t41, s_M_is91 h h0, s_M_is93 h h0, hv, a1, a2, a3, a4, decide_false, bB_f, or_self, if_false]
    have hcnt : ∀ (y8 z8 : Int), VV L (d + 1) m_M_sumsOf 85 [some (tA 156), some (tI r), some (tI fr), some (tI j), some (tI dp), some (tI m), some (tI i), some (tI y8), some (tI z8)] [] (WW f t g) Q = VV L (d + 1) m_M_sumsOf 132 [some (tA 156), some (tI r), some (tI fr), some (tI j), some (tI dp), some (tI ((m + (if dp = 0 ∧ eSl (T (i - 1)) x = 7 ∧ kSum x = true then 1 else 0) : Nat) : Int)), some (tI i), some (tI y8), some (tI z8)] [] (WW f t g) Q := by
      intro y8 z8
      obtain ⟨w1, w0⟩ := q_51 (show m ≤ 2000 by omega)
      by_cases hz : dp = 0
      · have hi := smw_iff (pv := T (i - 1)) (v := x)
        by_cases hc : eSl (T (i - 1)) x = 7 ∧ kSum x = true
        · have hd : (decide (eSl (T (i - 1)) x = 7) && kSum (whc x)) = true := by rw [Bool.and_eq_true, decide_eq_true_eq]; exact hi.mpr hc
          rw [if_pos ⟨hz, hc.1, hc.2⟩]
          simp only [u_M_sumsOf_85, u_M_sumsOf_87, u_M_sumsOf_89, u_M_sumsOf_92, u_M_sumsOf_93, u_M_sumsOf_96, u_M_sumsOf_99, u_M_sumsOf_100, u_M_sumsOf_101, u_M_sumsOf_103, u_M_sumsOf_104, u_M_sumsOf_105, u_M_sumsOf_106, u_M_sumsOf_109, u_M_sumsOf_112, u_M_sumsOf_113, u_M_sumsOf_114, u_M_sumsOf_116, u_M_sumsOf_117, u_M_sumsOf_118, u_M_sumsOf_121, u_M_sumsOf_124, u_M_sumsOf_125, u_M_sumsOf_128, u_M_sumsOf_129, u_M_sumsOf_130, h1_156, gt_156_25, gt_156_26, h1_164, h2_164, gt_164, pt_164, h1_165, h2_165, gt_165, pt_165, ne_eq, not_false_eq_true, not_true_eq_false, true_and, and_true, true_or, or_true, eq_self, Option.toList_some, Option.toList_none, List.cons_append, List.nil_append, tc_0, tc_I, tc_L, tc_A, Nat.reduceAdd, Nat.reduceLeDiff, Nat.reduceEqDiff, Int.reduceEq, Int.reduceLT, Int.reduceLE, Int.reduceNeg, Int.reduceToNat, Int.cast_ofNat_Int, if_true, if_false, and_self, or_self, ite_self, bI_0, bI_1, bI_01, Bool.false_eq_true, reduceCtorEq, hz, x1, x2, x3, x4, x5, x6, s_M_isSum, hd, bB_t, w1]
        · have hd : (decide (eSl (T (i - 1)) x = 7) && kSum (whc x)) = false := by
            cases hb : (decide (eSl (T (i - 1)) x = 7) && kSum (whc x)) with
            | false => rfl
            | true => rw [Bool.and_eq_true, decide_eq_true_eq] at hb; exact absurd (hi.mp hb) hc
          rw [if_neg (fun hh => hc ⟨hh.2.1, hh.2.2⟩)]
          simp only [u_M_sumsOf_85, u_M_sumsOf_87, u_M_sumsOf_89, u_M_sumsOf_92, u_M_sumsOf_93, u_M_sumsOf_96, u_M_sumsOf_99, u_M_sumsOf_100, u_M_sumsOf_101, u_M_sumsOf_103, u_M_sumsOf_104, u_M_sumsOf_105, u_M_sumsOf_106, u_M_sumsOf_109, u_M_sumsOf_112, u_M_sumsOf_113, u_M_sumsOf_114, u_M_sumsOf_116, u_M_sumsOf_117, u_M_sumsOf_118, u_M_sumsOf_121, u_M_sumsOf_124, u_M_sumsOf_125, u_M_sumsOf_128, u_M_sumsOf_129, u_M_sumsOf_130, h1_156, gt_156_25, gt_156_26, h1_164, h2_164, gt_164, pt_164, h1_165, h2_165, gt_165, pt_165, ne_eq, not_false_eq_true, not_true_eq_false, true_and, and_true, true_or, or_true, eq_self, Option.toList_some, Option.toList_none, List.cons_append, List.nil_append, tc_0, tc_I, tc_L, tc_A, Nat.reduceAdd, Nat.reduceLeDiff, Nat.reduceEqDiff, Int.reduceEq, Int.reduceLT, Int.reduceLE, Int.reduceNeg, Int.reduceToNat, Int.cast_ofNat_Int, if_true, if_false, and_self, or_self, ite_self, bI_0, bI_1, bI_01, Bool.false_eq_true, reduceCtorEq, hz, x1, x2, x3, x4, x5, x6, s_M_isSum, hd, bB_f, w0, Nat.add_zero]
      · rw [if_neg (fun hh => hz hh.1)]
        simp only [u_M_sumsOf_85, u_M_sumsOf_87, u_M_sumsOf_89, u_M_sumsOf_92, u_M_sumsOf_93, u_M_sumsOf_96, u_M_sumsOf_99, u_M_sumsOf_100, u_M_sumsOf_101, u_M_sumsOf_103, u_M_sumsOf_104, u_M_sumsOf_105, u_M_sumsOf_106, u_M_sumsOf_109, u_M_sumsOf_112, u_M_sumsOf_113, u_M_sumsOf_114, u_M_sumsOf_116, u_M_sumsOf_117, u_M_sumsOf_118, u_M_sumsOf_121, u_M_sumsOf_124, u_M_sumsOf_125, u_M_sumsOf_128, u_M_sumsOf_129, u_M_sumsOf_130, ne_eq, not_false_eq_true, not_true_eq_false, true_and, and_true, true_or, or_true, eq_self, Option.toList_some, Option.toList_none, List.cons_append, List.nil_append, tc_0, tc_I, tc_L, tc_A, Nat.reduceAdd, Nat.reduceLeDiff, Nat.reduceEqDiff, Int.reduceEq, Int.reduceLT, Int.reduceLE, Int.reduceNeg, Int.reduceToNat, Int.cast_ofNat_Int, if_true, if_false, and_self, or_self, ite_self, bI_0, bI_1, bI_01, Bool.false_eq_true, reduceCtorEq, hz, w0, Nat.add_zero]
    have hlast : ∀ (m' : Nat), VV L (d + 1) m_M_sumsOf 132 [some (tA 156), some (tI r), some (tI fr), some (tI j), some (tI dp), some (tI (m' : Int)), some (tI i), some (tI (if x = 40 ∨ x = 91 then 1 else 0)), some (tI (if x = 41 ∨ x = 93 then 1 else 0))] [] (WW f t g) Q = VV L (d + 1) m_M_sumsOf 9 [some (tA 156), some (tI r), some (tI fr), some (tI j), some (tI (dp + opb x)), some (tI (m' : Int)), some (tI (i + 1)), some (tI (if x = 40 ∨ x = 91 then 1 else 0)), some (tI (if x = 41 ∨ x = 93 then 1 else 0))] [] (WW f t g) Q := by
      intro m'
      unfold opb at wo ⊢
      by_cases a1 : x = 40 ∨ x = 91
      · rw [if_pos a1] at wo
        simp only [if_pos a1, u_M_sumsOf_132, u_M_sumsOf_134, u_M_sumsOf_136, u_M_sumsOf_139, u_M_sumsOf_140, u_M_sumsOf_143, u_M_sumsOf_145, u_M_sumsOf_148, u_M_sumsOf_149, u_M_sumsOf_152, u_M_sumsOf_153, u_M_sumsOf_154, u_M_sumsOf_156, u_M_sumsOf_159, ne_eq, not_false_eq_true, not_true_eq_false, true_and, and_true, true_or, or_true, eq_self, Option.toList_some, Option.toList_none, List.cons_append, List.nil_append, tc_0, tc_I, tc_L, tc_A, Nat.reduceAdd, Nat.reduceLeDiff, Nat.reduceEqDiff, Int.reduceEq, Int.reduceLT, Int.reduceLE, Int.reduceNeg, Int.reduceToNat, Int.cast_ofNat_Int, if_true, if_false, and_self, or_self, ite_self, bI_0, bI_1, bI_01, Bool.false_eq_true, reduceCtorEq, wo, wi]
      · rw [if_neg a1] at wo
        by_cases a2 : x = 41 ∨ x = 93
        · rw [if_pos a2] at wo
          simp only [if_neg a1, if_pos a2, u_M_sumsOf_132, u_M_sumsOf_134, u_M_sumsOf_136, u_M_sumsOf_139, u_M_sumsOf_140, u_M_sumsOf_143, u_M_sumsOf_145, u_M_sumsOf_148, u_M_sumsOf_149, u_M_sumsOf_152, u_M_sumsOf_153, u_M_sumsOf_154, u_M_sumsOf_156, u_M_sumsOf_159, ne_eq, not_false_eq_true, not_true_eq_false, true_and, and_true, true_or, or_true, eq_self, Option.toList_some, Option.toList_none, List.cons_append, List.nil_append, tc_0, tc_I, tc_L, tc_A, Nat.reduceAdd, Nat.reduceLeDiff, Nat.reduceEqDiff, Int.reduceEq, Int.reduceLT, Int.reduceLE, Int.reduceNeg, Int.reduceToNat, Int.cast_ofNat_Int, if_true, if_false, and_self, or_self, ite_self, bI_0, bI_1, bI_01, Bool.false_eq_true, reduceCtorEq, wo, wi]
        · rw [if_neg a2] at wo
          simp only [if_neg a1, if_neg a2, u_M_sumsOf_132, u_M_sumsOf_134, u_M_sumsOf_136, u_M_sumsOf_139, u_M_sumsOf_140, u_M_sumsOf_143, u_M_sumsOf_145, u_M_sumsOf_148, u_M_sumsOf_149, u_M_sumsOf_152, u_M_sumsOf_153, u_M_sumsOf_154, u_M_sumsOf_156, u_M_sumsOf_159, ne_eq, not_false_eq_true, not_true_eq_false, true_and, and_true, true_or, or_true, eq_self, Option.toList_some, Option.toList_none, List.cons_append, List.nil_append, tc_0, tc_I, tc_L, tc_A, Nat.reduceAdd, Nat.reduceLeDiff, Nat.reduceEqDiff, Int.reduceEq, Int.reduceLT, Int.reduceLE, Int.reduceNeg, Int.reduceToNat, Int.cast_ofNat_Int, if_true, if_false, and_self, or_self, ite_self, bI_0, bI_1, bI_01, Bool.false_eq_true, reduceCtorEq, wo, wi]
    have hle : (if dp = 0 ∧ eSl (T (i - 1)) x = 7 ∧ kSum x = true then 1 else 0) ≤ 1 := by split <;> omega
    have hrec := ih (i + 1) (dp + opb x) (m + (if dp = 0 ∧ eSl (T (i - 1)) x = 7 ∧ kSum x = true then 1 else 0)) (some (tI (if x = 40 ∨ x = 91 then 1 else 0))) (some (tI (if x = 41 ∨ x = 93 then 1 else 0))) (by omega) hs' (by omega) (by omega) (by omega)
    rw [show i + 1 - 1 = i by omega, hv] at hrec
    have ec : m + cntS (T (i - 1)) dp (x :: k) = m + (if dp = 0 ∧ eSl (T (i - 1)) x = 7 ∧ kSum x = true then 1 else 0) + cntS x (dp + opb x) k := by
      show m + ((if dp = 0 ∧ eSl (T (i - 1)) x = 7 ∧ kSum x = true then 1 else 0) + cntS x (dp + opb x) k) = _
      omega
    rw [ec, ← hrec, ← hlast, ← hcnt, ← hopen 0, u_M_sumsOf_9]
    simp only [u_M_sumsOf_11, u_M_sumsOf_12, ne_eq, not_false_eq_true, not_true_eq_false, true_and, and_true, true_or, or_true, eq_self, Option.toList_some, Option.toList_none, List.cons_append, List.nil_append, tc_0, tc_I, tc_L, tc_A, Nat.reduceAdd, Nat.reduceLeDiff, Nat.reduceEqDiff, Int.reduceEq, Int.reduceLT, Int.reduceLE, Int.reduceNeg, Int.reduceToNat, Int.cast_ofNat_Int, if_true, if_false, and_self, or_self, ite_self, bI_0, bI_1, bI_01, Bool.false_eq_true, reduceCtorEq, hij]
theorem s_M_sums {i : Int} {k : List Int} (h : RT g r T len) (hj : j ≤ len) (h0 : 0 ≤ i) (hs : seg T i j k) : VV L (d + 1) m_M_sumsOf 0 [some (tA 156), some (tI r), some (tI i), some (tI j), none, none, none, none, none] [] (WW f t g) Q = Q (some (tI ((cntS (T (i - 1)) 0 k : Nat) : Int))) (WW f t g) := by
  have hl1 := h.l1
  have e := seg_len hs
  have hl := l_M_sums (L := L) (d := d) (f := f) (t := t) (Q := Q) (fr := i) h hj k i 0 0 none none h0 hs (by omega) (by omega) (by omega)
  rw [Nat.zero_add, show ((0 : Nat) : Int) = 0 from rfl] at hl
  rw [← hl]
  simp only [u_M_sumsOf_0, u_M_sumsOf_1, u_M_sumsOf_3, u_M_sumsOf_4, u_M_sumsOf_6, u_M_sumsOf_7, ne_eq, not_false_eq_true, not_true_eq_false, true_and, and_true, true_or, or_true, eq_self, Option.toList_some, Option.toList_none, List.cons_append, List.nil_append, tc_0, tc_I, tc_L, tc_A, Nat.reduceAdd, Nat.reduceLeDiff, Nat.reduceEqDiff, Int.reduceEq, Int.reduceLT, Int.reduceLE, Int.reduceNeg, Int.reduceToNat, Int.cast_ofNat_Int, if_true, if_false, and_self, or_self, ite_self, bI_0, bI_1, bI_01, Bool.false_eq_true, reduceCtorEq]
end
section
variable {T : Int → Int} {n i j : Int} {k : List Int}
theorem plQ_M (hs : seg T i j k) (hj : T j = 59) (kn : kName n = true) (hg : gf (T (i - 1)) k) (k1 : 1 ≤ k.length) : plQ n k = true ↔ (T i = n ∧ cntS (T (i - 1)) 0 k = 1 ∧ (decide (eS T (i + 1) = 7) && kSum (whc (T (i + 1)))) = true ∧ ¬ whc (T (i + 1)) = 124 ∧ ¬ n ∈ k.drop 2) := by
  match k, hs, hg, k1 with
  | [a], hs, hg, _ =>
    have e := seg_len hs
    simp only [List.length_cons, List.length_nil] at e
    have e59 : T (i + 1) = 59 := by rw [show i + 1 = j by omega]; exact hj
    have w59 : whc 59 = 59 := by decide
    rw [e59, w59]
    constructor
    · intro hh; exact absurd (show false = true from hh) (by decide)
    · rintro ⟨_, _, h3, _⟩; rw [Bool.and_eq_true] at h3; exact absurd h3.2 (by decide)
  | a :: s :: l, hs, hg, _ =>
    obtain ⟨ha, hs2⟩ := seg_hd hs
    obtain ⟨hs1, hs3⟩ := seg_hd hs2
    have ee : eS T (i + 1) = eSl a s := by unfold eS eSl; rw [hs1, show i + 1 - 1 = i by omega, ha]
    have hsm := smw_iff (pv := a) (v := s)
    rw [ee, hs1, ha, Bool.and_eq_true, decide_eq_true_eq, show (a :: s :: l).drop 2 = l from rfl]
    have hone := one_cnt l s 0 hg.2.2
    have ec : cntS (T (i - 1)) 0 (a :: s :: l) = (if (0 : Int) = 0 ∧ eSl (T (i - 1)) a = 7 ∧ kSum a = true then 1 else 0) + ((if 0 + opb a = 0 ∧ eSl a s = 7 ∧ kSum s = true then 1 else 0) + cntS s (0 + opb a + opb s) l) := rfl
    have ep : plQ n (a :: s :: l) = (decide (a = n ∧ kSum s = true ∧ ¬ s = 124 ∧ ¬ n ∈ l) && one1 s 0 l) := rfl
    rw [ep, Bool.and_eq_true, decide_eq_true_eq]
    have kna : a = n → (¬ kSum a = true) ∧ opb a = 0 ∧ kEnd a = true := by
      intro hh
      rw [hh]
      unfold kName at kn; simp at kn
      refine ⟨?_, ?_, ?_⟩
      · unfold kSum; simp; omega
      · unfold opb; rw [if_neg (by omega), if_neg (by omega)]
      · unfold kEnd; simp; omega
    have w7 : eSl a s = 7 → whc s = s := by
      intro hh
      unfold eSl at hh
      split at hh
      · omega
      · exact srt7 hh
    constructor
    · rintro ⟨⟨h1, h2, h3, h4⟩, h5⟩
      obtain ⟨q1, q2, q3⟩ := kna h1
      obtain ⟨p1, p2⟩ := sum_7 (pv := a) h2
      have e7 : eSl a s = 7 := p1.mpr (fun _ => q3)
      refine ⟨h1, ?_, hsm.mpr ⟨e7, h2⟩, by rw [w7 e7]; exact h3, h4⟩
      rw [ec, if_neg (fun hh => q1 hh.2.2), q2, Int.add_zero, if_pos ⟨rfl, e7, h2⟩, p2, Int.add_zero, hone.mp h5]
    · rintro ⟨h1, h2, h3, h4, h5⟩
      obtain ⟨q1, q2, q3⟩ := kna h1
      obtain ⟨e7, h6⟩ := hsm.mp h3
      obtain ⟨p1, p2⟩ := sum_7 (pv := a) h6
      rw [ec, if_neg (fun hh => q1 hh.2.2), q2, Int.add_zero, if_pos ⟨rfl, e7, h6⟩, p2, Int.add_zero] at h2
      rw [w7 e7] at h4
      exact ⟨⟨h1, h6, h4, h5⟩, hone.mpr (by omega)⟩
end
