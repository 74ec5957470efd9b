/-! What is printed: the class -/
def flL (S : List Int) : Nat → Nat → List Int
  | _, 0 => []
  | i, m + 1 => (if S.getD i 0 = 32 then [] else [S.getD i 0]) ++ flL S (i + 1) m
theorem fl_k : ∀ q, q < 22 → flL (strs.getD 2 []) (6 * q) 6 = kyL q := by decide +kernel
theorem fl_p : ∀ p, p < 6 → flL (strs.getD 3 []) (2 * p) 2 = ptk (128 + (p : Nat)) := by decide +kernel
theorem ch_2 : ∀ i, i < 132 → 32 ≤ (strs.getD 2 []).getD i 0 ∧ (strs.getD 2 []).getD i 0 ≤ 126 := by decide +kernel
theorem ch_3 : ∀ i, i < 12 → 32 ≤ (strs.getD 3 []).getD i 0 ∧ (strs.getD 3 []).getD i 0 ≤ 126 := by decide +kernel
theorem ky_w : ∀ q, q < 22 → (kyL q).length + 1 ≤ wtk (200 + (q : Nat)) ∧ 1 ≤ (kyL q).length ∧ ∀ v ∈ kyL q, 32 ≤ v ∧ v ≤ 126 := by decide +kernel
section
variable {L d : Nat} {f t g : Mem} {Q : Option TV → Wd → Prop}
theorem ar_wl {i m fr ms : Nat} (h : i + (m + 1) = fr + ms) (hb : fr + ms ≤ 1000) : w32 ((fr : Int) + ms) = ((fr + ms : Nat) : Int) ∧ ¬ ((fr + ms : Nat) : Int) ≤ (i : Int) ∧ w32 ((i : Int) + 1) = ((i + 1 : Nat) : Int) ∧ (0 : Int) ≤ i := by
  refine ⟨?_, by omega, ?_, by omega⟩ <;> rw [w32_id (by omega) (by omega)] <;> omega
theorem l_wl {a n fr ms : Nat} {S : List Int} (hS : strs.getD (a - 901) [] = S) (hn : (S.length : Int) = (n : Int)) (h0 : a ≠ 0) (hh : (sh L a).1 = 28) (hin : fr + ms ≤ n) (hb : n ≤ 1000) (hc : ∀ i, i < n → 32 ≤ S.getD i 0 ∧ S.getD i 0 ≤ 126) : ∀ (m i : Nat) (l : List Int), i + m = fr + ms → l.length + m ≤ 4096 → VV L (d + 1) m_Pr_writeLetters 3 [some (tA 16), some (tA a), some (tI fr), some (tI ms), some (tI i)] [] (WW (PSt 17 16 1 f l) t g) Q = Q none (WW (PSt 17 16 1 f (l ++ flL S i m)) t g) := by
  intro m
  induction m with
  | zero =>
    intro i l hi _
    have w1 : w32 ((fr : Int) + ms) = ((fr + ms : Nat) : Int) := by rw [w32_id (by omega) (by omega)]; omega
    have h1 : ((fr + ms : Nat) : Int) ≤ (i : Int) := by omega
    rw [u_Pr_writeLetters_3, flL, List.append_nil]
    simp only [u_Pr_writeLetters_5, u_Pr_writeLetters_6, u_Pr_writeLetters_7, u_Pr_writeLetters_8, u_Pr_writeLetters_47, ne_eq, not_false_eq_true, not_true_eq_false, true_and, and_true, true_or, or_true, eq_self, Option.toList_some, Option.toList_none, List.cons_append, List.nil_append, tc_0, tc_I, tc_L, tc_A, Nat.reduceAdd, Nat.reduceLeDiff, Nat.reduceEqDiff, Int.reduceEq, Int.reduceLT, Int.reduceLE, Int.reduceNeg, Int.reduceToNat, Int.cast_ofNat_Int, if_true, if_false, and_self, or_self, ite_self, bI_0, bI_1, bI_01, Bool.false_eq_true, reduceCtorEq, w1, h1]
  | succ m ih =>
    intro i l hi hl
    obtain ⟨w1, h1, wi, i0⟩ := ar_wl hi (Nat.le_trans hin hb)
    have hin' : i < n := by omega
    have h2 : ¬ (n : Int) ≤ (i : Int) := by omega
    have h3 : (i : Int) < (n : Int) := by omega
    have hci := hc i hin'
    rw [u_Pr_writeLetters_3, flL]
    by_cases h32 : S.getD i 0 = 32
    · rw [if_pos h32, List.nil_append, ← ih (i + 1) l (by omega) (by omega)]
      simp only [u_Pr_writeLetters_5, u_Pr_writeLetters_6, u_Pr_writeLetters_7, u_Pr_writeLetters_8, u_Pr_writeLetters_11, u_Pr_writeLetters_13, u_Pr_writeLetters_14, u_Pr_writeLetters_17, u_Pr_writeLetters_20, u_Pr_writeLetters_21, u_Pr_writeLetters_23, u_Pr_writeLetters_26, u_Pr_writeLetters_28, u_Pr_writeLetters_31, u_Pr_writeLetters_32, u_Pr_writeLetters_33, u_Pr_writeLetters_35, u_Pr_writeLetters_38, u_Pr_writeLetters_41, u_Pr_writeLetters_44, ne_eq, not_false_eq_true, not_true_eq_false, true_and, and_true, true_or, or_true, eq_self, Option.toList_some, Option.toList_none, List.cons_append, List.nil_append, tc_0, tc_I, tc_L, tc_A, Nat.reduceAdd, Nat.reduceLeDiff, Nat.reduceEqDiff, Int.reduceEq, Int.reduceLT, Int.reduceLE, Int.reduceNeg, Int.reduceToNat, Int.cast_ofNat_Int, if_true, if_false, and_self, or_self, ite_self, bI_0, bI_1, bI_01, Bool.false_eq_true, reduceCtorEq, w1, h1, h0, hh, hS, hn, h2, h3, i0, Int.toNat_natCast, h32, wi]
    · rw [if_neg h32, ← List.append_assoc, ← ih (i + 1) (l ++ [S.getD i 0]) (by omega) (by rw [List.length_append, List.length_singleton]; omega)]
      simp only [u_Pr_writeLetters_5, u_Pr_writeLetters_6, u_Pr_writeLetters_7, u_Pr_writeLetters_8, u_Pr_writeLetters_11, u_Pr_writeLetters_13, u_Pr_writeLetters_14, u_Pr_writeLetters_17, u_Pr_writeLetters_20, u_Pr_writeLetters_21, u_Pr_writeLetters_23, u_Pr_writeLetters_26, u_Pr_writeLetters_28, u_Pr_writeLetters_31, u_Pr_writeLetters_32, u_Pr_writeLetters_33, u_Pr_writeLetters_35, u_Pr_writeLetters_38, u_Pr_writeLetters_41, u_Pr_writeLetters_44, h1_16, ne_eq, not_false_eq_true, not_true_eq_false, true_and, and_true, true_or, or_true, eq_self, Option.toList_some, Option.toList_none, List.cons_append, List.nil_append, tc_0, tc_I, tc_L, tc_A, Nat.reduceAdd, Nat.reduceLeDiff, Nat.reduceEqDiff, Int.reduceEq, Int.reduceLT, Int.reduceLE, Int.reduceNeg, Int.reduceToNat, Int.cast_ofNat_Int, if_true, if_false, and_self, or_self, ite_self, bI_0, bI_1, bI_01, Bool.false_eq_true, reduceCtorEq, w1, h1, h0, hh, hS, hn, h2, h3, i0, Int.toNat_natCast, h32, s_Pr_add (show l.length < 4096 by omega) hci, wi]
theorem ptk_num {v : Int} (h : v < 0) : ptk v = dL (-1 - v) (dgt (-1 - v) - 1) := by unfold ptk; rw [if_pos h]
theorem ptk_key {v : Int} (h : 200 ≤ v) : ptk v = kyL (v - 200).toNat := by unfold ptk; rw [if_neg (by omega), if_pos h]
theorem ptk_one {v : Int} (h : 0 ≤ v) (h' : v < 128) : ptk v = [v] := by unfold ptk; rw [if_neg (by omega), if_neg (by omega), if_neg (by omega), if_neg (by omega), if_neg (by omega), if_neg (by omega), if_neg (by omega), if_neg (by omega)]
/-- a token takes no more than it weighs -/
theorem ptk_w {v : Int} (h : okT v) : (ptk v).length + 1 ≤ wtk v ∧ 1 ≤ (ptk v).length ∧ ∀ u ∈ ptk v, 32 ≤ u ∧ u ≤ 126 := by
  have one : ∀ v : Int, 33 ≤ v → v ≤ 126 → (ptk v).length + 1 ≤ wtk v ∧ 1 ≤ (ptk v).length ∧ ∀ u ∈ ptk v, 32 ≤ u ∧ u ≤ 126 := by
    intro v h1 h2
    rw [ptk_one (by omega) (by omega)]
    refine ⟨?_, by simp, fun u hu => by rw [List.mem_singleton.mp hu]; omega⟩
    unfold wtk; rw [if_neg (by omega), if_pos (by omega), if_neg (by omega)]; simp
  rcases cls h with b | b | b | b | b | b | b
  · obtain ⟨a1, a2, _, _⟩ := dgt_1 (n := -1 - v) (by omega) (by omega)
    rw [ptk_num b.1.2, dL_len]
    refine ⟨?_, by omega, ?_⟩
    · unfold wtk; rw [if_pos b.1.2]; omega
    · have : ∀ (k : Nat) (u : Int), u ∈ dL (-1 - v) k → 32 ≤ u ∧ u ≤ 126 := by
        intro k
        induction k with
        | zero => intro u hu; rw [List.mem_singleton.mp hu]; exact dig_b (by omega)
        | succ k ih =>
          intro u hu
          rcases List.mem_cons.mp hu with rfl | hu
          · exact dig_b (Int.ediv_nonneg (by omega) (Int.le_of_lt (Int.pow_pos (by decide))))
          · exact ih u hu
      exact this _
  · exact one v (by omega) (by omega)
  · exact one v (by omega) (by omega)
  · exact one v (by omega) (by omega)
  · obtain ⟨q, hq⟩ : ∃ q : Nat, v = 200 + (q : Int) := ⟨(v - 200).toNat, by omega⟩
    have := ky_w q (by omega)
    rw [ptk_key (by omega), show (v - 200).toNat = q by omega, hq]
    exact this
  · rcases b.2 with q | q | q | q | q | q <;> rw [q.1] <;> decide
  · obtain ⟨b1, _⟩ := b
    unfold sgT at b1
    exact one v (by omega) (by omega)
theorem s_Pr_writeToken {v : Int} {l : List Int} (h : okT v) (hl : l.length + 10 ≤ 4096) : VV L (d + 2) m_Pr_writeToken 0 [some (tA 16), some (tI v)] [] (WW (PSt 17 16 1 f l) t g) Q = Q none (WW (PSt 17 16 1 f (l ++ ptk v)) t g) := by
  have one : 33 ≤ v → v ≤ 126 → VV L (d + 2) m_Pr_writeToken 0 [some (tA 16), some (tI v)] [] (WW (PSt 17 16 1 f l) t g) Q = Q none (WW (PSt 17 16 1 f (l ++ ptk v)) t g) := by
    intro h1 h2
    have e1 : kNum v = false := by unfold kNum; simp; omega
    have e2 : kPair v = false := by unfold kPair; simp; omega
    rw [ptk_one (by omega) (by omega)]
    simp only [u_Pr_writeToken_0, u_Pr_writeToken_1, u_Pr_writeToken_4, u_Pr_writeToken_7, u_Pr_writeToken_8, u_Pr_writeToken_9, u_Pr_writeToken_12, u_Pr_writeToken_15, u_Pr_writeToken_18, u_Pr_writeToken_19, u_Pr_writeToken_22, u_Pr_writeToken_25, u_Pr_writeToken_26, u_Pr_writeToken_28, u_Pr_writeToken_29, u_Pr_writeToken_32, u_Pr_writeToken_33, u_Pr_writeToken_35, u_Pr_writeToken_36, u_Pr_writeToken_38, u_Pr_writeToken_41, u_Pr_writeToken_44, u_Pr_writeToken_45, u_Pr_writeToken_48, u_Pr_writeToken_51, u_Pr_writeToken_52, u_Pr_writeToken_54, u_Pr_writeToken_55, u_Pr_writeToken_58, u_Pr_writeToken_59, u_Pr_writeToken_60, u_Pr_writeToken_61, u_Pr_writeToken_62, u_Pr_writeToken_65, u_Pr_writeToken_68, u_Pr_writeToken_69, u_Pr_writeToken_70, u_Pr_writeToken_73, h1_16, ne_eq, not_false_eq_true, not_true_eq_false, true_and, and_true, true_or, or_true, eq_self, Option.toList_some, Option.toList_none, List.cons_append, List.nil_append, tc_0, tc_I, tc_L, tc_A, Nat.reduceAdd, Nat.reduceLeDiff, Nat.reduceEqDiff, Int.reduceEq, Int.reduceLT, Int.reduceLE, Int.reduceNeg, Int.reduceToNat, Int.cast_ofNat_Int, if_true, if_false, and_self, or_self, ite_self, bI_0, bI_1, bI_01, Bool.false_eq_true, reduceCtorEq, s_Tk_isNumber, e1, bB_f, show v < 200 by omega, s_Tk_isPair, e2, s_Pr_add (show l.length < 4096 by omega) (show 32 ≤ v ∧ v ≤ 126 by omega)]
  rcases cls h with b | b | b | b | b | b | b
  · have e1 : kNum v = true := by unfold kNum; simp; omega
    obtain ⟨a1, a2, _, _⟩ := dgt_1 (n := -1 - v) (by omega) (by omega)
    have wn : w32 (-1 - v) = -1 - v := w32_id (by omega) (by omega)
    rw [ptk_num b.1.2]
    simp only [u_Pr_writeToken_0, u_Pr_writeToken_1, u_Pr_writeToken_4, u_Pr_writeToken_7, u_Pr_writeToken_8, u_Pr_writeToken_9, u_Pr_writeToken_12, u_Pr_writeToken_15, u_Pr_writeToken_18, u_Pr_writeToken_19, u_Pr_writeToken_22, u_Pr_writeToken_25, u_Pr_writeToken_26, u_Pr_writeToken_28, u_Pr_writeToken_29, u_Pr_writeToken_32, u_Pr_writeToken_33, u_Pr_writeToken_35, u_Pr_writeToken_36, u_Pr_writeToken_38, u_Pr_writeToken_41, u_Pr_writeToken_44, u_Pr_writeToken_45, u_Pr_writeToken_48, u_Pr_writeToken_51, u_Pr_writeToken_52, u_Pr_writeToken_54, u_Pr_writeToken_55, u_Pr_writeToken_58, u_Pr_writeToken_59, u_Pr_writeToken_60, u_Pr_writeToken_61, u_Pr_writeToken_62, u_Pr_writeToken_65, u_Pr_writeToken_68, u_Pr_writeToken_69, u_Pr_writeToken_70, u_Pr_writeToken_73, h1_16, ne_eq, not_false_eq_true, not_true_eq_false, true_and, and_true, true_or, or_true, eq_self, Option.toList_some, Option.toList_none, List.cons_append, List.nil_append, tc_0, tc_I, tc_L, tc_A, Nat.reduceAdd, Nat.reduceLeDiff, Nat.reduceEqDiff, Int.reduceEq, Int.reduceLT, Int.reduceLE, Int.reduceNeg, Int.reduceToNat, Int.cast_ofNat_Int, if_true, if_false, and_self, or_self, ite_self, bI_0, bI_1, bI_01, Bool.false_eq_true, reduceCtorEq, s_Tk_isNumber, e1, bB_t, s_Tk_numberOf, wn, s_Pr_writeNumber (show 0 ≤ -1 - v by omega) (show -1 - v < 1000000000 by omega) (show l.length + dgt (-1 - v) ≤ 4096 by omega)]
  · exact one (by omega) (by omega)
  · exact one (by omega) (by omega)
  · exact one (by omega) (by omega)
  · obtain ⟨q, rfl⟩ : ∃ q : Nat, v = 200 + (q : Int) := ⟨(v - 200).toNat, by omega⟩
    have hq : q < 22 := by omega
    have e1 : kNum (200 + (q : Int)) = false := by unfold kNum; simp; omega
    have w1 : w32 (200 + (q : Int) - 200) = (q : Int) := by rw [w32_id (by omega) (by omega)]; omega
    have w2 : w32 ((q : Int) * 6) = ((6 * q : Nat) : Int) := by rw [w32_id (by omega) (by omega)]; omega
    have hl2 := l_wl (L := L) (d := d) (f := f) (t := t) (g := g) (Q := fun r w1 => VV L (d + 1 + 1) m_Pr_writeToken 41 [some (tA 16), some (tI (200 + (q : Int)))] (r.toList ++ []) w1 Q) (a := 903) (n := 132) (fr := 6 * q) (ms := 6) rfl (by decide +kernel) (by decide) h1_903 (by omega) (by decide) ch_2 6 (6 * q) l rfl (by omega)
    rw [fl_k q hq] at hl2
    have hst : VV L (d + 2) m_Pr_writeToken 0 [some (tA 16), some (tI (200 + (q : Int)))] [] (WW (PSt 17 16 1 f l) t g) Q = VV L (d + 1) m_Pr_writeLetters 3 [some (tA 16), some (tA 903), some (tI ((6 * q : Nat) : Int)), some (tI ((6 : Nat) : Int)), some (tI ((6 * q : Nat) : Int))] [] (WW (PSt 17 16 1 f l) t g) (fun r w1 => VV L (d + 1 + 1) m_Pr_writeToken 41 [some (tA 16), some (tI (200 + (q : Int)))] (r.toList ++ []) w1 Q) := by
      simp only [u_Pr_writeToken_0, u_Pr_writeToken_1, u_Pr_writeToken_4, u_Pr_writeToken_7, u_Pr_writeToken_8, u_Pr_writeToken_9, u_Pr_writeToken_12, u_Pr_writeToken_15, u_Pr_writeToken_18, u_Pr_writeToken_19, u_Pr_writeToken_22, u_Pr_writeToken_25, u_Pr_writeToken_26, u_Pr_writeToken_28, u_Pr_writeToken_29, u_Pr_writeToken_32, u_Pr_writeToken_33, u_Pr_writeToken_35, u_Pr_writeToken_36, u_Pr_writeToken_38, u_Pr_writeLetters_0, u_Pr_writeLetters_1, h1_16, ne_eq, not_false_eq_true, not_true_eq_false, true_and, and_true, true_or, or_true, eq_self, Option.toList_some, Option.toList_none, List.cons_append, List.nil_append, tc_0, tc_I, tc_L, tc_A, Nat.reduceAdd, Nat.reduceLeDiff, Nat.reduceEqDiff, Int.reduceEq, Int.reduceLT, Int.reduceLE, Int.reduceNeg, Int.reduceToNat, Int.cast_ofNat_Int, if_true, if_false, and_self, or_self, ite_self, bI_0, bI_1, bI_01, Bool.false_eq_true, reduceCtorEq, s_Tk_isNumber, e1, bB_f, show ¬ 200 + (q : Int) < 200 by omega, w1, w2]
    rw [hst, hl2, ptk_key (by omega), show (200 + (q : Int) - 200).toNat = q by omega]
    simp only [u_Pr_writeToken_41, u_Pr_writeToken_73, ne_eq, not_false_eq_true, not_true_eq_false, true_and, and_true, true_or, or_true, eq_self, Option.toList_some, Option.toList_none, List.cons_append, List.nil_append, tc_0, tc_I, tc_L, tc_A, Nat.reduceAdd, Nat.reduceLeDiff, Nat.reduceEqDiff, Int.reduceEq, Int.reduceLT, Int.reduceLE, Int.reduceNeg, Int.reduceToNat, Int.cast_ofNat_Int, if_true, if_false, and_self, or_self, ite_self, bI_0, bI_1, bI_01, Bool.false_eq_true, reduceCtorEq]
  · obtain ⟨p, rfl⟩ : ∃ p : Nat, v = 128 + (p : Int) := ⟨(v - 128).toNat, by omega⟩
    have hp : p < 6 := by omega
    have e1 : kNum (128 + (p : Int)) = false := by unfold kNum; simp; omega
    have e2 : kPair (128 + (p : Int)) = true := by unfold kPair; simp; omega
    have w1 : w32 (128 + (p : Int) - 128) = (p : Int) := by rw [w32_id (by omega) (by omega)]; omega
    have w2 : w32 ((p : Int) * 2) = ((2 * p : Nat) : Int) := by rw [w32_id (by omega) (by omega)]; omega
    have hl2 := l_wl (L := L) (d := d) (f := f) (t := t) (g := g) (Q := fun r w1 => VV L (d + 1 + 1) m_Pr_writeToken 65 [some (tA 16), some (tI (128 + (p : Int)))] (r.toList ++ []) w1 Q) (a := 904) (n := 12) (fr := 2 * p) (ms := 2) rfl (by decide +kernel) (by decide) h1_904 (by omega) (by decide) ch_3 2 (2 * p) l rfl (by omega)
    rw [fl_p p hp] at hl2
    have hst : VV L (d + 2) m_Pr_writeToken 0 [some (tA 16), some (tI (128 + (p : Int)))] [] (WW (PSt 17 16 1 f l) t g) Q = VV L (d + 1) m_Pr_writeLetters 3 [some (tA 16), some (tA 904), some (tI ((2 * p : Nat) : Int)), some (tI ((2 : Nat) : Int)), some (tI ((2 * p : Nat) : Int))] [] (WW (PSt 17 16 1 f l) t g) (fun r w1 => VV L (d + 1 + 1) m_Pr_writeToken 65 [some (tA 16), some (tI (128 + (p : Int)))] (r.toList ++ []) w1 Q) := by
      simp only [u_Pr_writeToken_0, u_Pr_writeToken_1, u_Pr_writeToken_4, u_Pr_writeToken_7, u_Pr_writeToken_8, u_Pr_writeToken_9, u_Pr_writeToken_12, u_Pr_writeToken_15, u_Pr_writeToken_18, u_Pr_writeToken_19, u_Pr_writeToken_22, u_Pr_writeToken_25, u_Pr_writeToken_26, u_Pr_writeToken_28, u_Pr_writeToken_29, u_Pr_writeToken_32, u_Pr_writeToken_33, u_Pr_writeToken_35, u_Pr_writeToken_36, u_Pr_writeToken_38, u_Pr_writeToken_41, u_Pr_writeToken_44, u_Pr_writeToken_45, u_Pr_writeToken_48, u_Pr_writeToken_51, u_Pr_writeToken_52, u_Pr_writeToken_54, u_Pr_writeToken_55, u_Pr_writeToken_58, u_Pr_writeToken_59, u_Pr_writeToken_60, u_Pr_writeToken_61, u_Pr_writeToken_62, u_Pr_writeLetters_0, u_Pr_writeLetters_1, h1_16, ne_eq, not_false_eq_true, not_true_eq_false, true_and, and_true, true_or, or_true, eq_self, Option.toList_some, Option.toList_none, List.cons_append, List.nil_append, tc_0, tc_I, tc_L, tc_A, Nat.reduceAdd, Nat.reduceLeDiff, Nat.reduceEqDiff, Int.reduceEq, Int.reduceLT, Int.reduceLE, Int.reduceNeg, Int.reduceToNat, Int.cast_ofNat_Int, if_true, if_false, and_self, or_self, ite_self, bI_0, bI_1, bI_01, Bool.false_eq_true, reduceCtorEq, s_Tk_isNumber, s_Tk_isPair, e1, e2, bB_f, bB_t, show 128 + (p : Int) < 200 by omega, w1, w2]
    rw [hst, hl2]
    simp only [u_Pr_writeToken_65, u_Pr_writeToken_73, ne_eq, not_false_eq_true, not_true_eq_false, true_and, and_true, true_or, or_true, eq_self, Option.toList_some, Option.toList_none, List.cons_append, List.nil_append, tc_0, tc_I, tc_L, tc_A, Nat.reduceAdd, Nat.reduceLeDiff, Nat.reduceEqDiff, Int.reduceEq, Int.reduceLT, Int.reduceLE, Int.reduceNeg, Int.reduceToNat, Int.cast_ofNat_Int, if_true, if_false, and_self, or_self, ite_self, bI_0, bI_1, bI_01, Bool.false_eq_true, reduceCtorEq]
  · obtain ⟨b1, _⟩ := b
    unfold sgT at b1
    exact one (by omega) (by omega)
end
