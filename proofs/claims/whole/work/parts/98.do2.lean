/-! Doing a step, the class: leaves -/
def OkP (f : Mem) : Pl → Prop
  | .inl k => 0 ≤ k ∧ k < 26 ∧ f 20 k.toNat = 1
  | .inr (r, i) => 0 ≤ r ∧ r < 6 ∧ 0 ≤ f 29 r.toNat ∧ f 29 r.toNat < 15 ∧ 0 ≤ i ∧ i < f 32 (f 29 r.toNat).toNat ∧ f 32 (f 29 r.toNat).toNat ≤ 12 ∧ 0 ≤ f 31 (f 29 r.toNat).toNat ∧ f 31 (f 29 r.toNat).toNat ≤ 4
def kdP (f : Mem) : Pl → Int
  | .inl _ => 0
  | .inr (r, _) => f 31 (f 29 r.toNat).toNat
def ldP (f : Mem) : Pl → Int
  | .inl k => f 21 k.toNat
  | .inr (r, i) => f (34 + (f 29 r.toNat).toNat) i.toNat
def stP (f : Mem) (v : Int) : Pl → Mem
  | .inl k => mset (mset f 20 k.toNat 1) 21 k.toNat (w32 v)
  | .inr (r, i) => mset f (34 + (f 29 r.toNat).toNat) i.toNat (cutI (f 31 (f 29 r.toNat).toNat) v)
section
variable {L d : Nat} {f t g : Mem} {w : Wd} {Q : Option TV → Wd → Prop} {k v n i s x : Int} {p : Pl}
theorem s_Sf_store (h0 : 0 ≤ n) (h1 : n < 15) (h2 : 0 ≤ i) (h3 : i < f 32 n.toNat) (h12 : f 32 n.toNat ≤ 12) (hk : 0 ≤ f 31 n.toNat ∧ f 31 n.toNat ≤ 4) : VV L (d + 1) m_Sf_store 0 [some (tA 28), some (tI n), some (tI i), some (tL v), none] [] (WW f t g) Q = Q none (WW (mset f (34 + n.toNat) i.toNat (cutI (f 31 n.toNat) v)) t g) := by
  have hn : n.toNat < 15 := by omega
  simp only [u_Sf_store_0, u_Sf_store_1, u_Sf_store_4, u_Sf_store_5, u_Sf_store_7, u_Sf_store_10, u_Sf_store_11, u_Sf_store_14, u_Sf_store_15, u_Sf_store_16, u_Sf_store_19, u_Sf_store_20, u_Sf_store_21, u_Sf_store_24, u_Sf_store_25, u_Sf_store_28, u_Sf_store_29, u_Sf_store_30, u_Sf_store_31, u_Sf_store_32, u_Sf_store_35, u_Sf_store_36, u_Sf_store_37, u_Sf_store_38, u_Sf_store_41, u_Sf_store_42, h1_28, gt_28_3, h1_32, h2_32, gt_32, pt_32, gt_28_4, h1_33, h2_33, y33_g, y33_h, y33_z, y33_r, y33_w, gt_28_2, h1_31, h2_31, gt_31, pt_31, ne_eq, not_false_eq_true, not_true_eq_false, true_and, and_true, true_or, or_true, eq_self, Option.toList_some, Option.toList_none, List.cons_append, List.nil_append, tc_0, tc_I, tc_L, tc_A, Nat.reduceAdd, Nat.reduceLeDiff, Nat.reduceEqDiff, Int.reduceEq, Int.reduceLT, Int.reduceLE, Int.reduceNeg, Int.reduceToNat, Int.cast_ofNat_Int, if_true, if_false, and_self, or_self, ite_self, bI_0, bI_1, bI_01, Bool.false_eq_true, reduceCtorEq, show ¬ n < 0 by omega, show ¬ 15 ≤ n by omega, show ¬ i < 0 by omega, show ¬ f 32 n.toNat ≤ i by omega, h0, h1, h2, show i < 12 by omega, y33_g hn, y33_h hn, y33_z hn, y33_w hn, s_Sf_cut hk.1 hk.2]
theorem spC_n (h : OkP f p) : (∃ k, p = .inl k ∧ 0 ≤ k ∧ k < 26 ∧ f 20 k.toNat = 1) ∨ (∃ r i, p = .inr (r, i)) := by
  match p, h with
  | .inl k, h => exact Or.inl ⟨k, rfl, h.1, h.2.1, h.2.2⟩
  | .inr (r, i), h => exact Or.inr ⟨r, i, rfl⟩
theorem s_Do_kindOf (h : OkP f p) : VV L (d + 1) m_Do_kindOf 0 [some (tA 152), some (tI (spC f p))] [] (WW f t g) Q = Q (some (tI (kdP f p))) (WW f t g) := by
  match p, h with
  | .inl k, h =>
    have hn : (0 ≤ k ∧ k < 26) := ⟨h.1, h.2.1⟩
    simp only [spC, kdP, u_Do_kindOf_0, u_Do_kindOf_1, u_Do_kindOf_4, u_Do_kindOf_7, u_Do_kindOf_8, u_Do_kindOf_11, u_Do_kindOf_12, u_Do_kindOf_15, u_Do_kindOf_16, u_Do_kindOf_19, u_Do_kindOf_22, h1_152, gt_152_1, h1_28, ne_eq, not_false_eq_true, not_true_eq_false, true_and, and_true, true_or, or_true, eq_self, Option.toList_some, Option.toList_none, List.cons_append, List.nil_append, tc_0, tc_I, tc_L, tc_A, Nat.reduceAdd, Nat.reduceLeDiff, Nat.reduceEqDiff, Int.reduceEq, Int.reduceLT, Int.reduceLE, Int.reduceNeg, Int.reduceToNat, Int.cast_ofNat_Int, if_true, if_false, and_self, or_self, ite_self, bI_0, bI_1, bI_01, Bool.false_eq_true, reduceCtorEq, s_St_isName, hn, decide_true, bB_t]
  | .inr (r, i), h =>
    obtain ⟨a1, a2, a3, a4, a5, a6, a7, a8, a9⟩ := h
    have hn : ¬ (0 ≤ 26 + f 29 r.toNat * 12 + i ∧ 26 + f 29 r.toNat * 12 + i < 26) := by omega
    have hk : kdS f (f 29 r.toNat) = f 31 (f 29 r.toNat).toNat := by unfold kdS; rw [if_pos ⟨a3, a4⟩]
    simp only [spC, kdP, u_Do_kindOf_0, u_Do_kindOf_1, u_Do_kindOf_4, u_Do_kindOf_7, u_Do_kindOf_8, u_Do_kindOf_11, u_Do_kindOf_12, u_Do_kindOf_15, u_Do_kindOf_16, u_Do_kindOf_19, u_Do_kindOf_22, h1_152, gt_152_1, h1_28, ne_eq, not_false_eq_true, not_true_eq_false, true_and, and_true, true_or, or_true, eq_self, Option.toList_some, Option.toList_none, List.cons_append, List.nil_append, tc_0, tc_I, tc_L, tc_A, Nat.reduceAdd, Nat.reduceLeDiff, Nat.reduceEqDiff, Int.reduceEq, Int.reduceLT, Int.reduceLE, Int.reduceNeg, Int.reduceToNat, Int.cast_ofNat_Int, if_true, if_false, and_self, or_self, ite_self, bI_0, bI_1, bI_01, Bool.false_eq_true, reduceCtorEq, s_St_isName, hn, decide_false, bB_f, s_Wo_numberAt (s := 26 + f 29 r.toNat * 12 + i) (n := f 29 r.toNat) (i := i) rfl ⟨a3, a4⟩ ⟨a5, by omega⟩, s_Sf_kindOf, hk]
theorem s_Do_load (h : OkP f p) : VV L (d + 1) m_Do_load 0 [some (tA 152), some (tI (spC f p))] [] (WW f t g) Q = Q (some (tL (ldP f p))) (WW f t g) := by
  match p, h with
  | .inl k, h =>
    have hn : (0 ≤ k ∧ k < 26) := ⟨h.1, h.2.1⟩
    have hw : wrt f k = f 21 k.toNat := by
      have : thr f k = true := by unfold thr; simp [h.1, h.2.1, h.2.2]
      unfold wrt; rw [if_pos this]
    simp only [spC, ldP, u_Do_load_0, u_Do_load_1, u_Do_load_4, u_Do_load_7, u_Do_load_8, u_Do_load_11, u_Do_load_12, u_Do_load_15, u_Do_load_16, u_Do_load_17, u_Do_load_18, u_Do_load_21, u_Do_load_22, u_Do_load_25, u_Do_load_26, u_Do_load_29, u_Do_load_32, h1_152, gt_152_0, h1_19, gt_152_1, h1_28, ne_eq, not_false_eq_true, not_true_eq_false, true_and, and_true, true_or, or_true, eq_self, Option.toList_some, Option.toList_none, List.cons_append, List.nil_append, tc_0, tc_I, tc_L, tc_A, Nat.reduceAdd, Nat.reduceLeDiff, Nat.reduceEqDiff, Int.reduceEq, Int.reduceLT, Int.reduceLE, Int.reduceNeg, Int.reduceToNat, Int.cast_ofNat_Int, if_true, if_false, and_self, or_self, ite_self, bI_0, bI_1, bI_01, Bool.false_eq_true, reduceCtorEq, s_St_isName, hn, decide_true, bB_t, s_St_worthOf, hw]
  | .inr (r, i), h =>
    obtain ⟨a1, a2, a3, a4, a5, a6, a7, a8, a9⟩ := h
    have hn : ¬ (0 ≤ 26 + f 29 r.toNat * 12 + i ∧ 26 + f 29 r.toNat * 12 + i < 26) := by omega
    have hk : ldS f (f 29 r.toNat) i = f (34 + (f 29 r.toNat).toNat) i.toNat := by unfold ldS; rw [if_pos ⟨a3, a4, a5, a6⟩]
    simp only [spC, ldP, u_Do_load_0, u_Do_load_1, u_Do_load_4, u_Do_load_7, u_Do_load_8, u_Do_load_11, u_Do_load_12, u_Do_load_15, u_Do_load_16, u_Do_load_17, u_Do_load_18, u_Do_load_21, u_Do_load_22, u_Do_load_25, u_Do_load_26, u_Do_load_29, u_Do_load_32, h1_152, gt_152_0, h1_19, gt_152_1, h1_28, ne_eq, not_false_eq_true, not_true_eq_false, true_and, and_true, true_or, or_true, eq_self, Option.toList_some, Option.toList_none, List.cons_append, List.nil_append, tc_0, tc_I, tc_L, tc_A, Nat.reduceAdd, Nat.reduceLeDiff, Nat.reduceEqDiff, Int.reduceEq, Int.reduceLT, Int.reduceLE, Int.reduceNeg, Int.reduceToNat, Int.cast_ofNat_Int, if_true, if_false, and_self, or_self, ite_self, bI_0, bI_1, bI_01, Bool.false_eq_true, reduceCtorEq, s_St_isName, hn, decide_false, bB_f, s_Wo_numberAt (s := 26 + f 29 r.toNat * 12 + i) (n := f 29 r.toNat) (i := i) rfl ⟨a3, a4⟩ ⟨a5, by omega⟩, s_Wo_itemAt (s := 26 + f 29 r.toNat * 12 + i) (n := f 29 r.toNat) (i := i) rfl ⟨a3, a4⟩ ⟨a5, by omega⟩, s_Sf_load (f := f) (n := f 29 r.toNat) (i := i) (fun _ _ => a7), hk]
theorem s_Do_store (h : OkP f p) : VV L (d + 2) m_Do_store 0 [some (tA 152), some (tI (spC f p)), some (tL v), none] [] (WW f t g) Q = Q none (WW (stP f v p) t g) := by
  match p, h with
  | .inl k, h =>
    have hn : (0 ≤ k ∧ k < 26) := ⟨h.1, h.2.1⟩
    simp only [spC, stP, u_Do_store_0, u_Do_store_1, u_Do_store_4, u_Do_store_7, u_Do_store_8, u_Do_store_11, u_Do_store_12, u_Do_store_13, u_Do_store_14, u_Do_store_17, u_Do_store_20, u_Do_store_21, u_Do_store_24, u_Do_store_25, u_Do_store_28, u_Do_store_29, u_Do_store_32, u_Do_store_33, u_Do_store_36, h1_152, gt_152_0, h1_19, gt_152_1, h1_28, ne_eq, not_false_eq_true, not_true_eq_false, true_and, and_true, true_or, or_true, eq_self, Option.toList_some, Option.toList_none, List.cons_append, List.nil_append, tc_0, tc_I, tc_L, tc_A, Nat.reduceAdd, Nat.reduceLeDiff, Nat.reduceEqDiff, Int.reduceEq, Int.reduceLT, Int.reduceLE, Int.reduceNeg, Int.reduceToNat, Int.cast_ofNat_Int, if_true, if_false, and_self, or_self, ite_self, bI_0, bI_1, bI_01, Bool.false_eq_true, reduceCtorEq, s_St_isName, hn, decide_true, bB_t, s_St_bring]
  | .inr (r, i), h =>
    obtain ⟨a1, a2, a3, a4, a5, a6, a7, a8, a9⟩ := h
    have hn : ¬ (0 ≤ 26 + f 29 r.toNat * 12 + i ∧ 26 + f 29 r.toNat * 12 + i < 26) := by omega
    simp only [spC, stP, u_Do_store_0, u_Do_store_1, u_Do_store_4, u_Do_store_7, u_Do_store_8, u_Do_store_11, u_Do_store_12, u_Do_store_13, u_Do_store_14, u_Do_store_17, u_Do_store_20, u_Do_store_21, u_Do_store_24, u_Do_store_25, u_Do_store_28, u_Do_store_29, u_Do_store_32, u_Do_store_33, u_Do_store_36, h1_152, gt_152_0, h1_19, gt_152_1, h1_28, ne_eq, not_false_eq_true, not_true_eq_false, true_and, and_true, true_or, or_true, eq_self, Option.toList_some, Option.toList_none, List.cons_append, List.nil_append, tc_0, tc_I, tc_L, tc_A, Nat.reduceAdd, Nat.reduceLeDiff, Nat.reduceEqDiff, Int.reduceEq, Int.reduceLT, Int.reduceLE, Int.reduceNeg, Int.reduceToNat, Int.cast_ofNat_Int, if_true, if_false, and_self, or_self, ite_self, bI_0, bI_1, bI_01, Bool.false_eq_true, reduceCtorEq, s_St_isName, hn, decide_false, bB_f, s_Wo_numberAt (s := 26 + f 29 r.toNat * 12 + i) (n := f 29 r.toNat) (i := i) rfl ⟨a3, a4⟩ ⟨a5, by omega⟩, s_Wo_itemAt (s := 26 + f 29 r.toNat * 12 + i) (n := f 29 r.toNat) (i := i) rfl ⟨a3, a4⟩ ⟨a5, by omega⟩, s_Sf_store (f := f) (n := f 29 r.toNat) (i := i) a3 a4 a5 a6 a7 ⟨a8, a9⟩]
theorem and_bit {N k : Nat} (hN : N < 2147483648) (hk : k < 31) : (o32 (fun x y => x &&& y) (N : Int) (o32 (fun x y => x <<< (y &&& 31)) 1 (k : Int)) = 0) = ¬ (N.testBit k = true) := by
  rw [o32_shl1 hk, o32_and hN (p2_31 hk)]
  cases h : N.testBit k
  · have e : N &&& 2 ^ k = 0 := by
      apply Nat.eq_of_testBit_eq
      intro i
      rw [Nat.testBit_and, Nat.testBit_two_pow, Nat.zero_testBit]
      by_cases hi : k = i
      · subst hi; rw [h]; rfl
      · simp [hi]
    rw [e]; simp
  · have e : ¬ N &&& 2 ^ k = 0 := by
      intro e
      have : (N &&& 2 ^ k).testBit k = true := by rw [Nat.testBit_and, Nat.testBit_two_pow, h]; simp
      rw [e, Nat.zero_testBit] at this
      cases this
    have e' : ¬ ((N &&& 2 ^ k : Nat) : Int) = 0 := by omega
    simp; exact e
/-- was it read? -/
def rdP (f : Mem) (N : Nat) (I : Nat → Nat) : Pl → Bool
  | .inl k => N.testBit k.toNat
  | .inr (r, i) => (I (f 29 r.toNat).toNat).testBit i.toNat
theorem s_Wo_wasRead {N : Nat} {I : Nat → Nat} {f1 : Mem} (hW : WS f1 N I) (hf : FX f f1) (h : OkP f p) : VV L (d + 1) m_Wo_wasRead 0 [some (tA 149), some (tI (spC f p)), none] [] (WW f1 t g) Q = Q (some (tI (bB (rdP f N I p)))) (WW f1 t g) := by
  obtain ⟨w1, w2, w3⟩ := hW
  match p, h with
  | .inl k, h =>
    have hn : (0 ≤ k ∧ k < 26) := ⟨h.1, h.2.1⟩
    have kN : ((k.toNat : Nat) : Int) = k := by omega
    have hb := and_bit (N := N) (k := k.toNat) (by omega) (by omega)
    rw [kN] at hb
    simp only [spC, rdP, u_Wo_wasRead_0, u_Wo_wasRead_1, u_Wo_wasRead_4, u_Wo_wasRead_7, u_Wo_wasRead_8, u_Wo_wasRead_11, u_Wo_wasRead_12, u_Wo_wasRead_13, u_Wo_wasRead_14, u_Wo_wasRead_15, u_Wo_wasRead_18, u_Wo_wasRead_19, u_Wo_wasRead_22, u_Wo_wasRead_23, u_Wo_wasRead_24, u_Wo_wasRead_25, u_Wo_wasRead_28, u_Wo_wasRead_29, u_Wo_wasRead_30, u_Wo_wasRead_33, u_Wo_wasRead_36, u_Wo_wasRead_37, u_Wo_wasRead_40, u_Wo_wasRead_41, u_Wo_wasRead_42, u_Wo_wasRead_43, u_Wo_wasRead_44, u_Wo_wasRead_47, u_Wo_wasRead_48, u_Wo_wasRead_49, u_Wo_wasRead_52, u_Wo_wasRead_53, u_Wo_wasRead_56, u_Wo_wasRead_57, h1_149, gt_149_3, pt_149_3, gt_149_2, h1_150, h2_150, gt_150, pt_150, ne_eq, not_false_eq_true, not_true_eq_false, true_and, and_true, true_or, or_true, eq_self, Option.toList_some, Option.toList_none, List.cons_append, List.nil_append, tc_0, tc_I, tc_L, tc_A, Nat.reduceAdd, Nat.reduceLeDiff, Nat.reduceEqDiff, Int.reduceEq, Int.reduceLT, Int.reduceLE, Int.reduceNeg, Int.reduceToNat, Int.cast_ofNat_Int, if_true, if_false, and_self, or_self, ite_self, bI_0, bI_1, bI_01, Bool.false_eq_true, reduceCtorEq, s_St_isName, hn, decide_true, bB_t, w1, hb]
    cases N.testBit k.toNat <;> simp [bB]
  | .inr (r, i), h =>
    obtain ⟨a1, a2, a3, a4, a5, a6, a7, a8, a9⟩ := h
    have hn : ¬ (0 ≤ 26 + f 29 r.toNat * 12 + i ∧ 26 + f 29 r.toNat * 12 + i < 26) := by omega
    have hnn : (0 ≤ f 29 r.toNat ∧ f 29 r.toNat < 15) := ⟨a3, a4⟩
    have iN : ((i.toNat : Nat) : Int) = i := by omega
    have hI := w3 (f 29 r.toNat).toNat (by omega)
    have hb := and_bit (N := I (f 29 r.toNat).toNat) (k := i.toNat) (by omega) (by omega)
    rw [iN] at hb
    simp only [spC, rdP, u_Wo_wasRead_0, u_Wo_wasRead_1, u_Wo_wasRead_4, u_Wo_wasRead_7, u_Wo_wasRead_8, u_Wo_wasRead_11, u_Wo_wasRead_12, u_Wo_wasRead_13, u_Wo_wasRead_14, u_Wo_wasRead_15, u_Wo_wasRead_18, u_Wo_wasRead_19, u_Wo_wasRead_22, u_Wo_wasRead_23, u_Wo_wasRead_24, u_Wo_wasRead_25, u_Wo_wasRead_28, u_Wo_wasRead_29, u_Wo_wasRead_30, u_Wo_wasRead_33, u_Wo_wasRead_36, u_Wo_wasRead_37, u_Wo_wasRead_40, u_Wo_wasRead_41, u_Wo_wasRead_42, u_Wo_wasRead_43, u_Wo_wasRead_44, u_Wo_wasRead_47, u_Wo_wasRead_48, u_Wo_wasRead_49, u_Wo_wasRead_52, u_Wo_wasRead_53, u_Wo_wasRead_56, u_Wo_wasRead_57, h1_149, gt_149_3, pt_149_3, gt_149_2, h1_150, h2_150, gt_150, pt_150, ne_eq, not_false_eq_true, not_true_eq_false, true_and, and_true, true_or, or_true, eq_self, Option.toList_some, Option.toList_none, List.cons_append, List.nil_append, tc_0, tc_I, tc_L, tc_A, Nat.reduceAdd, Nat.reduceLeDiff, Nat.reduceEqDiff, Int.reduceEq, Int.reduceLT, Int.reduceLE, Int.reduceNeg, Int.reduceToNat, Int.cast_ofNat_Int, if_true, if_false, and_self, or_self, ite_self, bI_0, bI_1, bI_01, Bool.false_eq_true, reduceCtorEq, s_St_isName, hn, decide_false, bB_f, s_Wo_numberAt (s := 26 + f 29 r.toNat * 12 + i) (n := f 29 r.toNat) (i := i) rfl ⟨a3, a4⟩ ⟨a5, by omega⟩, s_Sf_isNumber, hnn, decide_true, bB_t, a3, a4, hI.1, s_Wo_itemAt (s := 26 + f 29 r.toNat * 12 + i) (n := f 29 r.toNat) (i := i) rfl ⟨a3, a4⟩ ⟨a5, by omega⟩, hb]
    cases (I (f 29 r.toNat).toNat).testBit i.toNat <;> simp [bB]
end
